/-! the methods of the program, 5 -/
theorem d_Pl_legsUpToFix_0 : decode qC_Pl_legsUpToFix.1 0 = .ok (.iload_n 2, 1) := by decide +kernel
theorem d_Pl_legsUpToFix_1 : decode qC_Pl_legsUpToFix.1 1 = .ok (.ldc 35, 2) := by decide +kernel
theorem d_Pl_legsUpToFix_3 : decode qC_Pl_legsUpToFix.1 3 = .ok (.if_icmp .ne 5, 3) := by decide +kernel
theorem d_Pl_legsUpToFix_6 : decode qC_Pl_legsUpToFix.1 6 = .ok (.iconst 0, 1) := by decide +kernel
theorem d_Pl_legsUpToFix_7 : decode qC_Pl_legsUpToFix.1 7 = .ok (.ireturn, 1) := by decide +kernel
theorem d_Pl_legsUpToFix_8 : decode qC_Pl_legsUpToFix.1 8 = .ok (.iload_n 1, 1) := by decide +kernel
theorem d_Pl_legsUpToFix_9 : decode qC_Pl_legsUpToFix.1 9 = .ok (.istore_n 3, 1) := by decide +kernel
theorem d_Pl_legsUpToFix_10 : decode qC_Pl_legsUpToFix.1 10 = .ok (.iload_n 3, 1) := by decide +kernel
theorem d_Pl_legsUpToFix_11 : decode qC_Pl_legsUpToFix.1 11 = .ok (.aload_n 0, 1) := by decide +kernel
theorem d_Pl_legsUpToFix_12 : decode qC_Pl_legsUpToFix.1 12 = .ok (.getfield 9, 3) := by decide +kernel
theorem d_Pl_legsUpToFix_15 : decode qC_Pl_legsUpToFix.1 15 = .ok (.if_icmp .ge 28, 3) := by decide +kernel
theorem d_Pl_legsUpToFix_18 : decode qC_Pl_legsUpToFix.1 18 = .ok (.aload_n 0, 1) := by decide +kernel
theorem d_Pl_legsUpToFix_19 : decode qC_Pl_legsUpToFix.1 19 = .ok (.getfield 27, 3) := by decide +kernel
theorem d_Pl_legsUpToFix_22 : decode qC_Pl_legsUpToFix.1 22 = .ok (.iload_n 3, 1) := by decide +kernel
theorem d_Pl_legsUpToFix_23 : decode qC_Pl_legsUpToFix.1 23 = .ok (.iconst 1, 1) := by decide +kernel
theorem d_Pl_legsUpToFix_24 : decode qC_Pl_legsUpToFix.1 24 = .ok (.invokevirtual 36, 3) := by decide +kernel
theorem d_Pl_legsUpToFix_27 : decode qC_Pl_legsUpToFix.1 27 = .ok (.iload_n 2, 1) := by decide +kernel
theorem d_Pl_legsUpToFix_28 : decode qC_Pl_legsUpToFix.1 28 = .ok (.if_icmp .ne 9, 3) := by decide +kernel
theorem d_Pl_legsUpToFix_31 : decode qC_Pl_legsUpToFix.1 31 = .ok (.iload_n 3, 1) := by decide +kernel
theorem d_Pl_legsUpToFix_32 : decode qC_Pl_legsUpToFix.1 32 = .ok (.iload_n 1, 1) := by decide +kernel
theorem d_Pl_legsUpToFix_33 : decode qC_Pl_legsUpToFix.1 33 = .ok (.isub, 1) := by decide +kernel
theorem d_Pl_legsUpToFix_34 : decode qC_Pl_legsUpToFix.1 34 = .ok (.iconst 1, 1) := by decide +kernel
theorem d_Pl_legsUpToFix_35 : decode qC_Pl_legsUpToFix.1 35 = .ok (.iadd, 1) := by decide +kernel
theorem d_Pl_legsUpToFix_36 : decode qC_Pl_legsUpToFix.1 36 = .ok (.ireturn, 1) := by decide +kernel
theorem d_Pl_legsUpToFix_37 : decode qC_Pl_legsUpToFix.1 37 = .ok (.iinc 3 1, 3) := by decide +kernel
theorem d_Pl_legsUpToFix_40 : decode qC_Pl_legsUpToFix.1 40 = .ok (.goto (-30), 3) := by decide +kernel
theorem d_Pl_legsUpToFix_43 : decode qC_Pl_legsUpToFix.1 43 = .ok (.iconst 0, 1) := by decide +kernel
theorem d_Pl_legsUpToFix_44 : decode qC_Pl_legsUpToFix.1 44 = .ok (.ireturn, 1) := by decide +kernel
set_option maxRecDepth 100000 in
def lb_f_Pl_legsUpToFix_10 (σ : St) (o : Nat) (p2 : Int32) (J2 : Int32 → Option (Int32)) (J3 : Unit → Option (Int32)) (ih5 : Int32 → Option (Int32)) (a4 : Int32) : Option (Int32) :=
  if ((σ o 1) : Int32) ≤ a4 then (
  J3 ()
  ) else (
  Option.bind (f_Tb_get σ (rc o 0) a4 (1 : Int32)) fun x6 =>
  if (x6 : Int32) = p2 then (
  J2 a4
  ) else (
  Lt (a4 + (1 : Int32) : Int32) fun x7 =>
  ih5 x7
  )
  )
set_option maxRecDepth 100000 in
def f_Pl_legsUpToFix (σ : St) (o : Nat) (p1 : Int32) (p2 : Int32) : Option (Int32) :=
  if (p2 : Int32) = (-1000000 : Int32) then (
  some (0 : Int32)
  ) else (
  Jn (fun (x1 : Int32) =>
  some ((x1 - p1) + (1 : Int32))
  ) fun J2 =>
  Jn (fun (_ : Unit) =>
  some (0 : Int32)
  ) fun J3 =>
  lp (lb_f_Pl_legsUpToFix_10 σ o p2 J2 J3) 4000 p1
  )
set_option maxHeartbeats 4000000 in
set_option maxRecDepth 100000 in
theorem cC_Pl_legsUpToFix (l : Launch) (g : Ge) (hi : injB wC.2 g) (σ : St) (o : Nat) (ho : wC.2.2.1 o = .inr (3, 4)) (p1 : Int32) (p2 : Int32) (x : Int32) (h : f_Pl_legsUpToFix σ o p1 p2 = some x) : Ct l wC g yC_Pl_legsUpToFix qC_Pl_legsUpToFix 1 22 [.ref (g.1 o), .int p1, .int p2] σ (some (.int x), σ) := by
  refine Ct.of (out := (o_r σ)) FC_Pl_legsUpToFix rfl hi rfl h (fun z hz C => ?_)
  clear h
  subst hz
  unfold f_Pl_legsUpToFix
  show Rt z qC_Pl_legsUpToFix wC g (o_r σ) 0 [(0, .ref (g.1 o)), (1, .int p1), (2, .int p2)] [] σ _
  refine q_iload_n (pc' := 1) C 2 d_Pl_legsUpToFix_0 rfl rfl ?_
  refine q_ldc (pc' := 3) C lcC_Pl_35 d_Pl_legsUpToFix_1 rfl ?_
  refine q_icmp_ne (tgt := 8) (pc' := 6) C d_Pl_legsUpToFix_3 rfl rfl ?_ ?_
  · refine q_iload_n (pc' := 9) C 1 d_Pl_legsUpToFix_8 rfl rfl ?_
    refine q_istore_n (pc' := 10) (lv' := [(3, .int p1), (0, .ref (g.1 o)), (1, .int p1), (2, .int p2)]) C d_Pl_legsUpToFix_9 (by decide) rfl rfl ?_
    refine q_join (fun J2 : Int32 → Option (Int32) => ∀ (x1 : Int32), Rt z qC_Pl_legsUpToFix wC g (o_r σ) 31 [(1, .int p1), (3, .int x1)] [] σ (J2 x1)) (fun x1 => ?_) (fun J2 hJ2 => ?_)
    · refine q_iload_n (pc' := 32) C 1 d_Pl_legsUpToFix_31 rfl rfl ?_
      refine q_iload_n (pc' := 33) C 0 d_Pl_legsUpToFix_32 rfl rfl ?_
      refine q_isub (pc' := 34) C d_Pl_legsUpToFix_33 rfl ?_
      refine q_iconst (pc' := 35) C d_Pl_legsUpToFix_34 ki_1 rfl ?_
      refine q_iadd (pc' := 36) C d_Pl_legsUpToFix_35 rfl ?_
      exact q_iret C rfl d_Pl_legsUpToFix_36 rfl
    refine q_join (fun J3 : Unit → Option (Int32) => ∀ (_ : Unit), Rt z qC_Pl_legsUpToFix wC g (o_r σ) 43 [] [] σ (J3 ())) (fun _ => ?_) (fun J3 hJ3 => ?_)
    · refine q_iconst (pc' := 44) C d_Pl_legsUpToFix_43 ki_0 rfl ?_
      exact q_iret C rfl d_Pl_legsUpToFix_44 rfl
    refine Rt.sub [1, 2, 3, 0] rfl (q_lp (fun a4 : Int32 => [(0, .ref (g.1 o)), (1, .int p1), (2, .int p2), (3, .int a4)]) (fun a4 => []) (fun a4 => σ) (fun ih5 hih5 a4 => ?_) 4000 p1)
    unfold lb_f_Pl_legsUpToFix_10
    refine q_iload_n (pc' := 11) C 3 d_Pl_legsUpToFix_10 rfl rfl ?_
    refine q_aload_n (pc' := 12) C 0 d_Pl_legsUpToFix_11 rfl rfl ?_
    refine gC_Pl_9 (pc' := 15) C o ho d_Pl_legsUpToFix_12 rfl rfl ?_
    refine q_icmp_ge (tgt := 43) (pc' := 18) C d_Pl_legsUpToFix_15 rfl rfl ?_ ?_
    · exact Rt.sub [] rfl (hJ3 ())
    · refine q_aload_n (pc' := 19) C 0 d_Pl_legsUpToFix_18 rfl rfl ?_
      refine gC_Pl_27 (pc' := 22) C o (rc o 0) ho (ly_3_0 ho).1 d_Pl_legsUpToFix_19 rfl rfl ?_
      refine q_iload_n (pc' := 23) C 3 d_Pl_legsUpToFix_22 rfl rfl ?_
      refine q_iconst (pc' := 24) C d_Pl_legsUpToFix_23 ki_1 rfl ?_
      refine q_callVr (fr' := 0) (lo' := 0) (pc' := 27) C FC_Tb_get lmC_Pl_36 d_Pl_legsUpToFix_24 (rc o 0) (jCo (ly_3_0 ho).2) (ly_3_0 ho).2 cC_8 [.int a4, .int (1 : Int32)] [] rfl rfl (Nat.le_of_ble_eq_true rfl) ⟨rfl, rfl⟩ (fun x h => cC_Tb_get _ g hi σ (rc o 0) (ly_3_0 ho).2 a4 (1 : Int32) x h) rfl (fun x6 hx6 => ?_)
      refine q_iload_n (pc' := 28) C 2 d_Pl_legsUpToFix_27 rfl rfl ?_
      refine q_icmp_ne (tgt := 37) (pc' := 31) C d_Pl_legsUpToFix_28 rfl rfl ?_ ?_
      · refine q_let (fun x7 e7 => ?_)
        refine q_iinc (pc' := 40) (lv' := [(3, .int x7), (0, .ref (g.1 o)), (1, .int p1), (2, .int p2)]) C 3 d_Pl_legsUpToFix_37 rfl (by rw [e7, ki_1]) (by decide) rfl rfl ?_
        refine q_goto (tgt := 10) C d_Pl_legsUpToFix_40 rfl ?_
        exact Rt.sub [1, 2, 3, 0] rfl (hih5 x7)
      · exact Rt.sub [1, 3] rfl (hJ2 a4)
  · refine q_iconst (pc' := 7) C d_Pl_legsUpToFix_6 ki_0 rfl ?_
    exact q_iret C rfl d_Pl_legsUpToFix_7 rfl
theorem d_Pl_splice_0 : decode qC_Pl_splice.1 0 = .ok (.aload_n 0, 1) := by decide +kernel
theorem d_Pl_splice_1 : decode qC_Pl_splice.1 1 = .ok (.getfield 27, 3) := by decide +kernel
theorem d_Pl_splice_4 : decode qC_Pl_splice.1 4 = .ok (.aload_n 0, 1) := by decide +kernel
theorem d_Pl_splice_5 : decode qC_Pl_splice.1 5 = .ok (.getfield 27, 3) := by decide +kernel
theorem d_Pl_splice_8 : decode qC_Pl_splice.1 8 = .ok (.iload_n 1, 1) := by decide +kernel
theorem d_Pl_splice_9 : decode qC_Pl_splice.1 9 = .ok (.iload_n 2, 1) := by decide +kernel
theorem d_Pl_splice_10 : decode qC_Pl_splice.1 10 = .ok (.iadd, 1) := by decide +kernel
theorem d_Pl_splice_11 : decode qC_Pl_splice.1 11 = .ok (.iload_n 1, 1) := by decide +kernel
theorem d_Pl_splice_12 : decode qC_Pl_splice.1 12 = .ok (.iload 4, 2) := by decide +kernel
theorem d_Pl_splice_14 : decode qC_Pl_splice.1 14 = .ok (.iadd, 1) := by decide +kernel
theorem d_Pl_splice_15 : decode qC_Pl_splice.1 15 = .ok (.aload_n 0, 1) := by decide +kernel
theorem d_Pl_splice_16 : decode qC_Pl_splice.1 16 = .ok (.getfield 9, 3) := by decide +kernel
theorem d_Pl_splice_19 : decode qC_Pl_splice.1 19 = .ok (.iload_n 1, 1) := by decide +kernel
theorem d_Pl_splice_20 : decode qC_Pl_splice.1 20 = .ok (.isub, 1) := by decide +kernel
theorem d_Pl_splice_21 : decode qC_Pl_splice.1 21 = .ok (.iload_n 2, 1) := by decide +kernel
theorem d_Pl_splice_22 : decode qC_Pl_splice.1 22 = .ok (.isub, 1) := by decide +kernel
theorem d_Pl_splice_23 : decode qC_Pl_splice.1 23 = .ok (.invokevirtual 40, 3) := by decide +kernel
theorem d_Pl_splice_26 : decode qC_Pl_splice.1 26 = .ok (.aload_n 0, 1) := by decide +kernel
theorem d_Pl_splice_27 : decode qC_Pl_splice.1 27 = .ok (.getfield 27, 3) := by decide +kernel
theorem d_Pl_splice_30 : decode qC_Pl_splice.1 30 = .ok (.aload_n 3, 1) := by decide +kernel
theorem d_Pl_splice_31 : decode qC_Pl_splice.1 31 = .ok (.iconst 0, 1) := by decide +kernel
theorem d_Pl_splice_32 : decode qC_Pl_splice.1 32 = .ok (.iload_n 1, 1) := by decide +kernel
theorem d_Pl_splice_33 : decode qC_Pl_splice.1 33 = .ok (.iload 4, 2) := by decide +kernel
theorem d_Pl_splice_35 : decode qC_Pl_splice.1 35 = .ok (.invokevirtual 40, 3) := by decide +kernel
theorem d_Pl_splice_38 : decode qC_Pl_splice.1 38 = .ok (.iload_n 2, 1) := by decide +kernel
theorem d_Pl_splice_39 : decode qC_Pl_splice.1 39 = .ok (.ifCond .ne 25, 3) := by decide +kernel
theorem d_Pl_splice_42 : decode qC_Pl_splice.1 42 = .ok (.iload_n 1, 1) := by decide +kernel
theorem d_Pl_splice_43 : decode qC_Pl_splice.1 43 = .ok (.aload_n 0, 1) := by decide +kernel
theorem d_Pl_splice_44 : decode qC_Pl_splice.1 44 = .ok (.getfield 9, 3) := by decide +kernel
theorem d_Pl_splice_47 : decode qC_Pl_splice.1 47 = .ok (.if_icmp .ge 17, 3) := by decide +kernel
theorem d_Pl_splice_50 : decode qC_Pl_splice.1 50 = .ok (.aload_n 0, 1) := by decide +kernel
theorem d_Pl_splice_51 : decode qC_Pl_splice.1 51 = .ok (.getfield 27, 3) := by decide +kernel
theorem d_Pl_splice_54 : decode qC_Pl_splice.1 54 = .ok (.iload_n 1, 1) := by decide +kernel
theorem d_Pl_splice_55 : decode qC_Pl_splice.1 55 = .ok (.iload 4, 2) := by decide +kernel
theorem d_Pl_splice_57 : decode qC_Pl_splice.1 57 = .ok (.iadd, 1) := by decide +kernel
theorem d_Pl_splice_58 : decode qC_Pl_splice.1 58 = .ok (.bipush 13, 2) := by decide +kernel
theorem d_Pl_splice_60 : decode qC_Pl_splice.1 60 = .ok (.iconst 1, 1) := by decide +kernel
theorem d_Pl_splice_61 : decode qC_Pl_splice.1 61 = .ok (.invokevirtual 31, 3) := by decide +kernel
theorem d_Pl_splice_64 : decode qC_Pl_splice.1 64 = .ok (.aload_n 0, 1) := by decide +kernel
theorem d_Pl_splice_65 : decode qC_Pl_splice.1 65 = .ok (.aload_n 0, 1) := by decide +kernel
theorem d_Pl_splice_66 : decode qC_Pl_splice.1 66 = .ok (.getfield 9, 3) := by decide +kernel
theorem d_Pl_splice_69 : decode qC_Pl_splice.1 69 = .ok (.iload_n 2, 1) := by decide +kernel
theorem d_Pl_splice_70 : decode qC_Pl_splice.1 70 = .ok (.isub, 1) := by decide +kernel
theorem d_Pl_splice_71 : decode qC_Pl_splice.1 71 = .ok (.iload 4, 2) := by decide +kernel
theorem d_Pl_splice_73 : decode qC_Pl_splice.1 73 = .ok (.iadd, 1) := by decide +kernel
theorem d_Pl_splice_74 : decode qC_Pl_splice.1 74 = .ok (.putfield 9, 3) := by decide +kernel
theorem d_Pl_splice_77 : decode qC_Pl_splice.1 77 = .ok (.return_, 1) := by decide +kernel
set_option maxRecDepth 100000 in
def f_Pl_splice (σ : St) (o : Nat) (p1 : Int32) (p2 : Int32) (p3 : Nat) (p4 : Int32) : Option (St) :=
  Option.bind (f_Tb_copyRows σ (rc o 0) (rc o 0) (p1 + p2) (p1 + p4) (((σ o 1) - p1) - p2)) fun x1 =>
  Option.bind (f_Tb_copyRows x1 (rc o 0) p3 (0 : Int32) p1 p4) fun x2 =>
  Jn (fun (σ3 : St) =>
  Lt (s2 σ3 o 1 (((σ3 o 1) - p2) + p4)) fun σ5 =>
  some σ5
  ) fun J4 =>
  if (p2 : Int32) = 0 then (
  if ((x2 o 1) : Int32) ≤ p1 then (
  J4 x2
  ) else (
  Option.bind (f_Tb_put x2 (rc o 0) (p1 + p4) (13 : Int32) (1 : Int32)) fun x6 =>
  J4 x6
  )
  ) else (
  J4 x2
  )
set_option maxHeartbeats 4000000 in
set_option maxRecDepth 100000 in
theorem cC_Pl_splice (l : Launch) (g : Ge) (hi : injB wC.2 g) (σ : St) (o : Nat) (ho : wC.2.2.1 o = .inr (3, 4)) (p1 : Int32) (p2 : Int32) (p3 : Nat) (h3 : wC.2.2.1 p3 = .inr (8, 3)) (p4 : Int32) (x : St) (h : f_Pl_splice σ o p1 p2 p3 p4 = some x) : Ct l wC g yC_Pl_splice qC_Pl_splice 2 50 [.ref (g.1 o), .int p1, .int p2, .ref (g.1 p3), .int p4] σ (none, x) := by
  refine Ct.of (out := o_v) FC_Pl_splice rfl hi rfl h (fun z hz C => ?_)
  clear h
  subst hz
  unfold f_Pl_splice
  show Rt z qC_Pl_splice wC g o_v 0 [(0, .ref (g.1 o)), (1, .int p1), (2, .int p2), (3, .ref (g.1 p3)), (4, .int p4)] [] σ _
  refine q_aload_n (pc' := 1) C 0 d_Pl_splice_0 rfl rfl ?_
  refine gC_Pl_27 (pc' := 4) C o (rc o 0) ho (ly_3_0 ho).1 d_Pl_splice_1 rfl rfl ?_
  refine q_aload_n (pc' := 5) C 0 d_Pl_splice_4 rfl rfl ?_
  refine gC_Pl_27 (pc' := 8) C o (rc o 0) ho (ly_3_0 ho).1 d_Pl_splice_5 rfl rfl ?_
  refine q_iload_n (pc' := 9) C 1 d_Pl_splice_8 rfl rfl ?_
  refine q_iload_n (pc' := 10) C 2 d_Pl_splice_9 rfl rfl ?_
  refine q_iadd (pc' := 11) C d_Pl_splice_10 rfl ?_
  refine q_iload_n (pc' := 12) C 1 d_Pl_splice_11 rfl rfl ?_
  refine q_iload (pc' := 14) C 4 d_Pl_splice_12 rfl rfl ?_
  refine q_iadd (pc' := 15) C d_Pl_splice_14 rfl ?_
  refine q_aload_n (pc' := 16) C 0 d_Pl_splice_15 rfl rfl ?_
  refine gC_Pl_9 (pc' := 19) C o ho d_Pl_splice_16 rfl rfl ?_
  refine q_iload_n (pc' := 20) C 1 d_Pl_splice_19 rfl rfl ?_
  refine q_isub (pc' := 21) C d_Pl_splice_20 rfl ?_
  refine q_iload_n (pc' := 22) C 2 d_Pl_splice_21 rfl rfl ?_
  refine q_isub (pc' := 23) C d_Pl_splice_22 rfl ?_
  refine q_callVv (fr' := 1) (lo' := 26) (pc' := 26) C FC_Tb_copyRows lmC_Pl_40 d_Pl_splice_23 (rc o 0) (jCo (ly_3_0 ho).2) (ly_3_0 ho).2 cC_8 [.ref (g.1 (rc o 0)), .int (p1 + p2), .int (p1 + p4), .int (((σ o 1) - p1) - p2)] [] rfl rfl (Nat.le_of_ble_eq_true rfl) ⟨rfl, rfl⟩ (fun x h => cC_Tb_copyRows _ g hi σ (rc o 0) (ly_3_0 ho).2 (rc o 0) (ly_3_0 ho).2 (p1 + p2) (p1 + p4) (((σ o 1) - p1) - p2) x h) rfl (fun x1 hx1 => ?_)
  refine q_aload_n (pc' := 27) C 0 d_Pl_splice_26 rfl rfl ?_
  refine gC_Pl_27 (pc' := 30) C o (rc o 0) ho (ly_3_0 ho).1 d_Pl_splice_27 rfl rfl ?_
  refine q_aload_n (pc' := 31) C 3 d_Pl_splice_30 rfl rfl ?_
  refine q_iconst (pc' := 32) C d_Pl_splice_31 ki_0 rfl ?_
  refine q_iload_n (pc' := 33) C 1 d_Pl_splice_32 rfl rfl ?_
  refine q_iload (pc' := 35) C 4 d_Pl_splice_33 rfl rfl ?_
  refine q_callVv (fr' := 1) (lo' := 26) (pc' := 38) C FC_Tb_copyRows lmC_Pl_40 d_Pl_splice_35 (rc o 0) (jCo (ly_3_0 ho).2) (ly_3_0 ho).2 cC_8 [.ref (g.1 p3), .int (0 : Int32), .int p1, .int p4] [] rfl rfl (Nat.le_of_ble_eq_true rfl) ⟨rfl, rfl⟩ (fun x h => cC_Tb_copyRows _ g hi x1 (rc o 0) (ly_3_0 ho).2 p3 h3 (0 : Int32) p1 p4 x h) rfl (fun x2 hx2 => ?_)
  refine q_iload_n (pc' := 39) C 2 d_Pl_splice_38 rfl rfl ?_
  refine q_join (fun J4 : St → Option (St) => ∀ (σ3 : St), Rt z qC_Pl_splice wC g o_v 64 [(0, .ref (g.1 o)), (2, .int p2), (4, .int p4)] [] σ3 (J4 σ3)) (fun σ3 => ?_) (fun J4 hJ4 => ?_)
  · refine q_aload_n (pc' := 65) C 0 d_Pl_splice_64 rfl rfl ?_
    refine q_aload_n (pc' := 66) C 0 d_Pl_splice_65 rfl rfl ?_
    refine gC_Pl_9 (pc' := 69) C o ho d_Pl_splice_66 rfl rfl ?_
    refine q_iload_n (pc' := 70) C 1 d_Pl_splice_69 rfl rfl ?_
    refine q_isub (pc' := 71) C d_Pl_splice_70 rfl ?_
    refine q_iload (pc' := 73) C 2 d_Pl_splice_71 rfl rfl ?_
    refine q_iadd (pc' := 74) C d_Pl_splice_73 rfl ?_
    refine pC_Pl_9 (pc' := 77) C o ho d_Pl_splice_74 rfl rfl ?_
    refine q_let (fun σ5 e5 => ?_)
    refine q_state e5 ?_
    exact q_vret C rfl d_Pl_splice_77 rfl
  refine q_if_ne (tgt := 64) (pc' := 42) C d_Pl_splice_39 rfl rfl ?_ ?_
  · exact Rt.sub [0, 2, 4] rfl (hJ4 x2)
  · refine q_iload_n (pc' := 43) C 1 d_Pl_splice_42 rfl rfl ?_
    refine q_aload_n (pc' := 44) C 0 d_Pl_splice_43 rfl rfl ?_
    refine gC_Pl_9 (pc' := 47) C o ho d_Pl_splice_44 rfl rfl ?_
    refine q_icmp_ge (tgt := 64) (pc' := 50) C d_Pl_splice_47 rfl rfl ?_ ?_
    · exact Rt.sub [0, 2, 4] rfl (hJ4 x2)
    · refine q_aload_n (pc' := 51) C 0 d_Pl_splice_50 rfl rfl ?_
      refine gC_Pl_27 (pc' := 54) C o (rc o 0) ho (ly_3_0 ho).1 d_Pl_splice_51 rfl rfl ?_
      refine q_iload_n (pc' := 55) C 1 d_Pl_splice_54 rfl rfl ?_
      refine q_iload (pc' := 57) C 4 d_Pl_splice_55 rfl rfl ?_
      refine q_iadd (pc' := 58) C d_Pl_splice_57 rfl ?_
      refine q_bipush (pc' := 60) C d_Pl_splice_58 kb_13 rfl ?_
      refine q_iconst (pc' := 61) C d_Pl_splice_60 ki_1 rfl ?_
      refine q_callVv (fr' := 0) (lo' := 0) (pc' := 64) C FC_Tb_put lmC_Pl_31 d_Pl_splice_61 (rc o 0) (jCo (ly_3_0 ho).2) (ly_3_0 ho).2 cC_8 [.int (p1 + p4), .int (13 : Int32), .int (1 : Int32)] [] rfl rfl (Nat.le_of_ble_eq_true rfl) ⟨rfl, rfl⟩ (fun x h => cC_Tb_put _ g hi x2 (rc o 0) (ly_3_0 ho).2 (p1 + p4) (13 : Int32) (1 : Int32) x h) rfl (fun x6 hx6 => ?_)
      exact Rt.sub [0, 2, 4] rfl (hJ4 x6)
theorem d_Pl_removeLeg_0 : decode qC_Pl_removeLeg.1 0 = .ok (.aload_n 0, 1) := by decide +kernel
theorem d_Pl_removeLeg_1 : decode qC_Pl_removeLeg.1 1 = .ok (.getfield 27, 3) := by decide +kernel
theorem d_Pl_removeLeg_4 : decode qC_Pl_removeLeg.1 4 = .ok (.aload_n 0, 1) := by decide +kernel
theorem d_Pl_removeLeg_5 : decode qC_Pl_removeLeg.1 5 = .ok (.getfield 27, 3) := by decide +kernel
theorem d_Pl_removeLeg_8 : decode qC_Pl_removeLeg.1 8 = .ok (.iload_n 1, 1) := by decide +kernel
theorem d_Pl_removeLeg_9 : decode qC_Pl_removeLeg.1 9 = .ok (.iconst 1, 1) := by decide +kernel
theorem d_Pl_removeLeg_10 : decode qC_Pl_removeLeg.1 10 = .ok (.iadd, 1) := by decide +kernel
theorem d_Pl_removeLeg_11 : decode qC_Pl_removeLeg.1 11 = .ok (.iload_n 1, 1) := by decide +kernel
theorem d_Pl_removeLeg_12 : decode qC_Pl_removeLeg.1 12 = .ok (.aload_n 0, 1) := by decide +kernel
theorem d_Pl_removeLeg_13 : decode qC_Pl_removeLeg.1 13 = .ok (.getfield 9, 3) := by decide +kernel
theorem d_Pl_removeLeg_16 : decode qC_Pl_removeLeg.1 16 = .ok (.iload_n 1, 1) := by decide +kernel
theorem d_Pl_removeLeg_17 : decode qC_Pl_removeLeg.1 17 = .ok (.isub, 1) := by decide +kernel
theorem d_Pl_removeLeg_18 : decode qC_Pl_removeLeg.1 18 = .ok (.iconst 1, 1) := by decide +kernel
theorem d_Pl_removeLeg_19 : decode qC_Pl_removeLeg.1 19 = .ok (.isub, 1) := by decide +kernel
theorem d_Pl_removeLeg_20 : decode qC_Pl_removeLeg.1 20 = .ok (.invokevirtual 40, 3) := by decide +kernel
theorem d_Pl_removeLeg_23 : decode qC_Pl_removeLeg.1 23 = .ok (.aload_n 0, 1) := by decide +kernel
theorem d_Pl_removeLeg_24 : decode qC_Pl_removeLeg.1 24 = .ok (.dup, 1) := by decide +kernel
theorem d_Pl_removeLeg_25 : decode qC_Pl_removeLeg.1 25 = .ok (.getfield 9, 3) := by decide +kernel
theorem d_Pl_removeLeg_28 : decode qC_Pl_removeLeg.1 28 = .ok (.iconst 1, 1) := by decide +kernel
theorem d_Pl_removeLeg_29 : decode qC_Pl_removeLeg.1 29 = .ok (.isub, 1) := by decide +kernel
theorem d_Pl_removeLeg_30 : decode qC_Pl_removeLeg.1 30 = .ok (.putfield 9, 3) := by decide +kernel
theorem d_Pl_removeLeg_33 : decode qC_Pl_removeLeg.1 33 = .ok (.iload_n 1, 1) := by decide +kernel
theorem d_Pl_removeLeg_34 : decode qC_Pl_removeLeg.1 34 = .ok (.aload_n 0, 1) := by decide +kernel
theorem d_Pl_removeLeg_35 : decode qC_Pl_removeLeg.1 35 = .ok (.getfield 9, 3) := by decide +kernel
theorem d_Pl_removeLeg_38 : decode qC_Pl_removeLeg.1 38 = .ok (.if_icmp .ge 14, 3) := by decide +kernel
theorem d_Pl_removeLeg_41 : decode qC_Pl_removeLeg.1 41 = .ok (.aload_n 0, 1) := by decide +kernel
theorem d_Pl_removeLeg_42 : decode qC_Pl_removeLeg.1 42 = .ok (.getfield 27, 3) := by decide +kernel
theorem d_Pl_removeLeg_45 : decode qC_Pl_removeLeg.1 45 = .ok (.iload_n 1, 1) := by decide +kernel
theorem d_Pl_removeLeg_46 : decode qC_Pl_removeLeg.1 46 = .ok (.bipush 13, 2) := by decide +kernel
theorem d_Pl_removeLeg_48 : decode qC_Pl_removeLeg.1 48 = .ok (.iconst 1, 1) := by decide +kernel
theorem d_Pl_removeLeg_49 : decode qC_Pl_removeLeg.1 49 = .ok (.invokevirtual 31, 3) := by decide +kernel
theorem d_Pl_removeLeg_52 : decode qC_Pl_removeLeg.1 52 = .ok (.return_, 1) := by decide +kernel
set_option maxRecDepth 100000 in
def f_Pl_removeLeg (σ : St) (o : Nat) (p1 : Int32) : Option (St) :=
  Option.bind (f_Tb_copyRows σ (rc o 0) (rc o 0) (p1 + (1 : Int32)) p1 (((σ o 1) - p1) - (1 : Int32))) fun x1 =>
  Lt (s2 x1 o 1 ((x1 o 1) - (1 : Int32))) fun σ2 =>
  Jn (fun (σ3 : St) =>
  some σ3
  ) fun J4 =>
  if ((σ2 o 1) : Int32) ≤ p1 then (
  J4 σ2
  ) else (
  Option.bind (f_Tb_put σ2 (rc o 0) p1 (13 : Int32) (1 : Int32)) fun x5 =>
  J4 x5
  )
set_option maxHeartbeats 4000000 in
set_option maxRecDepth 100000 in
theorem cC_Pl_removeLeg (l : Launch) (g : Ge) (hi : injB wC.2 g) (σ : St) (o : Nat) (ho : wC.2.2.1 o = .inr (3, 4)) (p1 : Int32) (x : St) (h : f_Pl_removeLeg σ o p1 = some x) : Ct l wC g yC_Pl_removeLeg qC_Pl_removeLeg 2 50 [.ref (g.1 o), .int p1] σ (none, x) := by
  refine Ct.of (out := o_v) FC_Pl_removeLeg rfl hi rfl h (fun z hz C => ?_)
  clear h
  subst hz
  unfold f_Pl_removeLeg
  show Rt z qC_Pl_removeLeg wC g o_v 0 [(0, .ref (g.1 o)), (1, .int p1)] [] σ _
  refine q_aload_n (pc' := 1) C 0 d_Pl_removeLeg_0 rfl rfl ?_
  refine gC_Pl_27 (pc' := 4) C o (rc o 0) ho (ly_3_0 ho).1 d_Pl_removeLeg_1 rfl rfl ?_
  refine q_aload_n (pc' := 5) C 0 d_Pl_removeLeg_4 rfl rfl ?_
  refine gC_Pl_27 (pc' := 8) C o (rc o 0) ho (ly_3_0 ho).1 d_Pl_removeLeg_5 rfl rfl ?_
  refine q_iload_n (pc' := 9) C 1 d_Pl_removeLeg_8 rfl rfl ?_
  refine q_iconst (pc' := 10) C d_Pl_removeLeg_9 ki_1 rfl ?_
  refine q_iadd (pc' := 11) C d_Pl_removeLeg_10 rfl ?_
  refine q_iload_n (pc' := 12) C 1 d_Pl_removeLeg_11 rfl rfl ?_
  refine q_aload_n (pc' := 13) C 0 d_Pl_removeLeg_12 rfl rfl ?_
  refine gC_Pl_9 (pc' := 16) C o ho d_Pl_removeLeg_13 rfl rfl ?_
  refine q_iload_n (pc' := 17) C 1 d_Pl_removeLeg_16 rfl rfl ?_
  refine q_isub (pc' := 18) C d_Pl_removeLeg_17 rfl ?_
  refine q_iconst (pc' := 19) C d_Pl_removeLeg_18 ki_1 rfl ?_
  refine q_isub (pc' := 20) C d_Pl_removeLeg_19 rfl ?_
  refine q_callVv (fr' := 1) (lo' := 26) (pc' := 23) C FC_Tb_copyRows lmC_Pl_40 d_Pl_removeLeg_20 (rc o 0) (jCo (ly_3_0 ho).2) (ly_3_0 ho).2 cC_8 [.ref (g.1 (rc o 0)), .int (p1 + (1 : Int32)), .int p1, .int (((σ o 1) - p1) - (1 : Int32))] [] rfl rfl (Nat.le_of_ble_eq_true rfl) ⟨rfl, rfl⟩ (fun x h => cC_Tb_copyRows _ g hi σ (rc o 0) (ly_3_0 ho).2 (rc o 0) (ly_3_0 ho).2 (p1 + (1 : Int32)) p1 (((σ o 1) - p1) - (1 : Int32)) x h) rfl (fun x1 hx1 => ?_)
  refine q_aload_n (pc' := 24) C 0 d_Pl_removeLeg_23 rfl rfl ?_
  refine q_dup (pc' := 25) C d_Pl_removeLeg_24 rfl rfl ?_
  refine gC_Pl_9 (pc' := 28) C o ho d_Pl_removeLeg_25 rfl rfl ?_
  refine q_iconst (pc' := 29) C d_Pl_removeLeg_28 ki_1 rfl ?_
  refine q_isub (pc' := 30) C d_Pl_removeLeg_29 rfl ?_
  refine pC_Pl_9 (pc' := 33) C o ho d_Pl_removeLeg_30 rfl rfl ?_
  refine q_let (fun σ2 e2 => ?_)
  refine q_state e2 ?_
  refine q_iload_n (pc' := 34) C 1 d_Pl_removeLeg_33 rfl rfl ?_
  refine q_aload_n (pc' := 35) C 0 d_Pl_removeLeg_34 rfl rfl ?_
  refine gC_Pl_9 (pc' := 38) C o ho d_Pl_removeLeg_35 rfl rfl ?_
  refine q_join (fun J4 : St → Option (St) => ∀ (σ3 : St), Rt z qC_Pl_removeLeg wC g o_v 52 [] [] σ3 (J4 σ3)) (fun σ3 => ?_) (fun J4 hJ4 => ?_)
  · exact q_vret C rfl d_Pl_removeLeg_52 rfl
  refine q_icmp_ge (tgt := 52) (pc' := 41) C d_Pl_removeLeg_38 rfl rfl ?_ ?_
  · exact Rt.sub [] rfl (hJ4 σ2)
  · refine q_aload_n (pc' := 42) C 0 d_Pl_removeLeg_41 rfl rfl ?_
    refine gC_Pl_27 (pc' := 45) C o (rc o 0) ho (ly_3_0 ho).1 d_Pl_removeLeg_42 rfl rfl ?_
    refine q_iload_n (pc' := 46) C 1 d_Pl_removeLeg_45 rfl rfl ?_
    refine q_bipush (pc' := 48) C d_Pl_removeLeg_46 kb_13 rfl ?_
    refine q_iconst (pc' := 49) C d_Pl_removeLeg_48 ki_1 rfl ?_
    refine q_callVv (fr' := 0) (lo' := 0) (pc' := 52) C FC_Tb_put lmC_Pl_31 d_Pl_removeLeg_49 (rc o 0) (jCo (ly_3_0 ho).2) (ly_3_0 ho).2 cC_8 [.int p1, .int (13 : Int32), .int (1 : Int32)] [] rfl rfl (Nat.le_of_ble_eq_true rfl) ⟨rfl, rfl⟩ (fun x h => cC_Tb_put _ g hi σ2 (rc o 0) (ly_3_0 ho).2 p1 (13 : Int32) (1 : Int32) x h) rfl (fun x5 hx5 => ?_)
    exact Rt.sub [] rfl (hJ4 x5)
theorem d_Pl_goDirect_0 : decode qC_Pl_goDirect.1 0 = .ok (.aload_n 0, 1) := by decide +kernel
theorem d_Pl_goDirect_1 : decode qC_Pl_goDirect.1 1 = .ok (.getfield 27, 3) := by decide +kernel
theorem d_Pl_goDirect_4 : decode qC_Pl_goDirect.1 4 = .ok (.aload_n 0, 1) := by decide +kernel
theorem d_Pl_goDirect_5 : decode qC_Pl_goDirect.1 5 = .ok (.getfield 27, 3) := by decide +kernel
theorem d_Pl_goDirect_8 : decode qC_Pl_goDirect.1 8 = .ok (.iload_n 1, 1) := by decide +kernel
theorem d_Pl_goDirect_9 : decode qC_Pl_goDirect.1 9 = .ok (.iconst 1, 1) := by decide +kernel
theorem d_Pl_goDirect_10 : decode qC_Pl_goDirect.1 10 = .ok (.aload_n 0, 1) := by decide +kernel
theorem d_Pl_goDirect_11 : decode qC_Pl_goDirect.1 11 = .ok (.getfield 9, 3) := by decide +kernel
theorem d_Pl_goDirect_14 : decode qC_Pl_goDirect.1 14 = .ok (.iload_n 1, 1) := by decide +kernel
theorem d_Pl_goDirect_15 : decode qC_Pl_goDirect.1 15 = .ok (.isub, 1) := by decide +kernel
theorem d_Pl_goDirect_16 : decode qC_Pl_goDirect.1 16 = .ok (.invokevirtual 40, 3) := by decide +kernel
theorem d_Pl_goDirect_19 : decode qC_Pl_goDirect.1 19 = .ok (.aload_n 0, 1) := by decide +kernel
theorem d_Pl_goDirect_20 : decode qC_Pl_goDirect.1 20 = .ok (.aload_n 0, 1) := by decide +kernel
theorem d_Pl_goDirect_21 : decode qC_Pl_goDirect.1 21 = .ok (.getfield 9, 3) := by decide +kernel
theorem d_Pl_goDirect_24 : decode qC_Pl_goDirect.1 24 = .ok (.iload_n 1, 1) := by decide +kernel
theorem d_Pl_goDirect_25 : decode qC_Pl_goDirect.1 25 = .ok (.isub, 1) := by decide +kernel
theorem d_Pl_goDirect_26 : decode qC_Pl_goDirect.1 26 = .ok (.iconst 1, 1) := by decide +kernel
theorem d_Pl_goDirect_27 : decode qC_Pl_goDirect.1 27 = .ok (.iadd, 1) := by decide +kernel
theorem d_Pl_goDirect_28 : decode qC_Pl_goDirect.1 28 = .ok (.putfield 9, 3) := by decide +kernel
theorem d_Pl_goDirect_31 : decode qC_Pl_goDirect.1 31 = .ok (.aload_n 0, 1) := by decide +kernel
theorem d_Pl_goDirect_32 : decode qC_Pl_goDirect.1 32 = .ok (.getfield 27, 3) := by decide +kernel
theorem d_Pl_goDirect_35 : decode qC_Pl_goDirect.1 35 = .ok (.iconst 0, 1) := by decide +kernel
theorem d_Pl_goDirect_36 : decode qC_Pl_goDirect.1 36 = .ok (.bipush 8, 2) := by decide +kernel
theorem d_Pl_goDirect_38 : decode qC_Pl_goDirect.1 38 = .ok (.invokestatic 47, 3) := by decide +kernel
theorem d_Pl_goDirect_41 : decode qC_Pl_goDirect.1 41 = .ok (.aload_n 0, 1) := by decide +kernel
theorem d_Pl_goDirect_42 : decode qC_Pl_goDirect.1 42 = .ok (.getfield 27, 3) := by decide +kernel
theorem d_Pl_goDirect_45 : decode qC_Pl_goDirect.1 45 = .ok (.iconst 0, 1) := by decide +kernel
theorem d_Pl_goDirect_46 : decode qC_Pl_goDirect.1 46 = .ok (.bipush 7, 2) := by decide +kernel
theorem d_Pl_goDirect_48 : decode qC_Pl_goDirect.1 48 = .ok (.iload_n 2, 1) := by decide +kernel
theorem d_Pl_goDirect_49 : decode qC_Pl_goDirect.1 49 = .ok (.invokevirtual 31, 3) := by decide +kernel
theorem d_Pl_goDirect_52 : decode qC_Pl_goDirect.1 52 = .ok (.aload_n 0, 1) := by decide +kernel
theorem d_Pl_goDirect_53 : decode qC_Pl_goDirect.1 53 = .ok (.getfield 27, 3) := by decide +kernel
theorem d_Pl_goDirect_56 : decode qC_Pl_goDirect.1 56 = .ok (.iconst 0, 1) := by decide +kernel
theorem d_Pl_goDirect_57 : decode qC_Pl_goDirect.1 57 = .ok (.bipush 8, 2) := by decide +kernel
theorem d_Pl_goDirect_59 : decode qC_Pl_goDirect.1 59 = .ok (.iload_n 3, 1) := by decide +kernel
theorem d_Pl_goDirect_60 : decode qC_Pl_goDirect.1 60 = .ok (.invokevirtual 31, 3) := by decide +kernel
theorem d_Pl_goDirect_63 : decode qC_Pl_goDirect.1 63 = .ok (.aload_n 0, 1) := by decide +kernel
theorem d_Pl_goDirect_64 : decode qC_Pl_goDirect.1 64 = .ok (.getfield 27, 3) := by decide +kernel
theorem d_Pl_goDirect_67 : decode qC_Pl_goDirect.1 67 = .ok (.iconst 0, 1) := by decide +kernel
theorem d_Pl_goDirect_68 : decode qC_Pl_goDirect.1 68 = .ok (.iconst 2, 1) := by decide +kernel
theorem d_Pl_goDirect_69 : decode qC_Pl_goDirect.1 69 = .ok (.iload 4, 2) := by decide +kernel
theorem d_Pl_goDirect_71 : decode qC_Pl_goDirect.1 71 = .ok (.invokevirtual 31, 3) := by decide +kernel
theorem d_Pl_goDirect_74 : decode qC_Pl_goDirect.1 74 = .ok (.aload_n 0, 1) := by decide +kernel
theorem d_Pl_goDirect_75 : decode qC_Pl_goDirect.1 75 = .ok (.getfield 27, 3) := by decide +kernel
theorem d_Pl_goDirect_78 : decode qC_Pl_goDirect.1 78 = .ok (.iconst 1, 1) := by decide +kernel
theorem d_Pl_goDirect_79 : decode qC_Pl_goDirect.1 79 = .ok (.bipush 13, 2) := by decide +kernel
theorem d_Pl_goDirect_81 : decode qC_Pl_goDirect.1 81 = .ok (.iconst 0, 1) := by decide +kernel
theorem d_Pl_goDirect_82 : decode qC_Pl_goDirect.1 82 = .ok (.invokevirtual 31, 3) := by decide +kernel
theorem d_Pl_goDirect_85 : decode qC_Pl_goDirect.1 85 = .ok (.aload_n 0, 1) := by decide +kernel
theorem d_Pl_goDirect_86 : decode qC_Pl_goDirect.1 86 = .ok (.iconst 1, 1) := by decide +kernel
theorem d_Pl_goDirect_87 : decode qC_Pl_goDirect.1 87 = .ok (.invokevirtual 51, 3) := by decide +kernel
theorem d_Pl_goDirect_90 : decode qC_Pl_goDirect.1 90 = .ok (.bipush 7, 2) := by decide +kernel
theorem d_Pl_goDirect_92 : decode qC_Pl_goDirect.1 92 = .ok (.if_icmp .eq 13, 3) := by decide +kernel
theorem d_Pl_goDirect_95 : decode qC_Pl_goDirect.1 95 = .ok (.aload_n 0, 1) := by decide +kernel
theorem d_Pl_goDirect_96 : decode qC_Pl_goDirect.1 96 = .ok (.getfield 27, 3) := by decide +kernel
theorem d_Pl_goDirect_99 : decode qC_Pl_goDirect.1 99 = .ok (.iconst 1, 1) := by decide +kernel
theorem d_Pl_goDirect_100 : decode qC_Pl_goDirect.1 100 = .ok (.iconst 0, 1) := by decide +kernel
theorem d_Pl_goDirect_101 : decode qC_Pl_goDirect.1 101 = .ok (.iconst 2, 1) := by decide +kernel
theorem d_Pl_goDirect_102 : decode qC_Pl_goDirect.1 102 = .ok (.invokevirtual 31, 3) := by decide +kernel
theorem d_Pl_goDirect_105 : decode qC_Pl_goDirect.1 105 = .ok (.aload_n 0, 1) := by decide +kernel
theorem d_Pl_goDirect_106 : decode qC_Pl_goDirect.1 106 = .ok (.invokevirtual 44, 3) := by decide +kernel
theorem d_Pl_goDirect_109 : decode qC_Pl_goDirect.1 109 = .ok (.return_, 1) := by decide +kernel
set_option maxRecDepth 100000 in
def f_Pl_goDirect (σ : St) (o : Nat) (p1 : Int32) (p2 : Int32) (p3 : Int32) (p4 : Int32) : Option (St) :=
  Option.bind (f_Tb_copyRows σ (rc o 0) (rc o 0) p1 (1 : Int32) ((σ o 1) - p1)) fun x1 =>
  Lt (s2 x1 o 1 (((x1 o 1) - p1) + (1 : Int32))) fun σ2 =>
  Option.bind (f_Pl_putPlainLeg σ2 (rc o 0) (0 : Int32) (8 : Int32)) fun x3 =>
  Option.bind (f_Tb_put x3 (rc o 0) (0 : Int32) (7 : Int32) p2) fun x4 =>
  Option.bind (f_Tb_put x4 (rc o 0) (0 : Int32) (8 : Int32) p3) fun x5 =>
  Option.bind (f_Tb_put x5 (rc o 0) (0 : Int32) (2 : Int32) p4) fun x6 =>
  Option.bind (f_Tb_put x6 (rc o 0) (1 : Int32) (13 : Int32) (0 : Int32)) fun x7 =>
  Option.bind (f_Pl_kind x7 o (1 : Int32)) fun x8 =>
  Jn (fun (σ9 : St) =>
  Option.bind (f_Pl_restart σ9 o) fun x11 =>
  some x11
  ) fun J10 =>
  if (x8 : Int32) = (7 : Int32) then (
  J10 x7
  ) else (
  Option.bind (f_Tb_put x7 (rc o 0) (1 : Int32) (0 : Int32) (2 : Int32)) fun x12 =>
  J10 x12
  )
set_option maxHeartbeats 4000000 in
set_option maxRecDepth 100000 in
theorem cC_Pl_goDirect (l : Launch) (g : Ge) (hi : injB wC.2 g) (σ : St) (o : Nat) (ho : wC.2.2.1 o = .inr (3, 4)) (p1 : Int32) (p2 : Int32) (p3 : Int32) (p4 : Int32) (x : St) (h : f_Pl_goDirect σ o p1 p2 p3 p4 = some x) : Ct l wC g yC_Pl_goDirect qC_Pl_goDirect 2 50 [.ref (g.1 o), .int p1, .int p2, .int p3, .int p4] σ (none, x) := by
  refine Ct.of (out := o_v) FC_Pl_goDirect rfl hi rfl h (fun z hz C => ?_)
  clear h
  subst hz
  unfold f_Pl_goDirect
  show Rt z qC_Pl_goDirect wC g o_v 0 [(0, .ref (g.1 o)), (1, .int p1), (2, .int p2), (3, .int p3), (4, .int p4)] [] σ _
  refine q_aload_n (pc' := 1) C 0 d_Pl_goDirect_0 rfl rfl ?_
  refine gC_Pl_27 (pc' := 4) C o (rc o 0) ho (ly_3_0 ho).1 d_Pl_goDirect_1 rfl rfl ?_
  refine q_aload_n (pc' := 5) C 0 d_Pl_goDirect_4 rfl rfl ?_
  refine gC_Pl_27 (pc' := 8) C o (rc o 0) ho (ly_3_0 ho).1 d_Pl_goDirect_5 rfl rfl ?_
  refine q_iload_n (pc' := 9) C 1 d_Pl_goDirect_8 rfl rfl ?_
  refine q_iconst (pc' := 10) C d_Pl_goDirect_9 ki_1 rfl ?_
  refine q_aload_n (pc' := 11) C 0 d_Pl_goDirect_10 rfl rfl ?_
  refine gC_Pl_9 (pc' := 14) C o ho d_Pl_goDirect_11 rfl rfl ?_
  refine q_iload_n (pc' := 15) C 1 d_Pl_goDirect_14 rfl rfl ?_
  refine q_isub (pc' := 16) C d_Pl_goDirect_15 rfl ?_
  refine q_callVv (fr' := 1) (lo' := 26) (pc' := 19) C FC_Tb_copyRows lmC_Pl_40 d_Pl_goDirect_16 (rc o 0) (jCo (ly_3_0 ho).2) (ly_3_0 ho).2 cC_8 [.ref (g.1 (rc o 0)), .int p1, .int (1 : Int32), .int ((σ o 1) - p1)] [] rfl rfl (Nat.le_of_ble_eq_true rfl) ⟨rfl, rfl⟩ (fun x h => cC_Tb_copyRows _ g hi σ (rc o 0) (ly_3_0 ho).2 (rc o 0) (ly_3_0 ho).2 p1 (1 : Int32) ((σ o 1) - p1) x h) rfl (fun x1 hx1 => ?_)
  refine q_aload_n (pc' := 20) C 0 d_Pl_goDirect_19 rfl rfl ?_
  refine q_aload_n (pc' := 21) C 0 d_Pl_goDirect_20 rfl rfl ?_
  refine gC_Pl_9 (pc' := 24) C o ho d_Pl_goDirect_21 rfl rfl ?_
  refine q_iload_n (pc' := 25) C 1 d_Pl_goDirect_24 rfl rfl ?_
  refine q_isub (pc' := 26) C d_Pl_goDirect_25 rfl ?_
  refine q_iconst (pc' := 27) C d_Pl_goDirect_26 ki_1 rfl ?_
  refine q_iadd (pc' := 28) C d_Pl_goDirect_27 rfl ?_
  refine pC_Pl_9 (pc' := 31) C o ho d_Pl_goDirect_28 rfl rfl ?_
  refine q_let (fun σ2 e2 => ?_)
  refine q_state e2 ?_
  refine q_aload_n (pc' := 32) C 0 d_Pl_goDirect_31 rfl rfl ?_
  refine gC_Pl_27 (pc' := 35) C o (rc o 0) ho (ly_3_0 ho).1 d_Pl_goDirect_32 rfl rfl ?_
  refine q_iconst (pc' := 36) C d_Pl_goDirect_35 ki_0 rfl ?_
  refine q_bipush (pc' := 38) C d_Pl_goDirect_36 kb_8 rfl ?_
  refine q_callSv (fr' := 1) (lo' := 23) (pc' := 41) C FC_Pl_putPlainLeg lmC_Pl_47 d_Pl_goDirect_38 [.ref (g.1 (rc o 0)), .int (0 : Int32), .int (8 : Int32)] [] rfl rfl (Nat.le_of_ble_eq_true rfl) ⟨rfl, rfl⟩ (fun x h => cC_Pl_putPlainLeg _ g hi σ2 (rc o 0) (ly_3_0 ho).2 (0 : Int32) (8 : Int32) x h) rfl (fun x3 hx3 => ?_)
  refine q_aload_n (pc' := 42) C 0 d_Pl_goDirect_41 rfl rfl ?_
  refine gC_Pl_27 (pc' := 45) C o (rc o 0) ho (ly_3_0 ho).1 d_Pl_goDirect_42 rfl rfl ?_
  refine q_iconst (pc' := 46) C d_Pl_goDirect_45 ki_0 rfl ?_
  refine q_bipush (pc' := 48) C d_Pl_goDirect_46 kb_7 rfl ?_
  refine q_iload_n (pc' := 49) C 2 d_Pl_goDirect_48 rfl rfl ?_
  refine q_callVv (fr' := 0) (lo' := 0) (pc' := 52) C FC_Tb_put lmC_Pl_31 d_Pl_goDirect_49 (rc o 0) (jCo (ly_3_0 ho).2) (ly_3_0 ho).2 cC_8 [.int (0 : Int32), .int (7 : Int32), .int p2] [] rfl rfl (Nat.le_of_ble_eq_true rfl) ⟨rfl, rfl⟩ (fun x h => cC_Tb_put _ g hi x3 (rc o 0) (ly_3_0 ho).2 (0 : Int32) (7 : Int32) p2 x h) rfl (fun x4 hx4 => ?_)
  refine q_aload_n (pc' := 53) C 0 d_Pl_goDirect_52 rfl rfl ?_
  refine gC_Pl_27 (pc' := 56) C o (rc o 0) ho (ly_3_0 ho).1 d_Pl_goDirect_53 rfl rfl ?_
  refine q_iconst (pc' := 57) C d_Pl_goDirect_56 ki_0 rfl ?_
  refine q_bipush (pc' := 59) C d_Pl_goDirect_57 kb_8 rfl ?_
  refine q_iload_n (pc' := 60) C 3 d_Pl_goDirect_59 rfl rfl ?_
  refine q_callVv (fr' := 0) (lo' := 0) (pc' := 63) C FC_Tb_put lmC_Pl_31 d_Pl_goDirect_60 (rc o 0) (jCo (ly_3_0 ho).2) (ly_3_0 ho).2 cC_8 [.int (0 : Int32), .int (8 : Int32), .int p3] [] rfl rfl (Nat.le_of_ble_eq_true rfl) ⟨rfl, rfl⟩ (fun x h => cC_Tb_put _ g hi x4 (rc o 0) (ly_3_0 ho).2 (0 : Int32) (8 : Int32) p3 x h) rfl (fun x5 hx5 => ?_)
  refine q_aload_n (pc' := 64) C 0 d_Pl_goDirect_63 rfl rfl ?_
  refine gC_Pl_27 (pc' := 67) C o (rc o 0) ho (ly_3_0 ho).1 d_Pl_goDirect_64 rfl rfl ?_
  refine q_iconst (pc' := 68) C d_Pl_goDirect_67 ki_0 rfl ?_
  refine q_iconst (pc' := 69) C d_Pl_goDirect_68 ki_2 rfl ?_
  refine q_iload (pc' := 71) C 4 d_Pl_goDirect_69 rfl rfl ?_
  refine q_callVv (fr' := 0) (lo' := 0) (pc' := 74) C FC_Tb_put lmC_Pl_31 d_Pl_goDirect_71 (rc o 0) (jCo (ly_3_0 ho).2) (ly_3_0 ho).2 cC_8 [.int (0 : Int32), .int (2 : Int32), .int p4] [] rfl rfl (Nat.le_of_ble_eq_true rfl) ⟨rfl, rfl⟩ (fun x h => cC_Tb_put _ g hi x5 (rc o 0) (ly_3_0 ho).2 (0 : Int32) (2 : Int32) p4 x h) rfl (fun x6 hx6 => ?_)
  refine q_aload_n (pc' := 75) C 0 d_Pl_goDirect_74 rfl rfl ?_
  refine gC_Pl_27 (pc' := 78) C o (rc o 0) ho (ly_3_0 ho).1 d_Pl_goDirect_75 rfl rfl ?_
  refine q_iconst (pc' := 79) C d_Pl_goDirect_78 ki_1 rfl ?_
  refine q_bipush (pc' := 81) C d_Pl_goDirect_79 kb_13 rfl ?_
  refine q_iconst (pc' := 82) C d_Pl_goDirect_81 ki_0 rfl ?_
  refine q_callVv (fr' := 0) (lo' := 0) (pc' := 85) C FC_Tb_put lmC_Pl_31 d_Pl_goDirect_82 (rc o 0) (jCo (ly_3_0 ho).2) (ly_3_0 ho).2 cC_8 [.int (1 : Int32), .int (13 : Int32), .int (0 : Int32)] [] rfl rfl (Nat.le_of_ble_eq_true rfl) ⟨rfl, rfl⟩ (fun x h => cC_Tb_put _ g hi x6 (rc o 0) (ly_3_0 ho).2 (1 : Int32) (13 : Int32) (0 : Int32) x h) rfl (fun x7 hx7 => ?_)
  refine q_aload_n (pc' := 86) C 0 d_Pl_goDirect_85 rfl rfl ?_
  refine q_iconst (pc' := 87) C d_Pl_goDirect_86 ki_1 rfl ?_
  refine q_callVr (fr' := 1) (lo' := 22) (pc' := 90) C FC_Pl_kind lmC_Pl_51 d_Pl_goDirect_87 o (jCo ho) ho cC_3 [.int (1 : Int32)] [] rfl rfl (Nat.le_of_ble_eq_true rfl) ⟨rfl, rfl⟩ (fun x h => cC_Pl_kind _ g hi x7 o ho (1 : Int32) x h) rfl (fun x8 hx8 => ?_)
  refine q_bipush (pc' := 92) C d_Pl_goDirect_90 kb_7 rfl ?_
  refine q_join (fun J10 : St → Option (St) => ∀ (σ9 : St), Rt z qC_Pl_goDirect wC g o_v 105 [(0, .ref (g.1 o))] [] σ9 (J10 σ9)) (fun σ9 => ?_) (fun J10 hJ10 => ?_)
  · refine q_aload_n (pc' := 106) C 0 d_Pl_goDirect_105 rfl rfl ?_
    refine q_callVv (fr' := 0) (lo' := 0) (pc' := 109) C FC_Pl_restart lmC_Pl_44 d_Pl_goDirect_106 o (jCo ho) ho cC_3 [] [] rfl rfl (Nat.le_of_ble_eq_true rfl) ⟨rfl, rfl⟩ (fun x h => cC_Pl_restart _ g hi σ9 o ho x h) rfl (fun x11 hx11 => ?_)
    exact q_vret C rfl d_Pl_goDirect_109 rfl
  refine q_icmp_eq (tgt := 105) (pc' := 95) C d_Pl_goDirect_92 rfl rfl ?_ ?_
  · exact Rt.sub [0] rfl (hJ10 x7)
  · refine q_aload_n (pc' := 96) C 0 d_Pl_goDirect_95 rfl rfl ?_
    refine gC_Pl_27 (pc' := 99) C o (rc o 0) ho (ly_3_0 ho).1 d_Pl_goDirect_96 rfl rfl ?_
    refine q_iconst (pc' := 100) C d_Pl_goDirect_99 ki_1 rfl ?_
    refine q_iconst (pc' := 101) C d_Pl_goDirect_100 ki_0 rfl ?_
    refine q_iconst (pc' := 102) C d_Pl_goDirect_101 ki_2 rfl ?_
    refine q_callVv (fr' := 0) (lo' := 0) (pc' := 105) C FC_Tb_put lmC_Pl_31 d_Pl_goDirect_102 (rc o 0) (jCo (ly_3_0 ho).2) (ly_3_0 ho).2 cC_8 [.int (1 : Int32), .int (0 : Int32), .int (2 : Int32)] [] rfl rfl (Nat.le_of_ble_eq_true rfl) ⟨rfl, rfl⟩ (fun x h => cC_Tb_put _ g hi x7 (rc o 0) (ly_3_0 ho).2 (1 : Int32) (0 : Int32) (2 : Int32) x h) rfl (fun x12 hx12 => ?_)
    exact Rt.sub [0] rfl (hJ10 x12)
theorem d_Pf_heightOn_0 : decode qC_Pf_heightOn.1 0 = .ok (.aload_n 0, 1) := by decide +kernel
theorem d_Pf_heightOn_1 : decode qC_Pf_heightOn.1 1 = .ok (.getfield 19, 3) := by decide +kernel
theorem d_Pf_heightOn_4 : decode qC_Pf_heightOn.1 4 = .ok (.iload_n 1, 1) := by decide +kernel
theorem d_Pf_heightOn_5 : decode qC_Pf_heightOn.1 5 = .ok (.bipush 9, 2) := by decide +kernel
theorem d_Pf_heightOn_7 : decode qC_Pf_heightOn.1 7 = .ok (.invokevirtual 38, 3) := by decide +kernel
theorem d_Pf_heightOn_10 : decode qC_Pf_heightOn.1 10 = .ok (.iload_n 2, 1) := by decide +kernel
theorem d_Pf_heightOn_11 : decode qC_Pf_heightOn.1 11 = .ok (.isub, 1) := by decide +kernel
theorem d_Pf_heightOn_12 : decode qC_Pf_heightOn.1 12 = .ok (.istore_n 3, 1) := by decide +kernel
theorem d_Pf_heightOn_13 : decode qC_Pf_heightOn.1 13 = .ok (.aload_n 0, 1) := by decide +kernel
theorem d_Pf_heightOn_14 : decode qC_Pf_heightOn.1 14 = .ok (.iload_n 1, 1) := by decide +kernel
theorem d_Pf_heightOn_15 : decode qC_Pf_heightOn.1 15 = .ok (.bipush 12, 2) := by decide +kernel
theorem d_Pf_heightOn_17 : decode qC_Pf_heightOn.1 17 = .ok (.invokevirtual 68, 3) := by decide +kernel
theorem d_Pf_heightOn_20 : decode qC_Pf_heightOn.1 20 = .ok (.iload_n 2, 1) := by decide +kernel
theorem d_Pf_heightOn_21 : decode qC_Pf_heightOn.1 21 = .ok (.aload_n 0, 1) := by decide +kernel
theorem d_Pf_heightOn_22 : decode qC_Pf_heightOn.1 22 = .ok (.getfield 15, 3) := by decide +kernel
theorem d_Pf_heightOn_25 : decode qC_Pf_heightOn.1 25 = .ok (.getfield 62, 3) := by decide +kernel
theorem d_Pf_heightOn_28 : decode qC_Pf_heightOn.1 28 = .ok (.invokestatic 65, 3) := by decide +kernel
theorem d_Pf_heightOn_31 : decode qC_Pf_heightOn.1 31 = .ok (.iadd, 1) := by decide +kernel
theorem d_Pf_heightOn_32 : decode qC_Pf_heightOn.1 32 = .ok (.istore 4, 2) := by decide +kernel
theorem d_Pf_heightOn_34 : decode qC_Pf_heightOn.1 34 = .ok (.aload_n 0, 1) := by decide +kernel
theorem d_Pf_heightOn_35 : decode qC_Pf_heightOn.1 35 = .ok (.getfield 19, 3) := by decide +kernel
theorem d_Pf_heightOn_38 : decode qC_Pf_heightOn.1 38 = .ok (.iload_n 1, 1) := by decide +kernel
theorem d_Pf_heightOn_39 : decode qC_Pf_heightOn.1 39 = .ok (.bipush 13, 2) := by decide +kernel
theorem d_Pf_heightOn_41 : decode qC_Pf_heightOn.1 41 = .ok (.invokevirtual 38, 3) := by decide +kernel
theorem d_Pf_heightOn_44 : decode qC_Pf_heightOn.1 44 = .ok (.iload_n 3, 1) := by decide +kernel
theorem d_Pf_heightOn_45 : decode qC_Pf_heightOn.1 45 = .ok (.aload_n 0, 1) := by decide +kernel
theorem d_Pf_heightOn_46 : decode qC_Pf_heightOn.1 46 = .ok (.getfield 15, 3) := by decide +kernel
theorem d_Pf_heightOn_49 : decode qC_Pf_heightOn.1 49 = .ok (.getfield 81, 3) := by decide +kernel
theorem d_Pf_heightOn_52 : decode qC_Pf_heightOn.1 52 = .ok (.invokestatic 65, 3) := by decide +kernel
theorem d_Pf_heightOn_55 : decode qC_Pf_heightOn.1 55 = .ok (.iadd, 1) := by decide +kernel
theorem d_Pf_heightOn_56 : decode qC_Pf_heightOn.1 56 = .ok (.istore 5, 2) := by decide +kernel
theorem d_Pf_heightOn_58 : decode qC_Pf_heightOn.1 58 = .ok (.aload_n 0, 1) := by decide +kernel
theorem d_Pf_heightOn_59 : decode qC_Pf_heightOn.1 59 = .ok (.getfield 15, 3) := by decide +kernel
theorem d_Pf_heightOn_62 : decode qC_Pf_heightOn.1 62 = .ok (.getfield 71, 3) := by decide +kernel
theorem d_Pf_heightOn_65 : decode qC_Pf_heightOn.1 65 = .ok (.iload 4, 2) := by decide +kernel
theorem d_Pf_heightOn_67 : decode qC_Pf_heightOn.1 67 = .ok (.iload 5, 2) := by decide +kernel
theorem d_Pf_heightOn_69 : decode qC_Pf_heightOn.1 69 = .ok (.invokestatic 44, 3) := by decide +kernel
theorem d_Pf_heightOn_72 : decode qC_Pf_heightOn.1 72 = .ok (.invokestatic 44, 3) := by decide +kernel
theorem d_Pf_heightOn_75 : decode qC_Pf_heightOn.1 75 = .ok (.ireturn, 1) := by decide +kernel
set_option maxRecDepth 100000 in
def f_Pf_heightOn (σ : St) (o : Nat) (p1 : Int32) (p2 : Int32) : Option (Int32) :=
  Option.bind (f_Tb_get σ (rc o 2) p1 (9 : Int32)) fun x1 =>
  Lt ((x1 - p2) : Int32) fun x2 =>
  Option.bind (f_Pf_heightBefore σ o p1 (12 : Int32)) fun x3 =>
  Option.bind (f_Sg_changeOver p2 (σ (rc o 1) 6)) fun x4 =>
  Lt ((x3 + x4) : Int32) fun x5 =>
  Option.bind (f_Tb_get σ (rc o 2) p1 (13 : Int32)) fun x6 =>
  Option.bind (f_Sg_changeOver x2 (σ (rc o 1) 7)) fun x7 =>
  Lt ((x6 + x7) : Int32) fun x8 =>
  some (imin (σ (rc o 1) 4) (imin x5 x8))
set_option maxHeartbeats 4000000 in
set_option maxRecDepth 100000 in
theorem cC_Pf_heightOn (l : Launch) (g : Ge) (hi : injB wC.2 g) (σ : St) (o : Nat) (ho : wC.2.2.1 o = .inr (4, 3)) (p1 : Int32) (p2 : Int32) (x : Int32) (h : f_Pf_heightOn σ o p1 p2 = some x) : Ct l wC g yC_Pf_heightOn qC_Pf_heightOn 2 44 [.ref (g.1 o), .int p1, .int p2] σ (some (.int x), σ) := by
  refine Ct.of (out := (o_r σ)) FC_Pf_heightOn rfl hi rfl h (fun z hz C => ?_)
  clear h
  subst hz
  unfold f_Pf_heightOn
  show Rt z qC_Pf_heightOn wC g (o_r σ) 0 [(0, .ref (g.1 o)), (1, .int p1), (2, .int p2)] [] σ _
  refine q_aload_n (pc' := 1) C 0 d_Pf_heightOn_0 rfl rfl ?_
  refine gC_Pf_19 (pc' := 4) C o (rc o 2) ho (ly_4_2 ho).1 d_Pf_heightOn_1 rfl rfl ?_
  refine q_iload_n (pc' := 5) C 1 d_Pf_heightOn_4 rfl rfl ?_
  refine q_bipush (pc' := 7) C d_Pf_heightOn_5 kb_9 rfl ?_
  refine q_callVr (fr' := 0) (lo' := 0) (pc' := 10) C FC_Tb_get lmC_Pf_38 d_Pf_heightOn_7 (rc o 2) (jCo (ly_4_2 ho).2) (ly_4_2 ho).2 cC_8 [.int p1, .int (9 : Int32)] [] rfl rfl (Nat.le_of_ble_eq_true rfl) ⟨rfl, rfl⟩ (fun x h => cC_Tb_get _ g hi σ (rc o 2) (ly_4_2 ho).2 p1 (9 : Int32) x h) rfl (fun x1 hx1 => ?_)
  refine q_iload_n (pc' := 11) C 2 d_Pf_heightOn_10 rfl rfl ?_
  refine q_isub (pc' := 12) C d_Pf_heightOn_11 rfl ?_
  refine q_let (fun x2 e2 => ?_)
  refine q_topi e2 ?_
  refine q_istore_n (pc' := 13) (lv' := [(3, .int x2), (0, .ref (g.1 o)), (1, .int p1), (2, .int p2)]) C d_Pf_heightOn_12 (by decide) rfl rfl ?_
  refine q_aload_n (pc' := 14) C 1 d_Pf_heightOn_13 rfl rfl ?_
  refine q_iload_n (pc' := 15) C 2 d_Pf_heightOn_14 rfl rfl ?_
  refine q_bipush (pc' := 17) C d_Pf_heightOn_15 kb_12 rfl ?_
  refine q_callVr (fr' := 1) (lo' := 22) (pc' := 20) C FC_Pf_heightBefore lmC_Pf_68 d_Pf_heightOn_17 o (jCo ho) ho cC_4 [.int p1, .int (12 : Int32)] [] rfl rfl (Nat.le_of_ble_eq_true rfl) ⟨rfl, rfl⟩ (fun x h => cC_Pf_heightBefore _ g hi σ o ho p1 (12 : Int32) x h) rfl (fun x3 hx3 => ?_)
  refine q_iload_n (pc' := 21) C 3 d_Pf_heightOn_20 rfl rfl ?_
  refine q_aload_n (pc' := 22) C 1 d_Pf_heightOn_21 rfl rfl ?_
  refine gC_Pf_15 (pc' := 25) C o (rc o 1) ho (ly_4_1 ho).1 d_Pf_heightOn_22 rfl rfl ?_
  refine gC_Pf_62 (pc' := 28) C (rc o 1) (ly_4_1 ho).2 d_Pf_heightOn_25 rfl rfl ?_
  refine q_callSr (fr' := 0) (lo' := 0) (pc' := 31) C FC_Sg_changeOver lmC_Pf_65 d_Pf_heightOn_28 [.int p2, .int (σ (rc o 1) 6)] [.int x3] rfl rfl (Nat.le_of_ble_eq_true rfl) ⟨rfl, rfl⟩ (fun x h => cC_Sg_changeOver _ g hi σ p2 (σ (rc o 1) 6) x h) rfl (fun x4 hx4 => ?_)
  refine q_iadd (pc' := 32) C d_Pf_heightOn_31 rfl ?_
  refine q_let (fun x5 e5 => ?_)
  refine q_topi e5 ?_
  refine q_istore (pc' := 34) (lv' := [(4, .int x5), (3, .int x2), (0, .ref (g.1 o)), (1, .int p1), (2, .int p2)]) C d_Pf_heightOn_32 (by decide) rfl rfl ?_
  refine q_aload_n (pc' := 35) C 2 d_Pf_heightOn_34 rfl rfl ?_
  refine gC_Pf_19 (pc' := 38) C o (rc o 2) ho (ly_4_2 ho).1 d_Pf_heightOn_35 rfl rfl ?_
  refine q_iload_n (pc' := 39) C 3 d_Pf_heightOn_38 rfl rfl ?_
  refine q_bipush (pc' := 41) C d_Pf_heightOn_39 kb_13 rfl ?_
  refine q_callVr (fr' := 0) (lo' := 0) (pc' := 44) C FC_Tb_get lmC_Pf_38 d_Pf_heightOn_41 (rc o 2) (jCo (ly_4_2 ho).2) (ly_4_2 ho).2 cC_8 [.int p1, .int (13 : Int32)] [] rfl rfl (Nat.le_of_ble_eq_true rfl) ⟨rfl, rfl⟩ (fun x h => cC_Tb_get _ g hi σ (rc o 2) (ly_4_2 ho).2 p1 (13 : Int32) x h) rfl (fun x6 hx6 => ?_)
  refine q_iload_n (pc' := 45) C 1 d_Pf_heightOn_44 rfl rfl ?_
  refine q_aload_n (pc' := 46) C 2 d_Pf_heightOn_45 rfl rfl ?_
  refine gC_Pf_15 (pc' := 49) C o (rc o 1) ho (ly_4_1 ho).1 d_Pf_heightOn_46 rfl rfl ?_
  refine gC_Pf_81 (pc' := 52) C (rc o 1) (ly_4_1 ho).2 d_Pf_heightOn_49 rfl rfl ?_
  refine q_callSr (fr' := 0) (lo' := 0) (pc' := 55) C FC_Sg_changeOver lmC_Pf_65 d_Pf_heightOn_52 [.int x2, .int (σ (rc o 1) 7)] [.int x6] rfl rfl (Nat.le_of_ble_eq_true rfl) ⟨rfl, rfl⟩ (fun x h => cC_Sg_changeOver _ g hi σ x2 (σ (rc o 1) 7) x h) rfl (fun x7 hx7 => ?_)
  refine q_iadd (pc' := 56) C d_Pf_heightOn_55 rfl ?_
  refine q_let (fun x8 e8 => ?_)
  refine q_topi e8 ?_
  refine q_istore (pc' := 58) (lv' := [(5, .int x8), (4, .int x5), (3, .int x2), (0, .ref (g.1 o)), (1, .int p1), (2, .int p2)]) C d_Pf_heightOn_56 (by decide) rfl rfl ?_
  refine q_aload_n (pc' := 59) C 3 d_Pf_heightOn_58 rfl rfl ?_
  refine gC_Pf_15 (pc' := 62) C o (rc o 1) ho (ly_4_1 ho).1 d_Pf_heightOn_59 rfl rfl ?_
  refine gC_Pf_71 (pc' := 65) C (rc o 1) (ly_4_1 ho).2 d_Pf_heightOn_62 rfl rfl ?_
  refine q_iload (pc' := 67) C 1 d_Pf_heightOn_65 rfl rfl ?_
  refine q_iload (pc' := 69) C 0 d_Pf_heightOn_67 rfl rfl ?_
  refine q_mmin (pc' := 72) C lj_min_Pf_44 (Nat.le_of_ble_eq_true rfl) ⟨rfl, rfl⟩ d_Pf_heightOn_69 rfl ?_
  refine q_mmin (pc' := 75) C lj_min_Pf_44 (Nat.le_of_ble_eq_true rfl) ⟨rfl, rfl⟩ d_Pf_heightOn_72 rfl ?_
  exact q_iret C rfl d_Pf_heightOn_75 rfl
theorem d_Pg_restOfLeg_0 : decode qC_Pg_restOfLeg.1 0 = .ok (.aload_n 0, 1) := by decide +kernel
theorem d_Pg_restOfLeg_1 : decode qC_Pg_restOfLeg.1 1 = .ok (.getfield 28, 3) := by decide +kernel
theorem d_Pg_restOfLeg_4 : decode qC_Pg_restOfLeg.1 4 = .ok (.getfield 32, 3) := by decide +kernel
theorem d_Pg_restOfLeg_7 : decode qC_Pg_restOfLeg.1 7 = .ok (.aload_n 0, 1) := by decide +kernel
theorem d_Pg_restOfLeg_8 : decode qC_Pg_restOfLeg.1 8 = .ok (.getfield 24, 3) := by decide +kernel
theorem d_Pg_restOfLeg_11 : decode qC_Pg_restOfLeg.1 11 = .ok (.getfield 38, 3) := by decide +kernel
theorem d_Pg_restOfLeg_14 : decode qC_Pg_restOfLeg.1 14 = .ok (.bipush 9, 2) := by decide +kernel
theorem d_Pg_restOfLeg_16 : decode qC_Pg_restOfLeg.1 16 = .ok (.invokevirtual 43, 3) := by decide +kernel
theorem d_Pg_restOfLeg_19 : decode qC_Pg_restOfLeg.1 19 = .ok (.aload_n 0, 1) := by decide +kernel
theorem d_Pg_restOfLeg_20 : decode qC_Pg_restOfLeg.1 20 = .ok (.getfield 9, 3) := by decide +kernel
theorem d_Pg_restOfLeg_23 : decode qC_Pg_restOfLeg.1 23 = .ok (.isub, 1) := by decide +kernel
theorem d_Pg_restOfLeg_24 : decode qC_Pg_restOfLeg.1 24 = .ok (.ireturn, 1) := by decide +kernel
set_option maxRecDepth 100000 in
def f_Pg_restOfLeg (σ : St) (o : Nat) : Option (Int32) :=
  Option.bind (f_Tb_get σ (rc (rc o 1) 1) (σ (rc o 0) 2) (9 : Int32)) fun x1 =>
  some (x1 - (σ o 2))
set_option maxHeartbeats 4000000 in
set_option maxRecDepth 100000 in
theorem cC_Pg_restOfLeg (l : Launch) (g : Ge) (hi : injB wC.2 g) (σ : St) (o : Nat) (ho : wC.2.2.1 o = .inr (5, 6)) (x : Int32) (h : f_Pg_restOfLeg σ o = some x) : Ct l wC g yC_Pg_restOfLeg qC_Pg_restOfLeg 1 22 [.ref (g.1 o)] σ (some (.int x), σ) := by
  refine Ct.of (out := (o_r σ)) FC_Pg_restOfLeg rfl hi rfl h (fun z hz C => ?_)
  clear h
  subst hz
  unfold f_Pg_restOfLeg
  show Rt z qC_Pg_restOfLeg wC g (o_r σ) 0 [(0, .ref (g.1 o))] [] σ _
  refine q_aload_n (pc' := 1) C 0 d_Pg_restOfLeg_0 rfl rfl ?_
  refine gC_Pg_28 (pc' := 4) C o (rc o 1) ho (ly_5_1 ho).1 d_Pg_restOfLeg_1 rfl rfl ?_
  refine gC_Pg_32 (pc' := 7) C (rc o 1) (rc (rc o 1) 1) (ly_5_1 ho).2 (ly_1_1 (ly_5_1 ho).2).1 d_Pg_restOfLeg_4 rfl rfl ?_
  refine q_aload_n (pc' := 8) C 0 d_Pg_restOfLeg_7 rfl rfl ?_
  refine gC_Pg_24 (pc' := 11) C o (rc o 0) ho (ly_5_0 ho).1 d_Pg_restOfLeg_8 rfl rfl ?_
  refine gC_Pg_38 (pc' := 14) C (rc o 0) (ly_5_0 ho).2 d_Pg_restOfLeg_11 rfl rfl ?_
  refine q_bipush (pc' := 16) C d_Pg_restOfLeg_14 kb_9 rfl ?_
  refine q_callVr (fr' := 0) (lo' := 0) (pc' := 19) C FC_Tb_get lmC_Pg_43 d_Pg_restOfLeg_16 (rc (rc o 1) 1) (jCo (ly_1_1 (ly_5_1 ho).2).2) (ly_1_1 (ly_5_1 ho).2).2 cC_8 [.int (σ (rc o 0) 2), .int (9 : Int32)] [] rfl rfl (Nat.le_of_ble_eq_true rfl) ⟨rfl, rfl⟩ (fun x h => cC_Tb_get _ g hi σ (rc (rc o 1) 1) (ly_1_1 (ly_5_1 ho).2).2 (σ (rc o 0) 2) (9 : Int32) x h) rfl (fun x1 hx1 => ?_)
  refine q_aload_n (pc' := 20) C 0 d_Pg_restOfLeg_19 rfl rfl ?_
  refine gC_Pg_9 (pc' := 23) C o ho d_Pg_restOfLeg_20 rfl rfl ?_
  refine q_isub (pc' := 24) C d_Pg_restOfLeg_23 rfl ?_
  exact q_iret C rfl d_Pg_restOfLeg_24 rfl
theorem d_Pg_cutToLeg_0 : decode qC_Pg_cutToLeg.1 0 = .ok (.aload_n 0, 1) := by decide +kernel
theorem d_Pg_cutToLeg_1 : decode qC_Pg_cutToLeg.1 1 = .ok (.aload_n 0, 1) := by decide +kernel
theorem d_Pg_cutToLeg_2 : decode qC_Pg_cutToLeg.1 2 = .ok (.getfield 9, 3) := by decide +kernel
theorem d_Pg_cutToLeg_5 : decode qC_Pg_cutToLeg.1 5 = .ok (.aload_n 0, 1) := by decide +kernel
theorem d_Pg_cutToLeg_6 : decode qC_Pg_cutToLeg.1 6 = .ok (.getfield 28, 3) := by decide +kernel
theorem d_Pg_cutToLeg_9 : decode qC_Pg_cutToLeg.1 9 = .ok (.getfield 32, 3) := by decide +kernel
theorem d_Pg_cutToLeg_12 : decode qC_Pg_cutToLeg.1 12 = .ok (.aload_n 0, 1) := by decide +kernel
theorem d_Pg_cutToLeg_13 : decode qC_Pg_cutToLeg.1 13 = .ok (.getfield 24, 3) := by decide +kernel
theorem d_Pg_cutToLeg_16 : decode qC_Pg_cutToLeg.1 16 = .ok (.getfield 38, 3) := by decide +kernel
theorem d_Pg_cutToLeg_19 : decode qC_Pg_cutToLeg.1 19 = .ok (.bipush 9, 2) := by decide +kernel
theorem d_Pg_cutToLeg_21 : decode qC_Pg_cutToLeg.1 21 = .ok (.invokevirtual 43, 3) := by decide +kernel
theorem d_Pg_cutToLeg_24 : decode qC_Pg_cutToLeg.1 24 = .ok (.invokestatic 49, 3) := by decide +kernel
theorem d_Pg_cutToLeg_27 : decode qC_Pg_cutToLeg.1 27 = .ok (.putfield 9, 3) := by decide +kernel
theorem d_Pg_cutToLeg_30 : decode qC_Pg_cutToLeg.1 30 = .ok (.return_, 1) := by decide +kernel
set_option maxRecDepth 100000 in
def f_Pg_cutToLeg (σ : St) (o : Nat) : Option (St) :=
  Option.bind (f_Tb_get σ (rc (rc o 1) 1) (σ (rc o 0) 2) (9 : Int32)) fun x1 =>
  Lt (s2 σ o 2 (imin (σ o 2) x1)) fun σ2 =>
  some σ2
set_option maxHeartbeats 4000000 in
set_option maxRecDepth 100000 in
theorem cC_Pg_cutToLeg (l : Launch) (g : Ge) (hi : injB wC.2 g) (σ : St) (o : Nat) (ho : wC.2.2.1 o = .inr (5, 6)) (x : St) (h : f_Pg_cutToLeg σ o = some x) : Ct l wC g yC_Pg_cutToLeg qC_Pg_cutToLeg 1 22 [.ref (g.1 o)] σ (none, x) := by
  refine Ct.of (out := o_v) FC_Pg_cutToLeg rfl hi rfl h (fun z hz C => ?_)
  clear h
  subst hz
  unfold f_Pg_cutToLeg
  show Rt z qC_Pg_cutToLeg wC g o_v 0 [(0, .ref (g.1 o))] [] σ _
  refine q_aload_n (pc' := 1) C 0 d_Pg_cutToLeg_0 rfl rfl ?_
  refine q_aload_n (pc' := 2) C 0 d_Pg_cutToLeg_1 rfl rfl ?_
  refine gC_Pg_9 (pc' := 5) C o ho d_Pg_cutToLeg_2 rfl rfl ?_
  refine q_aload_n (pc' := 6) C 0 d_Pg_cutToLeg_5 rfl rfl ?_
  refine gC_Pg_28 (pc' := 9) C o (rc o 1) ho (ly_5_1 ho).1 d_Pg_cutToLeg_6 rfl rfl ?_
  refine gC_Pg_32 (pc' := 12) C (rc o 1) (rc (rc o 1) 1) (ly_5_1 ho).2 (ly_1_1 (ly_5_1 ho).2).1 d_Pg_cutToLeg_9 rfl rfl ?_
  refine q_aload_n (pc' := 13) C 0 d_Pg_cutToLeg_12 rfl rfl ?_
  refine gC_Pg_24 (pc' := 16) C o (rc o 0) ho (ly_5_0 ho).1 d_Pg_cutToLeg_13 rfl rfl ?_
  refine gC_Pg_38 (pc' := 19) C (rc o 0) (ly_5_0 ho).2 d_Pg_cutToLeg_16 rfl rfl ?_
  refine q_bipush (pc' := 21) C d_Pg_cutToLeg_19 kb_9 rfl ?_
  refine q_callVr (fr' := 0) (lo' := 0) (pc' := 24) C FC_Tb_get lmC_Pg_43 d_Pg_cutToLeg_21 (rc (rc o 1) 1) (jCo (ly_1_1 (ly_5_1 ho).2).2) (ly_1_1 (ly_5_1 ho).2).2 cC_8 [.int (σ (rc o 0) 2), .int (9 : Int32)] [.int (σ o 2), .ref (g.1 o)] rfl rfl (Nat.le_of_ble_eq_true rfl) ⟨rfl, rfl⟩ (fun x h => cC_Tb_get _ g hi σ (rc (rc o 1) 1) (ly_1_1 (ly_5_1 ho).2).2 (σ (rc o 0) 2) (9 : Int32) x h) rfl (fun x1 hx1 => ?_)
  refine q_mmin (pc' := 27) C lj_min_Pg_49 (Nat.le_of_ble_eq_true rfl) ⟨rfl, rfl⟩ d_Pg_cutToLeg_24 rfl ?_
  refine pC_Pg_9 (pc' := 30) C o ho d_Pg_cutToLeg_27 rfl rfl ?_
  refine q_let (fun σ2 e2 => ?_)
  refine q_state e2 ?_
  exact q_vret C rfl d_Pg_cutToLeg_30 rfl
theorem d_Pg_beginNextLeg_0 : decode qC_Pg_beginNextLeg.1 0 = .ok (.aload_n 0, 1) := by decide +kernel
theorem d_Pg_beginNextLeg_1 : decode qC_Pg_beginNextLeg.1 1 = .ok (.getfield 24, 3) := by decide +kernel
theorem d_Pg_beginNextLeg_4 : decode qC_Pg_beginNextLeg.1 4 = .ok (.dup, 1) := by decide +kernel
theorem d_Pg_beginNextLeg_5 : decode qC_Pg_beginNextLeg.1 5 = .ok (.getfield 38, 3) := by decide +kernel
theorem d_Pg_beginNextLeg_8 : decode qC_Pg_beginNextLeg.1 8 = .ok (.iconst 1, 1) := by decide +kernel
theorem d_Pg_beginNextLeg_9 : decode qC_Pg_beginNextLeg.1 9 = .ok (.iadd, 1) := by decide +kernel
theorem d_Pg_beginNextLeg_10 : decode qC_Pg_beginNextLeg.1 10 = .ok (.putfield 38, 3) := by decide +kernel
theorem d_Pg_beginNextLeg_13 : decode qC_Pg_beginNextLeg.1 13 = .ok (.aload_n 0, 1) := by decide +kernel
theorem d_Pg_beginNextLeg_14 : decode qC_Pg_beginNextLeg.1 14 = .ok (.iconst 0, 1) := by decide +kernel
theorem d_Pg_beginNextLeg_15 : decode qC_Pg_beginNextLeg.1 15 = .ok (.putfield 9, 3) := by decide +kernel
theorem d_Pg_beginNextLeg_18 : decode qC_Pg_beginNextLeg.1 18 = .ok (.return_, 1) := by decide +kernel
set_option maxRecDepth 100000 in
def f_Pg_beginNextLeg (σ : St) (o : Nat) : Option (St) :=
  Lt (s2 σ (rc o 0) 2 ((σ (rc o 0) 2) + (1 : Int32))) fun σ1 =>
  Lt (s2 σ1 o 2 (0 : Int32)) fun σ2 =>
  some σ2
set_option maxHeartbeats 4000000 in
set_option maxRecDepth 100000 in
theorem cC_Pg_beginNextLeg (l : Launch) (g : Ge) (hi : injB wC.2 g) (σ : St) (o : Nat) (ho : wC.2.2.1 o = .inr (5, 6)) (x : St) (h : f_Pg_beginNextLeg σ o = some x) : Ct l wC g yC_Pg_beginNextLeg qC_Pg_beginNextLeg 0 0 [.ref (g.1 o)] σ (none, x) := by
  refine Ct.of (out := o_v) FC_Pg_beginNextLeg rfl hi rfl h (fun z hz C => ?_)
  clear h
  subst hz
  unfold f_Pg_beginNextLeg
  show Rt z qC_Pg_beginNextLeg wC g o_v 0 [(0, .ref (g.1 o))] [] σ _
  refine q_aload_n (pc' := 1) C 0 d_Pg_beginNextLeg_0 rfl rfl ?_
  refine gC_Pg_24 (pc' := 4) C o (rc o 0) ho (ly_5_0 ho).1 d_Pg_beginNextLeg_1 rfl rfl ?_
  refine q_dup (pc' := 5) C d_Pg_beginNextLeg_4 rfl rfl ?_
  refine gC_Pg_38 (pc' := 8) C (rc o 0) (ly_5_0 ho).2 d_Pg_beginNextLeg_5 rfl rfl ?_
  refine q_iconst (pc' := 9) C d_Pg_beginNextLeg_8 ki_1 rfl ?_
  refine q_iadd (pc' := 10) C d_Pg_beginNextLeg_9 rfl ?_
  refine pC_Pg_38 (pc' := 13) C (rc o 0) (ly_5_0 ho).2 d_Pg_beginNextLeg_10 rfl rfl ?_
  refine q_let (fun σ1 e1 => ?_)
  refine q_state e1 ?_
  refine q_aload_n (pc' := 14) C 0 d_Pg_beginNextLeg_13 rfl rfl ?_
  refine q_iconst (pc' := 15) C d_Pg_beginNextLeg_14 ki_0 rfl ?_
  refine pC_Pg_9 (pc' := 18) C o ho d_Pg_beginNextLeg_15 rfl rfl ?_
  refine q_let (fun σ2 e2 => ?_)
  refine q_state e2 ?_
  exact q_vret C rfl d_Pg_beginNextLeg_18 rfl
theorem d_Pg_waitsAtGap_0 : decode qC_Pg_waitsAtGap.1 0 = .ok (.aload_n 0, 1) := by decide +kernel
theorem d_Pg_waitsAtGap_1 : decode qC_Pg_waitsAtGap.1 1 = .ok (.getfield 24, 3) := by decide +kernel
theorem d_Pg_waitsAtGap_4 : decode qC_Pg_waitsAtGap.1 4 = .ok (.aload_n 0, 1) := by decide +kernel
theorem d_Pg_waitsAtGap_5 : decode qC_Pg_waitsAtGap.1 5 = .ok (.getfield 24, 3) := by decide +kernel
theorem d_Pg_waitsAtGap_8 : decode qC_Pg_waitsAtGap.1 8 = .ok (.getfield 38, 3) := by decide +kernel
theorem d_Pg_waitsAtGap_11 : decode qC_Pg_waitsAtGap.1 11 = .ok (.iconst 1, 1) := by decide +kernel
theorem d_Pg_waitsAtGap_12 : decode qC_Pg_waitsAtGap.1 12 = .ok (.iadd, 1) := by decide +kernel
theorem d_Pg_waitsAtGap_13 : decode qC_Pg_waitsAtGap.1 13 = .ok (.invokevirtual 54, 3) := by decide +kernel
theorem d_Pg_waitsAtGap_16 : decode qC_Pg_waitsAtGap.1 16 = .ok (.ifCond .eq 33, 3) := by decide +kernel
theorem d_Pg_waitsAtGap_19 : decode qC_Pg_waitsAtGap.1 19 = .ok (.aload_n 0, 1) := by decide +kernel
theorem d_Pg_waitsAtGap_20 : decode qC_Pg_waitsAtGap.1 20 = .ok (.invokevirtual 58, 3) := by decide +kernel
theorem d_Pg_waitsAtGap_23 : decode qC_Pg_waitsAtGap.1 23 = .ok (.ifCond .ne 26, 3) := by decide +kernel
theorem d_Pg_waitsAtGap_26 : decode qC_Pg_waitsAtGap.1 26 = .ok (.aload_n 0, 1) := by decide +kernel
theorem d_Pg_waitsAtGap_27 : decode qC_Pg_waitsAtGap.1 27 = .ok (.getfield 28, 3) := by decide +kernel
theorem d_Pg_waitsAtGap_30 : decode qC_Pg_waitsAtGap.1 30 = .ok (.aload_n 0, 1) := by decide +kernel
theorem d_Pg_waitsAtGap_31 : decode qC_Pg_waitsAtGap.1 31 = .ok (.getfield 24, 3) := by decide +kernel
theorem d_Pg_waitsAtGap_34 : decode qC_Pg_waitsAtGap.1 34 = .ok (.getfield 38, 3) := by decide +kernel
theorem d_Pg_waitsAtGap_37 : decode qC_Pg_waitsAtGap.1 37 = .ok (.iconst 1, 1) := by decide +kernel
theorem d_Pg_waitsAtGap_38 : decode qC_Pg_waitsAtGap.1 38 = .ok (.iadd, 1) := by decide +kernel
theorem d_Pg_waitsAtGap_39 : decode qC_Pg_waitsAtGap.1 39 = .ok (.invokevirtual 62, 3) := by decide +kernel
theorem d_Pg_waitsAtGap_42 : decode qC_Pg_waitsAtGap.1 42 = .ok (.ifCond .eq 7, 3) := by decide +kernel
theorem d_Pg_waitsAtGap_45 : decode qC_Pg_waitsAtGap.1 45 = .ok (.iconst 1, 1) := by decide +kernel
theorem d_Pg_waitsAtGap_46 : decode qC_Pg_waitsAtGap.1 46 = .ok (.goto 4, 3) := by decide +kernel
theorem d_Pg_waitsAtGap_49 : decode qC_Pg_waitsAtGap.1 49 = .ok (.iconst 0, 1) := by decide +kernel
theorem d_Pg_waitsAtGap_50 : decode qC_Pg_waitsAtGap.1 50 = .ok (.ireturn, 1) := by decide +kernel
set_option maxRecDepth 100000 in
def f_Pg_waitsAtGap (σ : St) (o : Nat) : Option (Int32) :=
  Option.bind (f_Pl_hasLeg σ (rc o 0) ((σ (rc o 0) 2) + (1 : Int32))) fun x1 =>
  Jn (fun (x2 : Int32) =>
  Gd ((x2 : Int32) &&& 1 = x2) <|
  some x2
  ) fun J3 =>
  Jn (fun (_ : Unit) =>
  J3 (0 : Int32)
  ) fun J5 =>
  if (x1 : Int32) = 0 then (
  J5 ()
  ) else (
  Option.bind (f_Pg_restOfLeg σ o) fun x6 =>
  if (x6 : Int32) = 0 then (
  Option.bind (f_Pa_gapBefore σ (rc o 1) ((σ (rc o 0) 2) + (1 : Int32))) fun x7 =>
  if (x7 : Int32) = 0 then (
  J5 ()
  ) else (
  J3 (1 : Int32)
  )
  ) else (
  J5 ()
  )
  )
set_option maxHeartbeats 4000000 in
set_option maxRecDepth 100000 in
theorem cC_Pg_waitsAtGap (l : Launch) (g : Ge) (hi : injB wC.2 g) (σ : St) (o : Nat) (ho : wC.2.2.1 o = .inr (5, 6)) (x : Int32) (h : f_Pg_waitsAtGap σ o = some x) : Ct l wC g yC_Pg_waitsAtGap qC_Pg_waitsAtGap 2 43 [.ref (g.1 o)] σ (some (.int x), σ) := by
  refine Ct.of (out := (o_r σ)) FC_Pg_waitsAtGap rfl hi rfl h (fun z hz C => ?_)
  clear h
  subst hz
  unfold f_Pg_waitsAtGap
  show Rt z qC_Pg_waitsAtGap wC g (o_r σ) 0 [(0, .ref (g.1 o))] [] σ _
  refine q_aload_n (pc' := 1) C 0 d_Pg_waitsAtGap_0 rfl rfl ?_
  refine gC_Pg_24 (pc' := 4) C o (rc o 0) ho (ly_5_0 ho).1 d_Pg_waitsAtGap_1 rfl rfl ?_
  refine q_aload_n (pc' := 5) C 0 d_Pg_waitsAtGap_4 rfl rfl ?_
  refine gC_Pg_24 (pc' := 8) C o (rc o 0) ho (ly_5_0 ho).1 d_Pg_waitsAtGap_5 rfl rfl ?_
  refine gC_Pg_38 (pc' := 11) C (rc o 0) (ly_5_0 ho).2 d_Pg_waitsAtGap_8 rfl rfl ?_
  refine q_iconst (pc' := 12) C d_Pg_waitsAtGap_11 ki_1 rfl ?_
  refine q_iadd (pc' := 13) C d_Pg_waitsAtGap_12 rfl ?_
  refine q_callVr (fr' := 0) (lo' := 0) (pc' := 16) C FC_Pl_hasLeg lmC_Pg_54 d_Pg_waitsAtGap_13 (rc o 0) (jCo (ly_5_0 ho).2) (ly_5_0 ho).2 cC_3 [.int ((σ (rc o 0) 2) + (1 : Int32))] [] rfl rfl (Nat.le_of_ble_eq_true rfl) ⟨rfl, rfl⟩ (fun x h => cC_Pl_hasLeg _ g hi σ (rc o 0) (ly_5_0 ho).2 ((σ (rc o 0) 2) + (1 : Int32)) x h) rfl (fun x1 hx1 => ?_)
  refine q_join (fun J3 : Int32 → Option (Int32) => ∀ (x2 : Int32), Rt z qC_Pg_waitsAtGap wC g (o_r σ) 50 [] [.int x2] σ (J3 x2)) (fun x2 => ?_) (fun J3 hJ3 => ?_)
  · refine q_guard (fun gx4 => ?_)
    exact q_zret C rfl gx4 d_Pg_waitsAtGap_50 rfl
  refine q_join (fun J5 : Unit → Option (Int32) => ∀ (_ : Unit), Rt z qC_Pg_waitsAtGap wC g (o_r σ) 49 [] [] σ (J5 ())) (fun _ => ?_) (fun J5 hJ5 => ?_)
  · refine q_iconst (pc' := 50) C d_Pg_waitsAtGap_49 ki_0 rfl ?_
    exact Rt.sub [] rfl (hJ3 (0 : Int32))
  refine q_if_eq (tgt := 49) (pc' := 19) C d_Pg_waitsAtGap_16 rfl rfl ?_ ?_
  · exact Rt.sub [] rfl (hJ5 ())
  · refine q_aload_n (pc' := 20) C 0 d_Pg_waitsAtGap_19 rfl rfl ?_
    refine q_callVr (fr' := 1) (lo' := 22) (pc' := 23) C FC_Pg_restOfLeg lmC_Pg_58 d_Pg_waitsAtGap_20 o (jCo ho) ho cC_5 [] [] rfl rfl (Nat.le_of_ble_eq_true rfl) ⟨rfl, rfl⟩ (fun x h => cC_Pg_restOfLeg _ g hi σ o ho x h) rfl (fun x6 hx6 => ?_)
    refine q_if_ne (tgt := 49) (pc' := 26) C d_Pg_waitsAtGap_23 rfl rfl ?_ ?_
    · exact Rt.sub [] rfl (hJ5 ())
    · refine q_aload_n (pc' := 27) C 0 d_Pg_waitsAtGap_26 rfl rfl ?_
      refine gC_Pg_28 (pc' := 30) C o (rc o 1) ho (ly_5_1 ho).1 d_Pg_waitsAtGap_27 rfl rfl ?_
      refine q_aload_n (pc' := 31) C 0 d_Pg_waitsAtGap_30 rfl rfl ?_
      refine gC_Pg_24 (pc' := 34) C o (rc o 0) ho (ly_5_0 ho).1 d_Pg_waitsAtGap_31 rfl rfl ?_
      refine gC_Pg_38 (pc' := 37) C (rc o 0) (ly_5_0 ho).2 d_Pg_waitsAtGap_34 rfl rfl ?_
      refine q_iconst (pc' := 38) C d_Pg_waitsAtGap_37 ki_1 rfl ?_
      refine q_iadd (pc' := 39) C d_Pg_waitsAtGap_38 rfl ?_
      refine q_callVr (fr' := 1) (lo' := 22) (pc' := 42) C FC_Pa_gapBefore lmC_Pg_62 d_Pg_waitsAtGap_39 (rc o 1) (jCo (ly_5_1 ho).2) (ly_5_1 ho).2 cC_1 [.int ((σ (rc o 0) 2) + (1 : Int32))] [] rfl rfl (Nat.le_of_ble_eq_true rfl) ⟨rfl, rfl⟩ (fun x h => cC_Pa_gapBefore _ g hi σ (rc o 1) (ly_5_1 ho).2 ((σ (rc o 0) 2) + (1 : Int32)) x h) rfl (fun x7 hx7 => ?_)
      refine q_if_eq (tgt := 49) (pc' := 45) C d_Pg_waitsAtGap_42 rfl rfl ?_ ?_
      · exact Rt.sub [] rfl (hJ5 ())
      · refine q_iconst (pc' := 46) C d_Pg_waitsAtGap_45 ki_1 rfl ?_
        refine q_goto (tgt := 50) C d_Pg_waitsAtGap_46 rfl ?_
        exact Rt.sub [] rfl (hJ3 (1 : Int32))
theorem d_Pg_advance_0 : decode qC_Pg_advance.1 0 = .ok (.iload_n 1, 1) := by decide +kernel
theorem d_Pg_advance_1 : decode qC_Pg_advance.1 1 = .ok (.istore_n 2, 1) := by decide +kernel
theorem d_Pg_advance_2 : decode qC_Pg_advance.1 2 = .ok (.iconst 0, 1) := by decide +kernel
theorem d_Pg_advance_3 : decode qC_Pg_advance.1 3 = .ok (.istore_n 3, 1) := by decide +kernel
theorem d_Pg_advance_4 : decode qC_Pg_advance.1 4 = .ok (.iload_n 3, 1) := by decide +kernel
theorem d_Pg_advance_5 : decode qC_Pg_advance.1 5 = .ok (.bipush 20, 2) := by decide +kernel
theorem d_Pg_advance_7 : decode qC_Pg_advance.1 7 = .ok (.if_icmp .ge 87, 3) := by decide +kernel
theorem d_Pg_advance_10 : decode qC_Pg_advance.1 10 = .ok (.iload_n 2, 1) := by decide +kernel
theorem d_Pg_advance_11 : decode qC_Pg_advance.1 11 = .ok (.aload_n 0, 1) := by decide +kernel
theorem d_Pg_advance_12 : decode qC_Pg_advance.1 12 = .ok (.invokevirtual 58, 3) := by decide +kernel
theorem d_Pg_advance_15 : decode qC_Pg_advance.1 15 = .ok (.invokestatic 49, 3) := by decide +kernel
theorem d_Pg_advance_18 : decode qC_Pg_advance.1 18 = .ok (.istore 4, 2) := by decide +kernel
theorem d_Pg_advance_20 : decode qC_Pg_advance.1 20 = .ok (.aload_n 0, 1) := by decide +kernel
theorem d_Pg_advance_21 : decode qC_Pg_advance.1 21 = .ok (.dup, 1) := by decide +kernel
theorem d_Pg_advance_22 : decode qC_Pg_advance.1 22 = .ok (.getfield 9, 3) := by decide +kernel
theorem d_Pg_advance_25 : decode qC_Pg_advance.1 25 = .ok (.iload 4, 2) := by decide +kernel
theorem d_Pg_advance_27 : decode qC_Pg_advance.1 27 = .ok (.iadd, 1) := by decide +kernel
theorem d_Pg_advance_28 : decode qC_Pg_advance.1 28 = .ok (.putfield 9, 3) := by decide +kernel
theorem d_Pg_advance_31 : decode qC_Pg_advance.1 31 = .ok (.iload_n 2, 1) := by decide +kernel
theorem d_Pg_advance_32 : decode qC_Pg_advance.1 32 = .ok (.iload 4, 2) := by decide +kernel
theorem d_Pg_advance_34 : decode qC_Pg_advance.1 34 = .ok (.isub, 1) := by decide +kernel
theorem d_Pg_advance_35 : decode qC_Pg_advance.1 35 = .ok (.istore_n 2, 1) := by decide +kernel
theorem d_Pg_advance_36 : decode qC_Pg_advance.1 36 = .ok (.aload_n 0, 1) := by decide +kernel
theorem d_Pg_advance_37 : decode qC_Pg_advance.1 37 = .ok (.invokevirtual 58, 3) := by decide +kernel
theorem d_Pg_advance_40 : decode qC_Pg_advance.1 40 = .ok (.ifCond .gt 54, 3) := by decide +kernel
theorem d_Pg_advance_43 : decode qC_Pg_advance.1 43 = .ok (.aload_n 0, 1) := by decide +kernel
theorem d_Pg_advance_44 : decode qC_Pg_advance.1 44 = .ok (.getfield 24, 3) := by decide +kernel
theorem d_Pg_advance_47 : decode qC_Pg_advance.1 47 = .ok (.aload_n 0, 1) := by decide +kernel
theorem d_Pg_advance_48 : decode qC_Pg_advance.1 48 = .ok (.getfield 24, 3) := by decide +kernel
theorem d_Pg_advance_51 : decode qC_Pg_advance.1 51 = .ok (.getfield 38, 3) := by decide +kernel
theorem d_Pg_advance_54 : decode qC_Pg_advance.1 54 = .ok (.iconst 1, 1) := by decide +kernel
theorem d_Pg_advance_55 : decode qC_Pg_advance.1 55 = .ok (.iadd, 1) := by decide +kernel
theorem d_Pg_advance_56 : decode qC_Pg_advance.1 56 = .ok (.invokevirtual 54, 3) := by decide +kernel
theorem d_Pg_advance_59 : decode qC_Pg_advance.1 59 = .ok (.ifCond .eq 35, 3) := by decide +kernel
theorem d_Pg_advance_62 : decode qC_Pg_advance.1 62 = .ok (.aload_n 0, 1) := by decide +kernel
theorem d_Pg_advance_63 : decode qC_Pg_advance.1 63 = .ok (.getfield 28, 3) := by decide +kernel
theorem d_Pg_advance_66 : decode qC_Pg_advance.1 66 = .ok (.aload_n 0, 1) := by decide +kernel
theorem d_Pg_advance_67 : decode qC_Pg_advance.1 67 = .ok (.getfield 24, 3) := by decide +kernel
theorem d_Pg_advance_70 : decode qC_Pg_advance.1 70 = .ok (.getfield 38, 3) := by decide +kernel
theorem d_Pg_advance_73 : decode qC_Pg_advance.1 73 = .ok (.iconst 1, 1) := by decide +kernel
theorem d_Pg_advance_74 : decode qC_Pg_advance.1 74 = .ok (.iadd, 1) := by decide +kernel
theorem d_Pg_advance_75 : decode qC_Pg_advance.1 75 = .ok (.invokevirtual 62, 3) := by decide +kernel
theorem d_Pg_advance_78 : decode qC_Pg_advance.1 78 = .ok (.ifCond .eq 6, 3) := by decide +kernel
theorem d_Pg_advance_81 : decode qC_Pg_advance.1 81 = .ok (.goto 13, 3) := by decide +kernel
theorem d_Pg_advance_84 : decode qC_Pg_advance.1 84 = .ok (.aload_n 0, 1) := by decide +kernel
theorem d_Pg_advance_85 : decode qC_Pg_advance.1 85 = .ok (.invokevirtual 65, 3) := by decide +kernel
theorem d_Pg_advance_88 : decode qC_Pg_advance.1 88 = .ok (.iinc 3 1, 3) := by decide +kernel
theorem d_Pg_advance_91 : decode qC_Pg_advance.1 91 = .ok (.goto (-87), 3) := by decide +kernel
theorem d_Pg_advance_94 : decode qC_Pg_advance.1 94 = .ok (.iload_n 1, 1) := by decide +kernel
theorem d_Pg_advance_95 : decode qC_Pg_advance.1 95 = .ok (.iload_n 2, 1) := by decide +kernel
theorem d_Pg_advance_96 : decode qC_Pg_advance.1 96 = .ok (.isub, 1) := by decide +kernel
theorem d_Pg_advance_97 : decode qC_Pg_advance.1 97 = .ok (.ireturn, 1) := by decide +kernel
set_option maxRecDepth 100000 in
def lb_f_Pg_advance_4 (o : Nat) (J3 : Int32 → St → Option (Int32 × St)) (J6 : Int32 → St → Option (Int32 × St)) (ih8 : Int32 × Int32 × St → Option (Int32 × St)) (a7 : Int32 × Int32 × St) : Option (Int32 × St) :=
  if ((20 : Int32) : Int32) ≤ a7.2.1 then (
  J3 a7.1 a7.2.2
  ) else (
  Option.bind (f_Pg_restOfLeg a7.2.2 o) fun x9 =>
  Lt ((imin a7.1 x9) : Int32) fun x10 =>
  Lt (s2 a7.2.2 o 2 ((a7.2.2 o 2) + x10)) fun σ11 =>
  Lt ((a7.1 - x10) : Int32) fun x12 =>
  Option.bind (f_Pg_restOfLeg σ11 o) fun x13 =>
  if (0 : Int32) < x13 then (
  J3 x12 σ11
  ) else (
  Option.bind (f_Pl_hasLeg σ11 (rc o 0) ((σ11 (rc o 0) 2) + (1 : Int32))) fun x14 =>
  if (x14 : Int32) = 0 then (
  J3 x12 σ11
  ) else (
  Option.bind (f_Pa_gapBefore σ11 (rc o 1) ((σ11 (rc o 0) 2) + (1 : Int32))) fun x15 =>
  if (x15 : Int32) = 0 then (
  Option.bind (f_Pg_beginNextLeg σ11 o) fun x16 =>
  Lt (a7.2.1 + (1 : Int32) : Int32) fun x17 =>
  ih8 (x12, x17, x16)
  ) else (
  J6 x12 σ11
  )
  )
  )
  )
set_option maxRecDepth 100000 in
def f_Pg_advance (σ : St) (o : Nat) (p1 : Int32) : Option (Int32 × St) :=
  Jn (fun (x1 : Int32) (σ2 : St) =>
  some ((p1 - x1), σ2)
  ) fun J3 =>
  Jn (fun (x4 : Int32) (σ5 : St) =>
  J3 x4 σ5
  ) fun J6 =>
  lp (lb_f_Pg_advance_4 o J3 J6) 4000 (p1, (0 : Int32), σ)
set_option maxHeartbeats 4000000 in
set_option maxRecDepth 100000 in
theorem cC_Pg_advance (l : Launch) (g : Ge) (hi : injB wC.2 g) (σ : St) (o : Nat) (ho : wC.2.2.1 o = .inr (5, 6)) (p1 : Int32) (x : Int32 × St) (h : f_Pg_advance σ o p1 = some x) : Ct l wC g yC_Pg_advance qC_Pg_advance 2 43 [.ref (g.1 o), .int p1] σ (some (.int x.1), x.2) := by
  refine Ct.of (out := o_w) FC_Pg_advance rfl hi rfl h (fun z hz C => ?_)
  clear h
  subst hz
  unfold f_Pg_advance
  show Rt z qC_Pg_advance wC g o_w 0 [(0, .ref (g.1 o)), (1, .int p1)] [] σ _
  refine q_iload_n (pc' := 1) C 1 d_Pg_advance_0 rfl rfl ?_
  refine q_istore_n (pc' := 2) (lv' := [(2, .int p1), (0, .ref (g.1 o)), (1, .int p1)]) C d_Pg_advance_1 (by decide) rfl rfl ?_
  refine q_iconst (pc' := 3) C d_Pg_advance_2 ki_0 rfl ?_
  refine q_istore_n (pc' := 4) (lv' := [(3, .int (0 : Int32)), (2, .int p1), (0, .ref (g.1 o)), (1, .int p1)]) C d_Pg_advance_3 (by decide) rfl rfl ?_
  refine q_join (fun J3 : Int32 → St → Option (Int32 × St) => ∀ (x1 : Int32) (σ2 : St), Rt z qC_Pg_advance wC g o_w 94 [(1, .int p1), (2, .int x1)] [] σ2 (J3 x1 σ2)) (fun x1 σ2 => ?_) (fun J3 hJ3 => ?_)
  · refine q_iload_n (pc' := 95) C 0 d_Pg_advance_94 rfl rfl ?_
    refine q_iload_n (pc' := 96) C 1 d_Pg_advance_95 rfl rfl ?_
    refine q_isub (pc' := 97) C d_Pg_advance_96 rfl ?_
    exact q_iret C rfl d_Pg_advance_97 rfl
  refine q_join (fun J6 : Int32 → St → Option (Int32 × St) => ∀ (x4 : Int32) (σ5 : St), Rt z qC_Pg_advance wC g o_w 81 [(1, .int p1), (2, .int x4)] [] σ5 (J6 x4 σ5)) (fun x4 σ5 => ?_) (fun J6 hJ6 => ?_)
  · refine q_goto (tgt := 94) C d_Pg_advance_81 rfl ?_
    exact Rt.sub [0, 1] rfl (hJ3 x4 σ5)
  refine Rt.sub [2, 3, 1, 0] rfl (q_lp (fun a7 : Int32 × Int32 × St => [(0, .ref (g.1 o)), (1, .int p1), (2, .int a7.1), (3, .int a7.2.1)]) (fun a7 => []) (fun a7 => a7.2.2) (fun ih8 hih8 a7 => ?_) 4000 (p1, (0 : Int32), σ))
  unfold lb_f_Pg_advance_4
  refine q_iload_n (pc' := 5) C 3 d_Pg_advance_4 rfl rfl ?_
  refine q_bipush (pc' := 7) C d_Pg_advance_5 kb_20 rfl ?_
  refine q_icmp_ge (tgt := 94) (pc' := 10) C d_Pg_advance_7 rfl rfl ?_ ?_
  · exact Rt.sub [1, 2] rfl (hJ3 a7.1 a7.2.2)
  · refine q_iload_n (pc' := 11) C 2 d_Pg_advance_10 rfl rfl ?_
    refine q_aload_n (pc' := 12) C 0 d_Pg_advance_11 rfl rfl ?_
    refine q_callVr (fr' := 1) (lo' := 22) (pc' := 15) C FC_Pg_restOfLeg lmC_Pg_58 d_Pg_advance_12 o (jCo ho) ho cC_5 [] [.int a7.1] rfl rfl (Nat.le_of_ble_eq_true rfl) ⟨rfl, rfl⟩ (fun x h => cC_Pg_restOfLeg _ g hi a7.2.2 o ho x h) rfl (fun x9 hx9 => ?_)
    refine q_mmin (pc' := 18) C lj_min_Pg_49 (Nat.le_of_ble_eq_true rfl) ⟨rfl, rfl⟩ d_Pg_advance_15 rfl ?_
    refine q_let (fun x10 e10 => ?_)
    refine q_topi e10 ?_
    refine q_istore (pc' := 20) (lv' := [(4, .int x10), (0, .ref (g.1 o)), (1, .int p1), (2, .int a7.1), (3, .int a7.2.1)]) C d_Pg_advance_18 (by decide) rfl rfl ?_
    refine q_aload_n (pc' := 21) C 1 d_Pg_advance_20 rfl rfl ?_
    refine q_dup (pc' := 22) C d_Pg_advance_21 rfl rfl ?_
    refine gC_Pg_9 (pc' := 25) C o ho d_Pg_advance_22 rfl rfl ?_
    refine q_iload (pc' := 27) C 0 d_Pg_advance_25 rfl rfl ?_
    refine q_iadd (pc' := 28) C d_Pg_advance_27 rfl ?_
    refine pC_Pg_9 (pc' := 31) C o ho d_Pg_advance_28 rfl rfl ?_
    refine q_let (fun σ11 e11 => ?_)
    refine q_state e11 ?_
    refine q_iload_n (pc' := 32) C 3 d_Pg_advance_31 rfl rfl ?_
    refine q_iload (pc' := 34) C 0 d_Pg_advance_32 rfl rfl ?_
    refine q_isub (pc' := 35) C d_Pg_advance_34 rfl ?_
    refine q_let (fun x12 e12 => ?_)
    refine q_topi e12 ?_
    refine q_istore_n (pc' := 36) (lv' := [(2, .int x12), (4, .int x10), (0, .ref (g.1 o)), (1, .int p1), (3, .int a7.2.1)]) C d_Pg_advance_35 (by decide) rfl rfl ?_
    refine q_aload_n (pc' := 37) C 2 d_Pg_advance_36 rfl rfl ?_
    refine q_callVr (fr' := 1) (lo' := 22) (pc' := 40) C FC_Pg_restOfLeg lmC_Pg_58 d_Pg_advance_37 o (jCo ho) ho cC_5 [] [] rfl rfl (Nat.le_of_ble_eq_true rfl) ⟨rfl, rfl⟩ (fun x h => cC_Pg_restOfLeg _ g hi σ11 o ho x h) rfl (fun x13 hx13 => ?_)
    refine q_if_gt (tgt := 94) (pc' := 43) C d_Pg_advance_40 rfl rfl ?_ ?_
    · exact Rt.sub [3, 0] rfl (hJ3 x12 σ11)
    · refine q_aload_n (pc' := 44) C 2 d_Pg_advance_43 rfl rfl ?_
      refine gC_Pg_24 (pc' := 47) C o (rc o 0) ho (ly_5_0 ho).1 d_Pg_advance_44 rfl rfl ?_
      refine q_aload_n (pc' := 48) C 2 d_Pg_advance_47 rfl rfl ?_
      refine gC_Pg_24 (pc' := 51) C o (rc o 0) ho (ly_5_0 ho).1 d_Pg_advance_48 rfl rfl ?_
      refine gC_Pg_38 (pc' := 54) C (rc o 0) (ly_5_0 ho).2 d_Pg_advance_51 rfl rfl ?_
      refine q_iconst (pc' := 55) C d_Pg_advance_54 ki_1 rfl ?_
      refine q_iadd (pc' := 56) C d_Pg_advance_55 rfl ?_
      refine q_callVr (fr' := 0) (lo' := 0) (pc' := 59) C FC_Pl_hasLeg lmC_Pg_54 d_Pg_advance_56 (rc o 0) (jCo (ly_5_0 ho).2) (ly_5_0 ho).2 cC_3 [.int ((σ11 (rc o 0) 2) + (1 : Int32))] [] rfl rfl (Nat.le_of_ble_eq_true rfl) ⟨rfl, rfl⟩ (fun x h => cC_Pl_hasLeg _ g hi σ11 (rc o 0) (ly_5_0 ho).2 ((σ11 (rc o 0) 2) + (1 : Int32)) x h) rfl (fun x14 hx14 => ?_)
      refine q_if_eq (tgt := 94) (pc' := 62) C d_Pg_advance_59 rfl rfl ?_ ?_
      · exact Rt.sub [3, 0] rfl (hJ3 x12 σ11)
      · refine q_aload_n (pc' := 63) C 2 d_Pg_advance_62 rfl rfl ?_
        refine gC_Pg_28 (pc' := 66) C o (rc o 1) ho (ly_5_1 ho).1 d_Pg_advance_63 rfl rfl ?_
        refine q_aload_n (pc' := 67) C 2 d_Pg_advance_66 rfl rfl ?_
        refine gC_Pg_24 (pc' := 70) C o (rc o 0) ho (ly_5_0 ho).1 d_Pg_advance_67 rfl rfl ?_
        refine gC_Pg_38 (pc' := 73) C (rc o 0) (ly_5_0 ho).2 d_Pg_advance_70 rfl rfl ?_
        refine q_iconst (pc' := 74) C d_Pg_advance_73 ki_1 rfl ?_
        refine q_iadd (pc' := 75) C d_Pg_advance_74 rfl ?_
        refine q_callVr (fr' := 1) (lo' := 22) (pc' := 78) C FC_Pa_gapBefore lmC_Pg_62 d_Pg_advance_75 (rc o 1) (jCo (ly_5_1 ho).2) (ly_5_1 ho).2 cC_1 [.int ((σ11 (rc o 0) 2) + (1 : Int32))] [] rfl rfl (Nat.le_of_ble_eq_true rfl) ⟨rfl, rfl⟩ (fun x h => cC_Pa_gapBefore _ g hi σ11 (rc o 1) (ly_5_1 ho).2 ((σ11 (rc o 0) 2) + (1 : Int32)) x h) rfl (fun x15 hx15 => ?_)
        refine q_if_eq (tgt := 84) (pc' := 81) C d_Pg_advance_78 rfl rfl ?_ ?_
        · refine q_aload_n (pc' := 85) C 2 d_Pg_advance_84 rfl rfl ?_
          refine q_callVv (fr' := 0) (lo' := 0) (pc' := 88) C FC_Pg_beginNextLeg lmC_Pg_65 d_Pg_advance_85 o (jCo ho) ho cC_5 [] [] rfl rfl (Nat.le_of_ble_eq_true rfl) ⟨rfl, rfl⟩ (fun x h => cC_Pg_beginNextLeg _ g hi σ11 o ho x h) rfl (fun x16 hx16 => ?_)
          refine q_let (fun x17 e17 => ?_)
          refine q_iinc (pc' := 91) (lv' := [(3, .int x17), (2, .int x12), (4, .int x10), (0, .ref (g.1 o)), (1, .int p1)]) C 4 d_Pg_advance_88 rfl (by rw [e17, ki_1]) (by decide) rfl rfl ?_
          refine q_goto (tgt := 4) C d_Pg_advance_91 rfl ?_
          exact Rt.sub [3, 4, 1, 0] rfl (hih8 (x12, x17, x16))
        · exact Rt.sub [3, 0] rfl (hJ6 x12 σ11)
theorem d_Pg_locateAtEnd_0 : decode qC_Pg_locateAtEnd.1 0 = .ok (.aload_n 0, 1) := by decide +kernel
theorem d_Pg_locateAtEnd_1 : decode qC_Pg_locateAtEnd.1 1 = .ok (.getfield 24, 3) := by decide +kernel
theorem d_Pg_locateAtEnd_4 : decode qC_Pg_locateAtEnd.1 4 = .ok (.getfield 38, 3) := by decide +kernel
theorem d_Pg_locateAtEnd_7 : decode qC_Pg_locateAtEnd.1 7 = .ok (.istore_n 1, 1) := by decide +kernel
theorem d_Pg_locateAtEnd_8 : decode qC_Pg_locateAtEnd.1 8 = .ok (.aload_n 0, 1) := by decide +kernel
theorem d_Pg_locateAtEnd_9 : decode qC_Pg_locateAtEnd.1 9 = .ok (.getfield 28, 3) := by decide +kernel
theorem d_Pg_locateAtEnd_12 : decode qC_Pg_locateAtEnd.1 12 = .ok (.getfield 32, 3) := by decide +kernel
theorem d_Pg_locateAtEnd_15 : decode qC_Pg_locateAtEnd.1 15 = .ok (.iload_n 1, 1) := by decide +kernel
theorem d_Pg_locateAtEnd_16 : decode qC_Pg_locateAtEnd.1 16 = .ok (.iconst 1, 1) := by decide +kernel
theorem d_Pg_locateAtEnd_17 : decode qC_Pg_locateAtEnd.1 17 = .ok (.invokevirtual 43, 3) := by decide +kernel
theorem d_Pg_locateAtEnd_20 : decode qC_Pg_locateAtEnd.1 20 = .ok (.ifCond .ne 5, 3) := by decide +kernel
theorem d_Pg_locateAtEnd_23 : decode qC_Pg_locateAtEnd.1 23 = .ok (.iconst 0, 1) := by decide +kernel
theorem d_Pg_locateAtEnd_24 : decode qC_Pg_locateAtEnd.1 24 = .ok (.ireturn, 1) := by decide +kernel
theorem d_Pg_locateAtEnd_25 : decode qC_Pg_locateAtEnd.1 25 = .ok (.aload_n 0, 1) := by decide +kernel
theorem d_Pg_locateAtEnd_26 : decode qC_Pg_locateAtEnd.1 26 = .ok (.getfield 24, 3) := by decide +kernel
theorem d_Pg_locateAtEnd_29 : decode qC_Pg_locateAtEnd.1 29 = .ok (.iload_n 1, 1) := by decide +kernel
theorem d_Pg_locateAtEnd_30 : decode qC_Pg_locateAtEnd.1 30 = .ok (.invokevirtual 93, 3) := by decide +kernel
theorem d_Pg_locateAtEnd_33 : decode qC_Pg_locateAtEnd.1 33 = .ok (.istore_n 2, 1) := by decide +kernel
theorem d_Pg_locateAtEnd_34 : decode qC_Pg_locateAtEnd.1 34 = .ok (.aload_n 0, 1) := by decide +kernel
theorem d_Pg_locateAtEnd_35 : decode qC_Pg_locateAtEnd.1 35 = .ok (.aload_n 0, 1) := by decide +kernel
theorem d_Pg_locateAtEnd_36 : decode qC_Pg_locateAtEnd.1 36 = .ok (.getfield 28, 3) := by decide +kernel
theorem d_Pg_locateAtEnd_39 : decode qC_Pg_locateAtEnd.1 39 = .ok (.getfield 32, 3) := by decide +kernel
theorem d_Pg_locateAtEnd_42 : decode qC_Pg_locateAtEnd.1 42 = .ok (.iload_n 1, 1) := by decide +kernel
theorem d_Pg_locateAtEnd_43 : decode qC_Pg_locateAtEnd.1 43 = .ok (.iconst 2, 1) := by decide +kernel
theorem d_Pg_locateAtEnd_44 : decode qC_Pg_locateAtEnd.1 44 = .ok (.invokevirtual 43, 3) := by decide +kernel
theorem d_Pg_locateAtEnd_47 : decode qC_Pg_locateAtEnd.1 47 = .ok (.putfield 15, 3) := by decide +kernel
theorem d_Pg_locateAtEnd_50 : decode qC_Pg_locateAtEnd.1 50 = .ok (.aload_n 0, 1) := by decide +kernel
theorem d_Pg_locateAtEnd_51 : decode qC_Pg_locateAtEnd.1 51 = .ok (.aload_n 0, 1) := by decide +kernel
theorem d_Pg_locateAtEnd_52 : decode qC_Pg_locateAtEnd.1 52 = .ok (.getfield 28, 3) := by decide +kernel
theorem d_Pg_locateAtEnd_55 : decode qC_Pg_locateAtEnd.1 55 = .ok (.getfield 32, 3) := by decide +kernel
theorem d_Pg_locateAtEnd_58 : decode qC_Pg_locateAtEnd.1 58 = .ok (.iload_n 1, 1) := by decide +kernel
theorem d_Pg_locateAtEnd_59 : decode qC_Pg_locateAtEnd.1 59 = .ok (.iconst 3, 1) := by decide +kernel
theorem d_Pg_locateAtEnd_60 : decode qC_Pg_locateAtEnd.1 60 = .ok (.invokevirtual 43, 3) := by decide +kernel
theorem d_Pg_locateAtEnd_63 : decode qC_Pg_locateAtEnd.1 63 = .ok (.putfield 18, 3) := by decide +kernel
theorem d_Pg_locateAtEnd_66 : decode qC_Pg_locateAtEnd.1 66 = .ok (.aload_n 0, 1) := by decide +kernel
theorem d_Pg_locateAtEnd_67 : decode qC_Pg_locateAtEnd.1 67 = .ok (.iload_n 2, 1) := by decide +kernel
theorem d_Pg_locateAtEnd_68 : decode qC_Pg_locateAtEnd.1 68 = .ok (.iconst 3, 1) := by decide +kernel
theorem d_Pg_locateAtEnd_69 : decode qC_Pg_locateAtEnd.1 69 = .ok (.if_icmp .eq 15, 3) := by decide +kernel
theorem d_Pg_locateAtEnd_72 : decode qC_Pg_locateAtEnd.1 72 = .ok (.iload_n 2, 1) := by decide +kernel
theorem d_Pg_locateAtEnd_73 : decode qC_Pg_locateAtEnd.1 73 = .ok (.bipush 7, 2) := by decide +kernel
theorem d_Pg_locateAtEnd_75 : decode qC_Pg_locateAtEnd.1 75 = .ok (.if_icmp .eq 9, 3) := by decide +kernel
theorem d_Pg_locateAtEnd_78 : decode qC_Pg_locateAtEnd.1 78 = .ok (.iload_n 2, 1) := by decide +kernel
theorem d_Pg_locateAtEnd_79 : decode qC_Pg_locateAtEnd.1 79 = .ok (.bipush 8, 2) := by decide +kernel
theorem d_Pg_locateAtEnd_81 : decode qC_Pg_locateAtEnd.1 81 = .ok (.if_icmp .ne 18, 3) := by decide +kernel
theorem d_Pg_locateAtEnd_84 : decode qC_Pg_locateAtEnd.1 84 = .ok (.aload_n 0, 1) := by decide +kernel
theorem d_Pg_locateAtEnd_85 : decode qC_Pg_locateAtEnd.1 85 = .ok (.getfield 24, 3) := by decide +kernel
theorem d_Pg_locateAtEnd_88 : decode qC_Pg_locateAtEnd.1 88 = .ok (.getfield 97, 3) := by decide +kernel
theorem d_Pg_locateAtEnd_91 : decode qC_Pg_locateAtEnd.1 91 = .ok (.iload_n 1, 1) := by decide +kernel
theorem d_Pg_locateAtEnd_92 : decode qC_Pg_locateAtEnd.1 92 = .ok (.iconst 2, 1) := by decide +kernel
theorem d_Pg_locateAtEnd_93 : decode qC_Pg_locateAtEnd.1 93 = .ok (.invokevirtual 43, 3) := by decide +kernel
theorem d_Pg_locateAtEnd_96 : decode qC_Pg_locateAtEnd.1 96 = .ok (.goto 4, 3) := by decide +kernel
theorem d_Pg_locateAtEnd_99 : decode qC_Pg_locateAtEnd.1 99 = .ok (.iconst 0, 1) := by decide +kernel
theorem d_Pg_locateAtEnd_100 : decode qC_Pg_locateAtEnd.1 100 = .ok (.putfield 21, 3) := by decide +kernel
theorem d_Pg_locateAtEnd_103 : decode qC_Pg_locateAtEnd.1 103 = .ok (.iconst 1, 1) := by decide +kernel
theorem d_Pg_locateAtEnd_104 : decode qC_Pg_locateAtEnd.1 104 = .ok (.ireturn, 1) := by decide +kernel
set_option maxRecDepth 100000 in
def f_Pg_locateAtEnd (σ : St) (o : Nat) : Option (Int32 × St) :=
  Lt ((σ (rc o 0) 2) : Int32) fun x1 =>
  Option.bind (f_Tb_get σ (rc (rc o 1) 1) x1 (1 : Int32)) fun x2 =>
  if (x2 : Int32) = 0 then (
  some ((0 : Int32), σ)
  ) else (
  Option.bind (f_Pl_kind σ (rc o 0) x1) fun x3 =>
  Option.bind (f_Tb_get σ (rc (rc o 1) 1) x1 (2 : Int32)) fun x4 =>
  Lt (s2 σ o 3 x4) fun σ5 =>
  Option.bind (f_Tb_get σ5 (rc (rc o 1) 1) x1 (3 : Int32)) fun x6 =>
  Lt (s2 σ5 o 4 x6) fun σ7 =>
  Jn (fun (x8 : Int32) =>
  Lt (s2 σ7 o 5 x8) fun σ10 =>
  some ((1 : Int32), σ10)
  ) fun J9 =>
  Jn (fun (_ : Unit) =>
  Option.bind (f_Tb_get σ7 (rc (rc o 0) 0) x1 (2 : Int32)) fun x12 =>
  J9 x12
  ) fun J11 =>
  if (x3 : Int32) = (3 : Int32) then (
  J11 ()
  ) else (
  if (x3 : Int32) = (7 : Int32) then (
  J11 ()
  ) else (
  if (x3 : Int32) = (8 : Int32) then (
  J11 ()
  ) else (
  J9 (0 : Int32)
  )
  )
  )
  )
set_option maxHeartbeats 4000000 in
set_option maxRecDepth 100000 in
theorem cC_Pg_locateAtEnd (l : Launch) (g : Ge) (hi : injB wC.2 g) (σ : St) (o : Nat) (ho : wC.2.2.1 o = .inr (5, 6)) (x : Int32 × St) (h : f_Pg_locateAtEnd σ o = some x) : Ct l wC g yC_Pg_locateAtEnd qC_Pg_locateAtEnd 2 43 [.ref (g.1 o)] σ (some (.int x.1), x.2) := by
  refine Ct.of (out := o_w) FC_Pg_locateAtEnd rfl hi rfl h (fun z hz C => ?_)
  clear h
  subst hz
  unfold f_Pg_locateAtEnd
  show Rt z qC_Pg_locateAtEnd wC g o_w 0 [(0, .ref (g.1 o))] [] σ _
  refine q_aload_n (pc' := 1) C 0 d_Pg_locateAtEnd_0 rfl rfl ?_
  refine gC_Pg_24 (pc' := 4) C o (rc o 0) ho (ly_5_0 ho).1 d_Pg_locateAtEnd_1 rfl rfl ?_
  refine gC_Pg_38 (pc' := 7) C (rc o 0) (ly_5_0 ho).2 d_Pg_locateAtEnd_4 rfl rfl ?_
  refine q_let (fun x1 e1 => ?_)
  refine q_topi e1 ?_
  refine q_istore_n (pc' := 8) (lv' := [(1, .int x1), (0, .ref (g.1 o))]) C d_Pg_locateAtEnd_7 (by decide) rfl rfl ?_
  refine q_aload_n (pc' := 9) C 1 d_Pg_locateAtEnd_8 rfl rfl ?_
  refine gC_Pg_28 (pc' := 12) C o (rc o 1) ho (ly_5_1 ho).1 d_Pg_locateAtEnd_9 rfl rfl ?_
  refine gC_Pg_32 (pc' := 15) C (rc o 1) (rc (rc o 1) 1) (ly_5_1 ho).2 (ly_1_1 (ly_5_1 ho).2).1 d_Pg_locateAtEnd_12 rfl rfl ?_
  refine q_iload_n (pc' := 16) C 0 d_Pg_locateAtEnd_15 rfl rfl ?_
  refine q_iconst (pc' := 17) C d_Pg_locateAtEnd_16 ki_1 rfl ?_
  refine q_callVr (fr' := 0) (lo' := 0) (pc' := 20) C FC_Tb_get lmC_Pg_43 d_Pg_locateAtEnd_17 (rc (rc o 1) 1) (jCo (ly_1_1 (ly_5_1 ho).2).2) (ly_1_1 (ly_5_1 ho).2).2 cC_8 [.int x1, .int (1 : Int32)] [] rfl rfl (Nat.le_of_ble_eq_true rfl) ⟨rfl, rfl⟩ (fun x h => cC_Tb_get _ g hi σ (rc (rc o 1) 1) (ly_1_1 (ly_5_1 ho).2).2 x1 (1 : Int32) x h) rfl (fun x2 hx2 => ?_)
  refine q_if_ne (tgt := 25) (pc' := 23) C d_Pg_locateAtEnd_20 rfl rfl ?_ ?_
  · refine q_aload_n (pc' := 26) C 1 d_Pg_locateAtEnd_25 rfl rfl ?_
    refine gC_Pg_24 (pc' := 29) C o (rc o 0) ho (ly_5_0 ho).1 d_Pg_locateAtEnd_26 rfl rfl ?_
    refine q_iload_n (pc' := 30) C 0 d_Pg_locateAtEnd_29 rfl rfl ?_
    refine q_callVr (fr' := 1) (lo' := 22) (pc' := 33) C FC_Pl_kind lmC_Pg_93 d_Pg_locateAtEnd_30 (rc o 0) (jCo (ly_5_0 ho).2) (ly_5_0 ho).2 cC_3 [.int x1] [] rfl rfl (Nat.le_of_ble_eq_true rfl) ⟨rfl, rfl⟩ (fun x h => cC_Pl_kind _ g hi σ (rc o 0) (ly_5_0 ho).2 x1 x h) rfl (fun x3 hx3 => ?_)
    refine q_istore_n (pc' := 34) (lv' := [(2, .int x3), (1, .int x1), (0, .ref (g.1 o))]) C d_Pg_locateAtEnd_33 (by decide) rfl rfl ?_
    refine q_aload_n (pc' := 35) C 2 d_Pg_locateAtEnd_34 rfl rfl ?_
    refine q_aload_n (pc' := 36) C 2 d_Pg_locateAtEnd_35 rfl rfl ?_
    refine gC_Pg_28 (pc' := 39) C o (rc o 1) ho (ly_5_1 ho).1 d_Pg_locateAtEnd_36 rfl rfl ?_
    refine gC_Pg_32 (pc' := 42) C (rc o 1) (rc (rc o 1) 1) (ly_5_1 ho).2 (ly_1_1 (ly_5_1 ho).2).1 d_Pg_locateAtEnd_39 rfl rfl ?_
    refine q_iload_n (pc' := 43) C 1 d_Pg_locateAtEnd_42 rfl rfl ?_
    refine q_iconst (pc' := 44) C d_Pg_locateAtEnd_43 ki_2 rfl ?_
    refine q_callVr (fr' := 0) (lo' := 0) (pc' := 47) C FC_Tb_get lmC_Pg_43 d_Pg_locateAtEnd_44 (rc (rc o 1) 1) (jCo (ly_1_1 (ly_5_1 ho).2).2) (ly_1_1 (ly_5_1 ho).2).2 cC_8 [.int x1, .int (2 : Int32)] [.ref (g.1 o)] rfl rfl (Nat.le_of_ble_eq_true rfl) ⟨rfl, rfl⟩ (fun x h => cC_Tb_get _ g hi σ (rc (rc o 1) 1) (ly_1_1 (ly_5_1 ho).2).2 x1 (2 : Int32) x h) rfl (fun x4 hx4 => ?_)
    refine pC_Pg_15 (pc' := 50) C o ho d_Pg_locateAtEnd_47 rfl rfl ?_
    refine q_let (fun σ5 e5 => ?_)
    refine q_state e5 ?_
    refine q_aload_n (pc' := 51) C 2 d_Pg_locateAtEnd_50 rfl rfl ?_
    refine q_aload_n (pc' := 52) C 2 d_Pg_locateAtEnd_51 rfl rfl ?_
    refine gC_Pg_28 (pc' := 55) C o (rc o 1) ho (ly_5_1 ho).1 d_Pg_locateAtEnd_52 rfl rfl ?_
    refine gC_Pg_32 (pc' := 58) C (rc o 1) (rc (rc o 1) 1) (ly_5_1 ho).2 (ly_1_1 (ly_5_1 ho).2).1 d_Pg_locateAtEnd_55 rfl rfl ?_
    refine q_iload_n (pc' := 59) C 1 d_Pg_locateAtEnd_58 rfl rfl ?_
    refine q_iconst (pc' := 60) C d_Pg_locateAtEnd_59 ki_3 rfl ?_
    refine q_callVr (fr' := 0) (lo' := 0) (pc' := 63) C FC_Tb_get lmC_Pg_43 d_Pg_locateAtEnd_60 (rc (rc o 1) 1) (jCo (ly_1_1 (ly_5_1 ho).2).2) (ly_1_1 (ly_5_1 ho).2).2 cC_8 [.int x1, .int (3 : Int32)] [.ref (g.1 o)] rfl rfl (Nat.le_of_ble_eq_true rfl) ⟨rfl, rfl⟩ (fun x h => cC_Tb_get _ g hi σ5 (rc (rc o 1) 1) (ly_1_1 (ly_5_1 ho).2).2 x1 (3 : Int32) x h) rfl (fun x6 hx6 => ?_)
    refine pC_Pg_18 (pc' := 66) C o ho d_Pg_locateAtEnd_63 rfl rfl ?_
    refine q_let (fun σ7 e7 => ?_)
    refine q_state e7 ?_
    refine q_aload_n (pc' := 67) C 2 d_Pg_locateAtEnd_66 rfl rfl ?_
    refine q_iload_n (pc' := 68) C 0 d_Pg_locateAtEnd_67 rfl rfl ?_
    refine q_iconst (pc' := 69) C d_Pg_locateAtEnd_68 ki_3 rfl ?_
    refine q_join (fun J9 : Int32 → Option (Int32 × St) => ∀ (x8 : Int32), Rt z qC_Pg_locateAtEnd wC g o_w 100 [] [.int x8, .ref (g.1 o)] σ7 (J9 x8)) (fun x8 => ?_) (fun J9 hJ9 => ?_)
    · refine pC_Pg_21 (pc' := 103) C o ho d_Pg_locateAtEnd_100 rfl rfl ?_
      refine q_let (fun σ10 e10 => ?_)
      refine q_state e10 ?_
      refine q_iconst (pc' := 104) C d_Pg_locateAtEnd_103 ki_1 rfl ?_
      exact q_zret C rfl (by decide) d_Pg_locateAtEnd_104 rfl
    refine q_join (fun J11 : Unit → Option (Int32 × St) => ∀ (_ : Unit), Rt z qC_Pg_locateAtEnd wC g o_w 84 [(0, .ref (g.1 o)), (1, .int x1)] [.ref (g.1 o)] σ7 (J11 ())) (fun _ => ?_) (fun J11 hJ11 => ?_)
    · refine q_aload_n (pc' := 85) C 0 d_Pg_locateAtEnd_84 rfl rfl ?_
      refine gC_Pg_24 (pc' := 88) C o (rc o 0) ho (ly_5_0 ho).1 d_Pg_locateAtEnd_85 rfl rfl ?_
      refine gC_Pg_97 (pc' := 91) C (rc o 0) (rc (rc o 0) 0) (ly_5_0 ho).2 (ly_3_0 (ly_5_0 ho).2).1 d_Pg_locateAtEnd_88 rfl rfl ?_
      refine q_iload_n (pc' := 92) C 1 d_Pg_locateAtEnd_91 rfl rfl ?_
      refine q_iconst (pc' := 93) C d_Pg_locateAtEnd_92 ki_2 rfl ?_
      refine q_callVr (fr' := 0) (lo' := 0) (pc' := 96) C FC_Tb_get lmC_Pg_43 d_Pg_locateAtEnd_93 (rc (rc o 0) 0) (jCo (ly_3_0 (ly_5_0 ho).2).2) (ly_3_0 (ly_5_0 ho).2).2 cC_8 [.int x1, .int (2 : Int32)] [.ref (g.1 o)] rfl rfl (Nat.le_of_ble_eq_true rfl) ⟨rfl, rfl⟩ (fun x h => cC_Tb_get _ g hi σ7 (rc (rc o 0) 0) (ly_3_0 (ly_5_0 ho).2).2 x1 (2 : Int32) x h) rfl (fun x12 hx12 => ?_)
      refine q_goto (tgt := 100) C d_Pg_locateAtEnd_96 rfl ?_
      exact Rt.sub [] rfl (hJ9 x12)
    refine q_icmp_eq (tgt := 84) (pc' := 72) C d_Pg_locateAtEnd_69 rfl rfl ?_ ?_
    · exact Rt.sub [2, 1] rfl (hJ11 ())
    · refine q_iload_n (pc' := 73) C 0 d_Pg_locateAtEnd_72 rfl rfl ?_
      refine q_bipush (pc' := 75) C d_Pg_locateAtEnd_73 kb_7 rfl ?_
      refine q_icmp_eq (tgt := 84) (pc' := 78) C d_Pg_locateAtEnd_75 rfl rfl ?_ ?_
      · exact Rt.sub [2, 1] rfl (hJ11 ())
      · refine q_iload_n (pc' := 79) C 0 d_Pg_locateAtEnd_78 rfl rfl ?_
        refine q_bipush (pc' := 81) C d_Pg_locateAtEnd_79 kb_8 rfl ?_
        refine q_icmp_ne (tgt := 99) (pc' := 84) C d_Pg_locateAtEnd_81 rfl rfl ?_ ?_
        · refine q_iconst (pc' := 100) C d_Pg_locateAtEnd_99 ki_0 rfl ?_
          exact Rt.sub [] rfl (hJ9 (0 : Int32))
        · exact Rt.sub [2, 1] rfl (hJ11 ())
  · refine q_iconst (pc' := 24) C d_Pg_locateAtEnd_23 ki_0 rfl ?_
    exact q_zret C rfl (by decide) d_Pg_locateAtEnd_24 rfl
theorem d_Pg_between_0 : decode qC_Pg_between.1 0 = .ok (.iload_n 3, 1) := by decide +kernel
theorem d_Pg_between_1 : decode qC_Pg_between.1 1 = .ok (.ifCond .ne 7, 3) := by decide +kernel
theorem d_Pg_between_4 : decode qC_Pg_between.1 4 = .ok (.iload_n 1, 1) := by decide +kernel
theorem d_Pg_between_5 : decode qC_Pg_between.1 5 = .ok (.goto 18, 3) := by decide +kernel
theorem d_Pg_between_8 : decode qC_Pg_between.1 8 = .ok (.iload_n 0, 1) := by decide +kernel
theorem d_Pg_between_9 : decode qC_Pg_between.1 9 = .ok (.i2l, 1) := by decide +kernel
theorem d_Pg_between_10 : decode qC_Pg_between.1 10 = .ok (.iload_n 1, 1) := by decide +kernel
theorem d_Pg_between_11 : decode qC_Pg_between.1 11 = .ok (.i2l, 1) := by decide +kernel
theorem d_Pg_between_12 : decode qC_Pg_between.1 12 = .ok (.iload_n 0, 1) := by decide +kernel
theorem d_Pg_between_13 : decode qC_Pg_between.1 13 = .ok (.i2l, 1) := by decide +kernel
theorem d_Pg_between_14 : decode qC_Pg_between.1 14 = .ok (.lsub, 1) := by decide +kernel
theorem d_Pg_between_15 : decode qC_Pg_between.1 15 = .ok (.iload_n 2, 1) := by decide +kernel
theorem d_Pg_between_16 : decode qC_Pg_between.1 16 = .ok (.i2l, 1) := by decide +kernel
theorem d_Pg_between_17 : decode qC_Pg_between.1 17 = .ok (.lmul, 1) := by decide +kernel
theorem d_Pg_between_18 : decode qC_Pg_between.1 18 = .ok (.iload_n 3, 1) := by decide +kernel
theorem d_Pg_between_19 : decode qC_Pg_between.1 19 = .ok (.i2l, 1) := by decide +kernel
theorem d_Pg_between_20 : decode qC_Pg_between.1 20 = .ok (.ldiv, 1) := by decide +kernel
theorem d_Pg_between_21 : decode qC_Pg_between.1 21 = .ok (.ladd, 1) := by decide +kernel
theorem d_Pg_between_22 : decode qC_Pg_between.1 22 = .ok (.l2i, 1) := by decide +kernel
theorem d_Pg_between_23 : decode qC_Pg_between.1 23 = .ok (.ireturn, 1) := by decide +kernel
set_option maxRecDepth 100000 in
def f_Pg_between (p0 : Int32) (p1 : Int32) (p2 : Int32) (p3 : Int32) : Option (Int32) :=
  Jn (fun (x1 : Int32) =>
  some x1
  ) fun J2 =>
  if (p3 : Int32) = 0 then (
  J2 p1
  ) else (
  Gd (¬ ((Int32.toInt64 p3) : Int64) = 0) <|
  J2 (Int64.toInt32 ((Int32.toInt64 p0) + ((((Int32.toInt64 p1) - (Int32.toInt64 p0)) * (Int32.toInt64 p2)) / (Int32.toInt64 p3))))
  )
set_option maxHeartbeats 4000000 in
set_option maxRecDepth 100000 in
theorem cC_Pg_between (l : Launch) (g : Ge) (hi : injB wC.2 g) (σ : St) (p0 : Int32) (p1 : Int32) (p2 : Int32) (p3 : Int32) (x : Int32) (h : f_Pg_between p0 p1 p2 p3 = some x) : Ct l wC g yC_Pg_between qC_Pg_between 0 0 [.int p0, .int p1, .int p2, .int p3] σ (some (.int x), σ) := by
  refine Ct.of (out := (o_r σ)) FC_Pg_between rfl hi rfl h (fun z hz C => ?_)
  clear h
  subst hz
  unfold f_Pg_between
  show Rt z qC_Pg_between wC g (o_r σ) 0 [(0, .int p0), (1, .int p1), (2, .int p2), (3, .int p3)] [] σ _
  refine q_iload_n (pc' := 1) C 3 d_Pg_between_0 rfl rfl ?_
  refine q_join (fun J2 : Int32 → Option (Int32) => ∀ (x1 : Int32), Rt z qC_Pg_between wC g (o_r σ) 23 [] [.int x1] σ (J2 x1)) (fun x1 => ?_) (fun J2 hJ2 => ?_)
  · exact q_iret C rfl d_Pg_between_23 rfl
  refine q_if_ne (tgt := 8) (pc' := 4) C d_Pg_between_1 rfl rfl ?_ ?_
  · refine q_iload_n (pc' := 9) C 0 d_Pg_between_8 rfl rfl ?_
    refine q_i2l (pc' := 10) C d_Pg_between_9 rfl ?_
    refine q_iload_n (pc' := 11) C 1 d_Pg_between_10 rfl rfl ?_
    refine q_i2l (pc' := 12) C d_Pg_between_11 rfl ?_
    refine q_iload_n (pc' := 13) C 0 d_Pg_between_12 rfl rfl ?_
    refine q_i2l (pc' := 14) C d_Pg_between_13 rfl ?_
    refine q_lsub (pc' := 15) C d_Pg_between_14 rfl ?_
    refine q_iload_n (pc' := 16) C 2 d_Pg_between_15 rfl rfl ?_
    refine q_i2l (pc' := 17) C d_Pg_between_16 rfl ?_
    refine q_lmul (pc' := 18) C d_Pg_between_17 rfl ?_
    refine q_iload_n (pc' := 19) C 3 d_Pg_between_18 rfl rfl ?_
    refine q_i2l (pc' := 20) C d_Pg_between_19 rfl ?_
    refine q_guard (fun gx3 => ?_)
    refine q_ldiv (pc' := 21) C gx3 d_Pg_between_20 rfl ?_
    refine q_ladd (pc' := 22) C d_Pg_between_21 rfl ?_
    refine q_l2i (pc' := 23) C d_Pg_between_22 rfl ?_
    exact Rt.sub [] rfl (hJ2 (Int64.toInt32 ((Int32.toInt64 p0) + ((((Int32.toInt64 p1) - (Int32.toInt64 p0)) * (Int32.toInt64 p2)) / (Int32.toInt64 p3)))))
  · refine q_iload_n (pc' := 5) C 1 d_Pg_between_4 rfl rfl ?_
    refine q_goto (tgt := 23) C d_Pg_between_5 rfl ?_
    exact Rt.sub [] rfl (hJ2 p1)
theorem d_Pg_locateOn_0 : decode qC_Pg_locateOn.1 0 = .ok (.aload_n 0, 1) := by decide +kernel
theorem d_Pg_locateOn_1 : decode qC_Pg_locateOn.1 1 = .ok (.getfield 28, 3) := by decide +kernel
theorem d_Pg_locateOn_4 : decode qC_Pg_locateOn.1 4 = .ok (.getfield 71, 3) := by decide +kernel
theorem d_Pg_locateOn_7 : decode qC_Pg_locateOn.1 7 = .ok (.getfield 75, 3) := by decide +kernel
theorem d_Pg_locateOn_10 : decode qC_Pg_locateOn.1 10 = .ok (.astore_n 3, 1) := by decide +kernel
theorem d_Pg_locateOn_11 : decode qC_Pg_locateOn.1 11 = .ok (.aload_n 3, 1) := by decide +kernel
theorem d_Pg_locateOn_12 : decode qC_Pg_locateOn.1 12 = .ok (.iload_n 1, 1) := by decide +kernel
theorem d_Pg_locateOn_13 : decode qC_Pg_locateOn.1 13 = .ok (.iconst 2, 1) := by decide +kernel
theorem d_Pg_locateOn_14 : decode qC_Pg_locateOn.1 14 = .ok (.invokevirtual 43, 3) := by decide +kernel
theorem d_Pg_locateOn_17 : decode qC_Pg_locateOn.1 17 = .ok (.istore 4, 2) := by decide +kernel
theorem d_Pg_locateOn_19 : decode qC_Pg_locateOn.1 19 = .ok (.aload_n 0, 1) := by decide +kernel
theorem d_Pg_locateOn_20 : decode qC_Pg_locateOn.1 20 = .ok (.aload_n 3, 1) := by decide +kernel
theorem d_Pg_locateOn_21 : decode qC_Pg_locateOn.1 21 = .ok (.iload_n 1, 1) := by decide +kernel
theorem d_Pg_locateOn_22 : decode qC_Pg_locateOn.1 22 = .ok (.iconst 4, 1) := by decide +kernel
theorem d_Pg_locateOn_23 : decode qC_Pg_locateOn.1 23 = .ok (.invokevirtual 43, 3) := by decide +kernel
theorem d_Pg_locateOn_26 : decode qC_Pg_locateOn.1 26 = .ok (.aload_n 3, 1) := by decide +kernel
theorem d_Pg_locateOn_27 : decode qC_Pg_locateOn.1 27 = .ok (.iload_n 1, 1) := by decide +kernel
theorem d_Pg_locateOn_28 : decode qC_Pg_locateOn.1 28 = .ok (.bipush 6, 2) := by decide +kernel
theorem d_Pg_locateOn_30 : decode qC_Pg_locateOn.1 30 = .ok (.invokevirtual 43, 3) := by decide +kernel
theorem d_Pg_locateOn_33 : decode qC_Pg_locateOn.1 33 = .ok (.iload_n 2, 1) := by decide +kernel
theorem d_Pg_locateOn_34 : decode qC_Pg_locateOn.1 34 = .ok (.iload 4, 2) := by decide +kernel
theorem d_Pg_locateOn_36 : decode qC_Pg_locateOn.1 36 = .ok (.invokestatic 89, 3) := by decide +kernel
theorem d_Pg_locateOn_39 : decode qC_Pg_locateOn.1 39 = .ok (.putfield 15, 3) := by decide +kernel
theorem d_Pg_locateOn_42 : decode qC_Pg_locateOn.1 42 = .ok (.aload_n 0, 1) := by decide +kernel
theorem d_Pg_locateOn_43 : decode qC_Pg_locateOn.1 43 = .ok (.aload_n 3, 1) := by decide +kernel
theorem d_Pg_locateOn_44 : decode qC_Pg_locateOn.1 44 = .ok (.iload_n 1, 1) := by decide +kernel
theorem d_Pg_locateOn_45 : decode qC_Pg_locateOn.1 45 = .ok (.iconst 5, 1) := by decide +kernel
theorem d_Pg_locateOn_46 : decode qC_Pg_locateOn.1 46 = .ok (.invokevirtual 43, 3) := by decide +kernel
theorem d_Pg_locateOn_49 : decode qC_Pg_locateOn.1 49 = .ok (.aload_n 3, 1) := by decide +kernel
theorem d_Pg_locateOn_50 : decode qC_Pg_locateOn.1 50 = .ok (.iload_n 1, 1) := by decide +kernel
theorem d_Pg_locateOn_51 : decode qC_Pg_locateOn.1 51 = .ok (.bipush 7, 2) := by decide +kernel
theorem d_Pg_locateOn_53 : decode qC_Pg_locateOn.1 53 = .ok (.invokevirtual 43, 3) := by decide +kernel
theorem d_Pg_locateOn_56 : decode qC_Pg_locateOn.1 56 = .ok (.iload_n 2, 1) := by decide +kernel
theorem d_Pg_locateOn_57 : decode qC_Pg_locateOn.1 57 = .ok (.iload 4, 2) := by decide +kernel
theorem d_Pg_locateOn_59 : decode qC_Pg_locateOn.1 59 = .ok (.invokestatic 89, 3) := by decide +kernel
theorem d_Pg_locateOn_62 : decode qC_Pg_locateOn.1 62 = .ok (.putfield 18, 3) := by decide +kernel
theorem d_Pg_locateOn_65 : decode qC_Pg_locateOn.1 65 = .ok (.aload_n 0, 1) := by decide +kernel
theorem d_Pg_locateOn_66 : decode qC_Pg_locateOn.1 66 = .ok (.aload_n 3, 1) := by decide +kernel
theorem d_Pg_locateOn_67 : decode qC_Pg_locateOn.1 67 = .ok (.iload_n 1, 1) := by decide +kernel
theorem d_Pg_locateOn_68 : decode qC_Pg_locateOn.1 68 = .ok (.iconst 3, 1) := by decide +kernel
theorem d_Pg_locateOn_69 : decode qC_Pg_locateOn.1 69 = .ok (.invokevirtual 43, 3) := by decide +kernel
theorem d_Pg_locateOn_72 : decode qC_Pg_locateOn.1 72 = .ok (.putfield 21, 3) := by decide +kernel
theorem d_Pg_locateOn_75 : decode qC_Pg_locateOn.1 75 = .ok (.iconst 1, 1) := by decide +kernel
theorem d_Pg_locateOn_76 : decode qC_Pg_locateOn.1 76 = .ok (.ireturn, 1) := by decide +kernel
set_option maxRecDepth 100000 in
def f_Pg_locateOn (σ : St) (o : Nat) (p1 : Int32) (p2 : Int32) : Option (Int32 × St) :=
  Option.bind (f_Tb_get σ (rc (rc (rc o 1) 3) 4) p1 (2 : Int32)) fun x1 =>
  Option.bind (f_Tb_get σ (rc (rc (rc o 1) 3) 4) p1 (4 : Int32)) fun x2 =>
  Option.bind (f_Tb_get σ (rc (rc (rc o 1) 3) 4) p1 (6 : Int32)) fun x3 =>
  Option.bind (f_Pg_between x2 x3 p2 x1) fun x4 =>
  Lt (s2 σ o 3 x4) fun σ5 =>
  Option.bind (f_Tb_get σ5 (rc (rc (rc o 1) 3) 4) p1 (5 : Int32)) fun x6 =>
  Option.bind (f_Tb_get σ5 (rc (rc (rc o 1) 3) 4) p1 (7 : Int32)) fun x7 =>
  Option.bind (f_Pg_between x6 x7 p2 x1) fun x8 =>
  Lt (s2 σ5 o 4 x8) fun σ9 =>
  Option.bind (f_Tb_get σ9 (rc (rc (rc o 1) 3) 4) p1 (3 : Int32)) fun x10 =>
  Lt (s2 σ9 o 5 x10) fun σ11 =>
  some ((1 : Int32), σ11)
set_option maxHeartbeats 4000000 in
set_option maxRecDepth 100000 in
theorem cC_Pg_locateOn (l : Launch) (g : Ge) (hi : injB wC.2 g) (σ : St) (o : Nat) (ho : wC.2.2.1 o = .inr (5, 6)) (p1 : Int32) (p2 : Int32) (x : Int32 × St) (h : f_Pg_locateOn σ o p1 p2 = some x) : Ct l wC g yC_Pg_locateOn qC_Pg_locateOn 1 23 [.ref (g.1 o), .int p1, .int p2] σ (some (.int x.1), x.2) := by
  refine Ct.of (out := o_w) FC_Pg_locateOn rfl hi rfl h (fun z hz C => ?_)
  clear h
  subst hz
  unfold f_Pg_locateOn
  show Rt z qC_Pg_locateOn wC g o_w 0 [(0, .ref (g.1 o)), (1, .int p1), (2, .int p2)] [] σ _
  refine q_aload_n (pc' := 1) C 0 d_Pg_locateOn_0 rfl rfl ?_
  refine gC_Pg_28 (pc' := 4) C o (rc o 1) ho (ly_5_1 ho).1 d_Pg_locateOn_1 rfl rfl ?_
  refine gC_Pg_71 (pc' := 7) C (rc o 1) (rc (rc o 1) 3) (ly_5_1 ho).2 (ly_1_3 (ly_5_1 ho).2).1 d_Pg_locateOn_4 rfl rfl ?_
  refine gC_Pg_75 (pc' := 10) C (rc (rc o 1) 3) (rc (rc (rc o 1) 3) 4) (ly_1_3 (ly_5_1 ho).2).2 (ly_2_4 (ly_1_3 (ly_5_1 ho).2).2).1 d_Pg_locateOn_7 rfl rfl ?_
  refine q_astore_n (pc' := 11) (lv' := [(3, .ref (g.1 (rc (rc (rc o 1) 3) 4))), (0, .ref (g.1 o)), (1, .int p1), (2, .int p2)]) C d_Pg_locateOn_10 (by decide) rfl rfl ?_
  refine q_aload_n (pc' := 12) C 0 d_Pg_locateOn_11 rfl rfl ?_
  refine q_iload_n (pc' := 13) C 2 d_Pg_locateOn_12 rfl rfl ?_
  refine q_iconst (pc' := 14) C d_Pg_locateOn_13 ki_2 rfl ?_
  refine q_callVr (fr' := 0) (lo' := 0) (pc' := 17) C FC_Tb_get lmC_Pg_43 d_Pg_locateOn_14 (rc (rc (rc o 1) 3) 4) (jCo (ly_2_4 (ly_1_3 (ly_5_1 ho).2).2).2) (ly_2_4 (ly_1_3 (ly_5_1 ho).2).2).2 cC_8 [.int p1, .int (2 : Int32)] [] rfl rfl (Nat.le_of_ble_eq_true rfl) ⟨rfl, rfl⟩ (fun x h => cC_Tb_get _ g hi σ (rc (rc (rc o 1) 3) 4) (ly_2_4 (ly_1_3 (ly_5_1 ho).2).2).2 p1 (2 : Int32) x h) rfl (fun x1 hx1 => ?_)
  refine q_istore (pc' := 19) (lv' := [(4, .int x1), (3, .ref (g.1 (rc (rc (rc o 1) 3) 4))), (0, .ref (g.1 o)), (1, .int p1), (2, .int p2)]) C d_Pg_locateOn_17 (by decide) rfl rfl ?_
  refine q_aload_n (pc' := 20) C 2 d_Pg_locateOn_19 rfl rfl ?_
  refine q_aload_n (pc' := 21) C 1 d_Pg_locateOn_20 rfl rfl ?_
  refine q_iload_n (pc' := 22) C 3 d_Pg_locateOn_21 rfl rfl ?_
  refine q_iconst (pc' := 23) C d_Pg_locateOn_22 ki_4 rfl ?_
  refine q_callVr (fr' := 0) (lo' := 0) (pc' := 26) C FC_Tb_get lmC_Pg_43 d_Pg_locateOn_23 (rc (rc (rc o 1) 3) 4) (jCo (ly_2_4 (ly_1_3 (ly_5_1 ho).2).2).2) (ly_2_4 (ly_1_3 (ly_5_1 ho).2).2).2 cC_8 [.int p1, .int (4 : Int32)] [.ref (g.1 o)] rfl rfl (Nat.le_of_ble_eq_true rfl) ⟨rfl, rfl⟩ (fun x h => cC_Tb_get _ g hi σ (rc (rc (rc o 1) 3) 4) (ly_2_4 (ly_1_3 (ly_5_1 ho).2).2).2 p1 (4 : Int32) x h) rfl (fun x2 hx2 => ?_)
  refine q_aload_n (pc' := 27) C 1 d_Pg_locateOn_26 rfl rfl ?_
  refine q_iload_n (pc' := 28) C 3 d_Pg_locateOn_27 rfl rfl ?_
  refine q_bipush (pc' := 30) C d_Pg_locateOn_28 kb_6 rfl ?_
  refine q_callVr (fr' := 0) (lo' := 0) (pc' := 33) C FC_Tb_get lmC_Pg_43 d_Pg_locateOn_30 (rc (rc (rc o 1) 3) 4) (jCo (ly_2_4 (ly_1_3 (ly_5_1 ho).2).2).2) (ly_2_4 (ly_1_3 (ly_5_1 ho).2).2).2 cC_8 [.int p1, .int (6 : Int32)] [.int x2, .ref (g.1 o)] rfl rfl (Nat.le_of_ble_eq_true rfl) ⟨rfl, rfl⟩ (fun x h => cC_Tb_get _ g hi σ (rc (rc (rc o 1) 3) 4) (ly_2_4 (ly_1_3 (ly_5_1 ho).2).2).2 p1 (6 : Int32) x h) rfl (fun x3 hx3 => ?_)
  refine q_iload_n (pc' := 34) C 4 d_Pg_locateOn_33 rfl rfl ?_
  refine q_iload (pc' := 36) C 0 d_Pg_locateOn_34 rfl rfl ?_
  refine q_callSr (fr' := 0) (lo' := 0) (pc' := 39) C FC_Pg_between lmC_Pg_89 d_Pg_locateOn_36 [.int x2, .int x3, .int p2, .int x1] [.ref (g.1 o)] rfl rfl (Nat.le_of_ble_eq_true rfl) ⟨rfl, rfl⟩ (fun x h => cC_Pg_between _ g hi σ x2 x3 p2 x1 x h) rfl (fun x4 hx4 => ?_)
  refine pC_Pg_15 (pc' := 42) C o ho d_Pg_locateOn_39 rfl rfl ?_
  refine q_let (fun σ5 e5 => ?_)
  refine q_state e5 ?_
  refine q_aload_n (pc' := 43) C 2 d_Pg_locateOn_42 rfl rfl ?_
  refine q_aload_n (pc' := 44) C 1 d_Pg_locateOn_43 rfl rfl ?_
  refine q_iload_n (pc' := 45) C 3 d_Pg_locateOn_44 rfl rfl ?_
  refine q_iconst (pc' := 46) C d_Pg_locateOn_45 ki_5 rfl ?_
  refine q_callVr (fr' := 0) (lo' := 0) (pc' := 49) C FC_Tb_get lmC_Pg_43 d_Pg_locateOn_46 (rc (rc (rc o 1) 3) 4) (jCo (ly_2_4 (ly_1_3 (ly_5_1 ho).2).2).2) (ly_2_4 (ly_1_3 (ly_5_1 ho).2).2).2 cC_8 [.int p1, .int (5 : Int32)] [.ref (g.1 o)] rfl rfl (Nat.le_of_ble_eq_true rfl) ⟨rfl, rfl⟩ (fun x h => cC_Tb_get _ g hi σ5 (rc (rc (rc o 1) 3) 4) (ly_2_4 (ly_1_3 (ly_5_1 ho).2).2).2 p1 (5 : Int32) x h) rfl (fun x6 hx6 => ?_)
  refine q_aload_n (pc' := 50) C 1 d_Pg_locateOn_49 rfl rfl ?_
  refine q_iload_n (pc' := 51) C 3 d_Pg_locateOn_50 rfl rfl ?_
  refine q_bipush (pc' := 53) C d_Pg_locateOn_51 kb_7 rfl ?_
  refine q_callVr (fr' := 0) (lo' := 0) (pc' := 56) C FC_Tb_get lmC_Pg_43 d_Pg_locateOn_53 (rc (rc (rc o 1) 3) 4) (jCo (ly_2_4 (ly_1_3 (ly_5_1 ho).2).2).2) (ly_2_4 (ly_1_3 (ly_5_1 ho).2).2).2 cC_8 [.int p1, .int (7 : Int32)] [.int x6, .ref (g.1 o)] rfl rfl (Nat.le_of_ble_eq_true rfl) ⟨rfl, rfl⟩ (fun x h => cC_Tb_get _ g hi σ5 (rc (rc (rc o 1) 3) 4) (ly_2_4 (ly_1_3 (ly_5_1 ho).2).2).2 p1 (7 : Int32) x h) rfl (fun x7 hx7 => ?_)
  refine q_iload_n (pc' := 57) C 4 d_Pg_locateOn_56 rfl rfl ?_
  refine q_iload (pc' := 59) C 0 d_Pg_locateOn_57 rfl rfl ?_
  refine q_callSr (fr' := 0) (lo' := 0) (pc' := 62) C FC_Pg_between lmC_Pg_89 d_Pg_locateOn_59 [.int x6, .int x7, .int p2, .int x1] [.ref (g.1 o)] rfl rfl (Nat.le_of_ble_eq_true rfl) ⟨rfl, rfl⟩ (fun x h => cC_Pg_between _ g hi σ5 x6 x7 p2 x1 x h) rfl (fun x8 hx8 => ?_)
  refine pC_Pg_18 (pc' := 65) C o ho d_Pg_locateOn_62 rfl rfl ?_
  refine q_let (fun σ9 e9 => ?_)
  refine q_state e9 ?_
  refine q_aload_n (pc' := 66) C 2 d_Pg_locateOn_65 rfl rfl ?_
  refine q_aload_n (pc' := 67) C 1 d_Pg_locateOn_66 rfl rfl ?_
  refine q_iload_n (pc' := 68) C 3 d_Pg_locateOn_67 rfl rfl ?_
  refine q_iconst (pc' := 69) C d_Pg_locateOn_68 ki_3 rfl ?_
  refine q_callVr (fr' := 0) (lo' := 0) (pc' := 72) C FC_Tb_get lmC_Pg_43 d_Pg_locateOn_69 (rc (rc (rc o 1) 3) 4) (jCo (ly_2_4 (ly_1_3 (ly_5_1 ho).2).2).2) (ly_2_4 (ly_1_3 (ly_5_1 ho).2).2).2 cC_8 [.int p1, .int (3 : Int32)] [.ref (g.1 o)] rfl rfl (Nat.le_of_ble_eq_true rfl) ⟨rfl, rfl⟩ (fun x h => cC_Tb_get _ g hi σ9 (rc (rc (rc o 1) 3) 4) (ly_2_4 (ly_1_3 (ly_5_1 ho).2).2).2 p1 (3 : Int32) x h) rfl (fun x10 hx10 => ?_)
  refine pC_Pg_21 (pc' := 75) C o ho d_Pg_locateOn_72 rfl rfl ?_
  refine q_let (fun σ11 e11 => ?_)
  refine q_state e11 ?_
  refine q_iconst (pc' := 76) C d_Pg_locateOn_75 ki_1 rfl ?_
  exact q_zret C rfl (by decide) d_Pg_locateOn_76 rfl
theorem d_Pg_locate_0 : decode qC_Pg_locate.1 0 = .ok (.aload_n 0, 1) := by decide +kernel
theorem d_Pg_locate_1 : decode qC_Pg_locate.1 1 = .ok (.getfield 24, 3) := by decide +kernel
theorem d_Pg_locate_4 : decode qC_Pg_locate.1 4 = .ok (.getfield 68, 3) := by decide +kernel
theorem d_Pg_locate_7 : decode qC_Pg_locate.1 7 = .ok (.ifCond .ne 5, 3) := by decide +kernel
theorem d_Pg_locate_10 : decode qC_Pg_locate.1 10 = .ok (.iconst 0, 1) := by decide +kernel
theorem d_Pg_locate_11 : decode qC_Pg_locate.1 11 = .ok (.ireturn, 1) := by decide +kernel
theorem d_Pg_locate_12 : decode qC_Pg_locate.1 12 = .ok (.aload_n 0, 1) := by decide +kernel
theorem d_Pg_locate_13 : decode qC_Pg_locate.1 13 = .ok (.getfield 28, 3) := by decide +kernel
theorem d_Pg_locate_16 : decode qC_Pg_locate.1 16 = .ok (.getfield 71, 3) := by decide +kernel
theorem d_Pg_locate_19 : decode qC_Pg_locate.1 19 = .ok (.getfield 75, 3) := by decide +kernel
theorem d_Pg_locate_22 : decode qC_Pg_locate.1 22 = .ok (.astore_n 1, 1) := by decide +kernel
theorem d_Pg_locate_23 : decode qC_Pg_locate.1 23 = .ok (.iconst 0, 1) := by decide +kernel
theorem d_Pg_locate_24 : decode qC_Pg_locate.1 24 = .ok (.istore_n 2, 1) := by decide +kernel
theorem d_Pg_locate_25 : decode qC_Pg_locate.1 25 = .ok (.iconst (-1), 1) := by decide +kernel
theorem d_Pg_locate_26 : decode qC_Pg_locate.1 26 = .ok (.istore_n 3, 1) := by decide +kernel
theorem d_Pg_locate_27 : decode qC_Pg_locate.1 27 = .ok (.iconst 0, 1) := by decide +kernel
theorem d_Pg_locate_28 : decode qC_Pg_locate.1 28 = .ok (.istore 4, 2) := by decide +kernel
theorem d_Pg_locate_30 : decode qC_Pg_locate.1 30 = .ok (.iload 4, 2) := by decide +kernel
theorem d_Pg_locate_32 : decode qC_Pg_locate.1 32 = .ok (.aload_n 0, 1) := by decide +kernel
theorem d_Pg_locate_33 : decode qC_Pg_locate.1 33 = .ok (.getfield 28, 3) := by decide +kernel
theorem d_Pg_locate_36 : decode qC_Pg_locate.1 36 = .ok (.getfield 71, 3) := by decide +kernel
theorem d_Pg_locate_39 : decode qC_Pg_locate.1 39 = .ok (.getfield 80, 3) := by decide +kernel
theorem d_Pg_locate_42 : decode qC_Pg_locate.1 42 = .ok (.if_icmp .ge 69, 3) := by decide +kernel
theorem d_Pg_locate_45 : decode qC_Pg_locate.1 45 = .ok (.aload_n 1, 1) := by decide +kernel
theorem d_Pg_locate_46 : decode qC_Pg_locate.1 46 = .ok (.iload 4, 2) := by decide +kernel
theorem d_Pg_locate_48 : decode qC_Pg_locate.1 48 = .ok (.iconst 0, 1) := by decide +kernel
theorem d_Pg_locate_49 : decode qC_Pg_locate.1 49 = .ok (.invokevirtual 43, 3) := by decide +kernel
theorem d_Pg_locate_52 : decode qC_Pg_locate.1 52 = .ok (.aload_n 0, 1) := by decide +kernel
theorem d_Pg_locate_53 : decode qC_Pg_locate.1 53 = .ok (.getfield 24, 3) := by decide +kernel
theorem d_Pg_locate_56 : decode qC_Pg_locate.1 56 = .ok (.getfield 38, 3) := by decide +kernel
theorem d_Pg_locate_59 : decode qC_Pg_locate.1 59 = .ok (.if_icmp .eq 6, 3) := by decide +kernel
theorem d_Pg_locate_62 : decode qC_Pg_locate.1 62 = .ok (.goto 43, 3) := by decide +kernel
theorem d_Pg_locate_65 : decode qC_Pg_locate.1 65 = .ok (.iload_n 2, 1) := by decide +kernel
theorem d_Pg_locate_66 : decode qC_Pg_locate.1 66 = .ok (.iload_n 3, 1) := by decide +kernel
theorem d_Pg_locate_67 : decode qC_Pg_locate.1 67 = .ok (.iconst (-1), 1) := by decide +kernel
theorem d_Pg_locate_68 : decode qC_Pg_locate.1 68 = .ok (.if_icmp .ne 7, 3) := by decide +kernel
theorem d_Pg_locate_71 : decode qC_Pg_locate.1 71 = .ok (.iconst 0, 1) := by decide +kernel
theorem d_Pg_locate_72 : decode qC_Pg_locate.1 72 = .ok (.goto 9, 3) := by decide +kernel
theorem d_Pg_locate_75 : decode qC_Pg_locate.1 75 = .ok (.aload_n 1, 1) := by decide +kernel
theorem d_Pg_locate_76 : decode qC_Pg_locate.1 76 = .ok (.iload_n 3, 1) := by decide +kernel
theorem d_Pg_locate_77 : decode qC_Pg_locate.1 77 = .ok (.iconst 2, 1) := by decide +kernel
theorem d_Pg_locate_78 : decode qC_Pg_locate.1 78 = .ok (.invokevirtual 43, 3) := by decide +kernel
theorem d_Pg_locate_81 : decode qC_Pg_locate.1 81 = .ok (.iadd, 1) := by decide +kernel
theorem d_Pg_locate_82 : decode qC_Pg_locate.1 82 = .ok (.istore_n 2, 1) := by decide +kernel
theorem d_Pg_locate_83 : decode qC_Pg_locate.1 83 = .ok (.iload 4, 2) := by decide +kernel
theorem d_Pg_locate_85 : decode qC_Pg_locate.1 85 = .ok (.istore_n 3, 1) := by decide +kernel
theorem d_Pg_locate_86 : decode qC_Pg_locate.1 86 = .ok (.iload_n 2, 1) := by decide +kernel
theorem d_Pg_locate_87 : decode qC_Pg_locate.1 87 = .ok (.aload_n 1, 1) := by decide +kernel
theorem d_Pg_locate_88 : decode qC_Pg_locate.1 88 = .ok (.iload 4, 2) := by decide +kernel
theorem d_Pg_locate_90 : decode qC_Pg_locate.1 90 = .ok (.iconst 2, 1) := by decide +kernel
theorem d_Pg_locate_91 : decode qC_Pg_locate.1 91 = .ok (.invokevirtual 43, 3) := by decide +kernel
theorem d_Pg_locate_94 : decode qC_Pg_locate.1 94 = .ok (.iadd, 1) := by decide +kernel
theorem d_Pg_locate_95 : decode qC_Pg_locate.1 95 = .ok (.aload_n 0, 1) := by decide +kernel
theorem d_Pg_locate_96 : decode qC_Pg_locate.1 96 = .ok (.getfield 9, 3) := by decide +kernel
theorem d_Pg_locate_99 : decode qC_Pg_locate.1 99 = .ok (.if_icmp .le 6, 3) := by decide +kernel
theorem d_Pg_locate_102 : decode qC_Pg_locate.1 102 = .ok (.goto 9, 3) := by decide +kernel
theorem d_Pg_locate_105 : decode qC_Pg_locate.1 105 = .ok (.iinc 4 1, 3) := by decide +kernel
theorem d_Pg_locate_108 : decode qC_Pg_locate.1 108 = .ok (.goto (-78), 3) := by decide +kernel
theorem d_Pg_locate_111 : decode qC_Pg_locate.1 111 = .ok (.iload_n 3, 1) := by decide +kernel
theorem d_Pg_locate_112 : decode qC_Pg_locate.1 112 = .ok (.iconst (-1), 1) := by decide +kernel
theorem d_Pg_locate_113 : decode qC_Pg_locate.1 113 = .ok (.if_icmp .ne 10, 3) := by decide +kernel
theorem d_Pg_locate_116 : decode qC_Pg_locate.1 116 = .ok (.aload_n 0, 1) := by decide +kernel
theorem d_Pg_locate_117 : decode qC_Pg_locate.1 117 = .ok (.invokevirtual 81, 3) := by decide +kernel
theorem d_Pg_locate_120 : decode qC_Pg_locate.1 120 = .ok (.goto 14, 3) := by decide +kernel
theorem d_Pg_locate_123 : decode qC_Pg_locate.1 123 = .ok (.aload_n 0, 1) := by decide +kernel
theorem d_Pg_locate_124 : decode qC_Pg_locate.1 124 = .ok (.iload_n 3, 1) := by decide +kernel
theorem d_Pg_locate_125 : decode qC_Pg_locate.1 125 = .ok (.aload_n 0, 1) := by decide +kernel
theorem d_Pg_locate_126 : decode qC_Pg_locate.1 126 = .ok (.getfield 9, 3) := by decide +kernel
theorem d_Pg_locate_129 : decode qC_Pg_locate.1 129 = .ok (.iload_n 2, 1) := by decide +kernel
theorem d_Pg_locate_130 : decode qC_Pg_locate.1 130 = .ok (.isub, 1) := by decide +kernel
theorem d_Pg_locate_131 : decode qC_Pg_locate.1 131 = .ok (.invokevirtual 85, 3) := by decide +kernel
theorem d_Pg_locate_134 : decode qC_Pg_locate.1 134 = .ok (.ireturn, 1) := by decide +kernel
set_option maxRecDepth 100000 in
def lb_f_Pg_locate_30 (σ : St) (o : Nat) (J3 : Int32 → Int32 → Option (Int32 × St)) (J12 : Int32 → Int32 → Option (Int32 × St)) (ih14 : Int32 × Int32 × Int32 → Option (Int32 × St)) (a13 : Int32 × Int32 × Int32) : Option (Int32 × St) :=
  if ((σ (rc (rc o 1) 3) 5) : Int32) ≤ a13.2.2 then (
  J3 a13.1 a13.2.1
  ) else (
  Option.bind (f_Tb_get σ (rc (rc (rc o 1) 3) 4) a13.2.2 (0 : Int32)) fun x15 =>
  Jn (fun (x16 : Int32) (x17 : Int32) =>
  Lt (a13.2.2 + (1 : Int32) : Int32) fun x19 =>
  ih14 (x16, x17, x19)
  ) fun J18 =>
  if (x15 : Int32) = (σ (rc o 0) 2) then (
  Jn (fun (x20 : Int32) =>
  Lt ((a13.1 + x20) : Int32) fun x22 =>
  Option.bind (f_Tb_get σ (rc (rc (rc o 1) 3) 4) a13.2.2 (2 : Int32)) fun x23 =>
  if ((x22 + x23) : Int32) ≤ (σ o 2) then (
  J18 x22 a13.2.2
  ) else (
  J12 x22 a13.2.2
  )
  ) fun J21 =>
  if (a13.2.1 : Int32) = (-1 : Int32) then (
  J21 (0 : Int32)
  ) else (
  Option.bind (f_Tb_get σ (rc (rc (rc o 1) 3) 4) a13.2.1 (2 : Int32)) fun x24 =>
  J21 x24
  )
  ) else (
  J18 a13.1 a13.2.1
  )
  )
set_option maxRecDepth 100000 in
def f_Pg_locate (σ : St) (o : Nat) : Option (Int32 × St) :=
  if ((σ (rc o 0) 1) : Int32) = 0 then (
  some ((0 : Int32), σ)
  ) else (
  Jn (fun (x1 : Int32) (x2 : Int32) =>
  Jn (fun (x4 : Int32) (σ5 : St) =>
  Gd ((x4 : Int32) &&& 1 = x4) <|
  some (x4, σ5)
  ) fun J6 =>
  if (x2 : Int32) = (-1 : Int32) then (
  Option.bind (f_Pg_locateAtEnd σ o) fun x9 =>
  J6 x9.1 x9.2
  ) else (
  Option.bind (f_Pg_locateOn σ o x2 ((σ o 2) - x1)) fun x8 =>
  J6 x8.1 x8.2
  )
  ) fun J3 =>
  Jn (fun (x10 : Int32) (x11 : Int32) =>
  J3 x10 x11
  ) fun J12 =>
  lp (lb_f_Pg_locate_30 σ o J3 J12) 4000 ((0 : Int32), (-1 : Int32), (0 : Int32))
  )
set_option maxHeartbeats 4000000 in
set_option maxRecDepth 100000 in
theorem cC_Pg_locate (l : Launch) (g : Ge) (hi : injB wC.2 g) (σ : St) (o : Nat) (ho : wC.2.2.1 o = .inr (5, 6)) (x : Int32 × St) (h : f_Pg_locate σ o = some x) : Ct l wC g yC_Pg_locate qC_Pg_locate 3 65 [.ref (g.1 o)] σ (some (.int x.1), x.2) := by
  refine Ct.of (out := o_w) FC_Pg_locate rfl hi rfl h (fun z hz C => ?_)
  clear h
  subst hz
  unfold f_Pg_locate
  show Rt z qC_Pg_locate wC g o_w 0 [(0, .ref (g.1 o))] [] σ _
  refine q_aload_n (pc' := 1) C 0 d_Pg_locate_0 rfl rfl ?_
  refine gC_Pg_24 (pc' := 4) C o (rc o 0) ho (ly_5_0 ho).1 d_Pg_locate_1 rfl rfl ?_
  refine gC_Pg_68 (pc' := 7) C (rc o 0) (ly_5_0 ho).2 d_Pg_locate_4 rfl rfl ?_
  refine q_if_ne (tgt := 12) (pc' := 10) C d_Pg_locate_7 rfl rfl ?_ ?_
  · refine q_aload_n (pc' := 13) C 0 d_Pg_locate_12 rfl rfl ?_
    refine gC_Pg_28 (pc' := 16) C o (rc o 1) ho (ly_5_1 ho).1 d_Pg_locate_13 rfl rfl ?_
    refine gC_Pg_71 (pc' := 19) C (rc o 1) (rc (rc o 1) 3) (ly_5_1 ho).2 (ly_1_3 (ly_5_1 ho).2).1 d_Pg_locate_16 rfl rfl ?_
    refine gC_Pg_75 (pc' := 22) C (rc (rc o 1) 3) (rc (rc (rc o 1) 3) 4) (ly_1_3 (ly_5_1 ho).2).2 (ly_2_4 (ly_1_3 (ly_5_1 ho).2).2).1 d_Pg_locate_19 rfl rfl ?_
    refine q_astore_n (pc' := 23) (lv' := [(1, .ref (g.1 (rc (rc (rc o 1) 3) 4))), (0, .ref (g.1 o))]) C d_Pg_locate_22 (by decide) rfl rfl ?_
    refine q_iconst (pc' := 24) C d_Pg_locate_23 ki_0 rfl ?_
    refine q_istore_n (pc' := 25) (lv' := [(2, .int (0 : Int32)), (1, .ref (g.1 (rc (rc (rc o 1) 3) 4))), (0, .ref (g.1 o))]) C d_Pg_locate_24 (by decide) rfl rfl ?_
    refine q_iconst (pc' := 26) C d_Pg_locate_25 ki_m1 rfl ?_
    refine q_istore_n (pc' := 27) (lv' := [(3, .int (-1 : Int32)), (2, .int (0 : Int32)), (1, .ref (g.1 (rc (rc (rc o 1) 3) 4))), (0, .ref (g.1 o))]) C d_Pg_locate_26 (by decide) rfl rfl ?_
    refine q_iconst (pc' := 28) C d_Pg_locate_27 ki_0 rfl ?_
    refine q_istore (pc' := 30) (lv' := [(4, .int (0 : Int32)), (3, .int (-1 : Int32)), (2, .int (0 : Int32)), (1, .ref (g.1 (rc (rc (rc o 1) 3) 4))), (0, .ref (g.1 o))]) C d_Pg_locate_28 (by decide) rfl rfl ?_
    refine q_join (fun J3 : Int32 → Int32 → Option (Int32 × St) => ∀ (x1 : Int32) (x2 : Int32), Rt z qC_Pg_locate wC g o_w 111 [(0, .ref (g.1 o)), (2, .int x1), (3, .int x2)] [] σ (J3 x1 x2)) (fun x1 x2 => ?_) (fun J3 hJ3 => ?_)
    · refine q_iload_n (pc' := 112) C 2 d_Pg_locate_111 rfl rfl ?_
      refine q_iconst (pc' := 113) C d_Pg_locate_112 ki_m1 rfl ?_
      refine q_join (fun J6 : Int32 → St → Option (Int32 × St) => ∀ (x4 : Int32) (σ5 : St), Rt z qC_Pg_locate wC g o_w 134 [] [.int x4] σ5 (J6 x4 σ5)) (fun x4 σ5 => ?_) (fun J6 hJ6 => ?_)
      · refine q_guard (fun gx7 => ?_)
        exact q_zret C rfl gx7 d_Pg_locate_134 rfl
      refine q_icmp_ne (tgt := 123) (pc' := 116) C d_Pg_locate_113 rfl rfl ?_ ?_
      · refine q_aload_n (pc' := 124) C 0 d_Pg_locate_123 rfl rfl ?_
        refine q_iload_n (pc' := 125) C 2 d_Pg_locate_124 rfl rfl ?_
        refine q_aload_n (pc' := 126) C 0 d_Pg_locate_125 rfl rfl ?_
        refine gC_Pg_9 (pc' := 129) C o ho d_Pg_locate_126 rfl rfl ?_
        refine q_iload_n (pc' := 130) C 1 d_Pg_locate_129 rfl rfl ?_
        refine q_isub (pc' := 131) C d_Pg_locate_130 rfl ?_
        refine q_callVw (fr' := 1) (lo' := 23) (pc' := 134) C FC_Pg_locateOn lmC_Pg_85 d_Pg_locate_131 o (jCo ho) ho cC_5 [.int x2, .int ((σ o 2) - x1)] [] rfl rfl (Nat.le_of_ble_eq_true rfl) ⟨rfl, rfl⟩ (fun x h => cC_Pg_locateOn _ g hi σ o ho x2 ((σ o 2) - x1) x h) rfl (fun x8 hx8 => ?_)
        exact Rt.sub [] rfl (hJ6 x8.1 x8.2)
      · refine q_aload_n (pc' := 117) C 0 d_Pg_locate_116 rfl rfl ?_
        refine q_callVw (fr' := 2) (lo' := 43) (pc' := 120) C FC_Pg_locateAtEnd lmC_Pg_81 d_Pg_locate_117 o (jCo ho) ho cC_5 [] [] rfl rfl (Nat.le_of_ble_eq_true rfl) ⟨rfl, rfl⟩ (fun x h => cC_Pg_locateAtEnd _ g hi σ o ho x h) rfl (fun x9 hx9 => ?_)
        refine q_goto (tgt := 134) C d_Pg_locate_120 rfl ?_
        exact Rt.sub [] rfl (hJ6 x9.1 x9.2)
    refine q_join (fun J12 : Int32 → Int32 → Option (Int32 × St) => ∀ (x10 : Int32) (x11 : Int32), Rt z qC_Pg_locate wC g o_w 102 [(0, .ref (g.1 o)), (2, .int x10), (3, .int x11)] [] σ (J12 x10 x11)) (fun x10 x11 => ?_) (fun J12 hJ12 => ?_)
    · refine q_goto (tgt := 111) C d_Pg_locate_102 rfl ?_
      exact Rt.sub [0, 1, 2] rfl (hJ3 x10 x11)
    refine Rt.sub [4, 3, 2, 1, 0] rfl (q_lp (fun a13 : Int32 × Int32 × Int32 => [(0, .ref (g.1 o)), (1, .ref (g.1 (rc (rc (rc o 1) 3) 4))), (2, .int a13.1), (3, .int a13.2.1), (4, .int a13.2.2)]) (fun a13 => []) (fun a13 => σ) (fun ih14 hih14 a13 => ?_) 4000 ((0 : Int32), (-1 : Int32), (0 : Int32)))
    unfold lb_f_Pg_locate_30
    refine q_iload (pc' := 32) C 4 d_Pg_locate_30 rfl rfl ?_
    refine q_aload_n (pc' := 33) C 0 d_Pg_locate_32 rfl rfl ?_
    refine gC_Pg_28 (pc' := 36) C o (rc o 1) ho (ly_5_1 ho).1 d_Pg_locate_33 rfl rfl ?_
    refine gC_Pg_71 (pc' := 39) C (rc o 1) (rc (rc o 1) 3) (ly_5_1 ho).2 (ly_1_3 (ly_5_1 ho).2).1 d_Pg_locate_36 rfl rfl ?_
    refine gC_Pg_80 (pc' := 42) C (rc (rc o 1) 3) (ly_1_3 (ly_5_1 ho).2).2 d_Pg_locate_39 rfl rfl ?_
    refine q_icmp_ge (tgt := 111) (pc' := 45) C d_Pg_locate_42 rfl rfl ?_ ?_
    · exact Rt.sub [0, 2, 3] rfl (hJ3 a13.1 a13.2.1)
    · refine q_aload_n (pc' := 46) C 1 d_Pg_locate_45 rfl rfl ?_
      refine q_iload (pc' := 48) C 4 d_Pg_locate_46 rfl rfl ?_
      refine q_iconst (pc' := 49) C d_Pg_locate_48 ki_0 rfl ?_
      refine q_callVr (fr' := 0) (lo' := 0) (pc' := 52) C FC_Tb_get lmC_Pg_43 d_Pg_locate_49 (rc (rc (rc o 1) 3) 4) (jCo (ly_2_4 (ly_1_3 (ly_5_1 ho).2).2).2) (ly_2_4 (ly_1_3 (ly_5_1 ho).2).2).2 cC_8 [.int a13.2.2, .int (0 : Int32)] [] rfl rfl (Nat.le_of_ble_eq_true rfl) ⟨rfl, rfl⟩ (fun x h => cC_Tb_get _ g hi σ (rc (rc (rc o 1) 3) 4) (ly_2_4 (ly_1_3 (ly_5_1 ho).2).2).2 a13.2.2 (0 : Int32) x h) rfl (fun x15 hx15 => ?_)
      refine q_aload_n (pc' := 53) C 0 d_Pg_locate_52 rfl rfl ?_
      refine gC_Pg_24 (pc' := 56) C o (rc o 0) ho (ly_5_0 ho).1 d_Pg_locate_53 rfl rfl ?_
      refine gC_Pg_38 (pc' := 59) C (rc o 0) (ly_5_0 ho).2 d_Pg_locate_56 rfl rfl ?_
      refine q_join (fun J18 : Int32 → Int32 → Option (Int32 × St) => ∀ (x16 : Int32) (x17 : Int32), Rt z qC_Pg_locate wC g o_w 105 [(0, .ref (g.1 o)), (1, .ref (g.1 (rc (rc (rc o 1) 3) 4))), (2, .int x16), (3, .int x17), (4, .int a13.2.2)] [] σ (J18 x16 x17)) (fun x16 x17 => ?_) (fun J18 hJ18 => ?_)
      · refine q_let (fun x19 e19 => ?_)
        refine q_iinc (pc' := 108) (lv' := [(4, .int x19), (0, .ref (g.1 o)), (1, .ref (g.1 (rc (rc (rc o 1) 3) 4))), (2, .int x16), (3, .int x17)]) C 4 d_Pg_locate_105 rfl (by rw [e19, ki_1]) (by decide) rfl rfl ?_
        refine q_goto (tgt := 30) C d_Pg_locate_108 rfl ?_
        exact Rt.sub [1, 2, 3, 4, 0] rfl (hih14 (x16, x17, x19))
      refine q_icmp_eq (tgt := 65) (pc' := 62) C d_Pg_locate_59 rfl rfl ?_ ?_
      · refine q_iload_n (pc' := 66) C 2 d_Pg_locate_65 rfl rfl ?_
        refine q_iload_n (pc' := 67) C 3 d_Pg_locate_66 rfl rfl ?_
        refine q_iconst (pc' := 68) C d_Pg_locate_67 ki_m1 rfl ?_
        refine q_join (fun J21 : Int32 → Option (Int32 × St) => ∀ (x20 : Int32), Rt z qC_Pg_locate wC g o_w 81 [(0, .ref (g.1 o)), (1, .ref (g.1 (rc (rc (rc o 1) 3) 4))), (4, .int a13.2.2)] [.int x20, .int a13.1] σ (J21 x20)) (fun x20 => ?_) (fun J21 hJ21 => ?_)
        · refine q_iadd (pc' := 82) C d_Pg_locate_81 rfl ?_
          refine q_let (fun x22 e22 => ?_)
          refine q_topi e22 ?_
          refine q_istore_n (pc' := 83) (lv' := [(2, .int x22), (0, .ref (g.1 o)), (1, .ref (g.1 (rc (rc (rc o 1) 3) 4))), (4, .int a13.2.2)]) C d_Pg_locate_82 (by decide) rfl rfl ?_
          refine q_iload (pc' := 85) C 3 d_Pg_locate_83 rfl rfl ?_
          refine q_istore_n (pc' := 86) (lv' := [(3, .int a13.2.2), (2, .int x22), (0, .ref (g.1 o)), (1, .ref (g.1 (rc (rc (rc o 1) 3) 4))), (4, .int a13.2.2)]) C d_Pg_locate_85 (by decide) rfl rfl ?_
          refine q_iload_n (pc' := 87) C 1 d_Pg_locate_86 rfl rfl ?_
          refine q_aload_n (pc' := 88) C 3 d_Pg_locate_87 rfl rfl ?_
          refine q_iload (pc' := 90) C 4 d_Pg_locate_88 rfl rfl ?_
          refine q_iconst (pc' := 91) C d_Pg_locate_90 ki_2 rfl ?_
          refine q_callVr (fr' := 0) (lo' := 0) (pc' := 94) C FC_Tb_get lmC_Pg_43 d_Pg_locate_91 (rc (rc (rc o 1) 3) 4) (jCo (ly_2_4 (ly_1_3 (ly_5_1 ho).2).2).2) (ly_2_4 (ly_1_3 (ly_5_1 ho).2).2).2 cC_8 [.int a13.2.2, .int (2 : Int32)] [.int x22] rfl rfl (Nat.le_of_ble_eq_true rfl) ⟨rfl, rfl⟩ (fun x h => cC_Tb_get _ g hi σ (rc (rc (rc o 1) 3) 4) (ly_2_4 (ly_1_3 (ly_5_1 ho).2).2).2 a13.2.2 (2 : Int32) x h) rfl (fun x23 hx23 => ?_)
          refine q_iadd (pc' := 95) C d_Pg_locate_94 rfl ?_
          refine q_aload_n (pc' := 96) C 2 d_Pg_locate_95 rfl rfl ?_
          refine gC_Pg_9 (pc' := 99) C o ho d_Pg_locate_96 rfl rfl ?_
          refine q_icmp_le (tgt := 105) (pc' := 102) C d_Pg_locate_99 rfl rfl ?_ ?_
          · exact Rt.sub [2, 3, 1, 0, 4] rfl (hJ18 x22 a13.2.2)
          · exact Rt.sub [2, 1, 0] rfl (hJ12 x22 a13.2.2)
        refine q_icmp_ne (tgt := 75) (pc' := 71) C d_Pg_locate_68 rfl rfl ?_ ?_
        · refine q_aload_n (pc' := 76) C 1 d_Pg_locate_75 rfl rfl ?_
          refine q_iload_n (pc' := 77) C 3 d_Pg_locate_76 rfl rfl ?_
          refine q_iconst (pc' := 78) C d_Pg_locate_77 ki_2 rfl ?_
          refine q_callVr (fr' := 0) (lo' := 0) (pc' := 81) C FC_Tb_get lmC_Pg_43 d_Pg_locate_78 (rc (rc (rc o 1) 3) 4) (jCo (ly_2_4 (ly_1_3 (ly_5_1 ho).2).2).2) (ly_2_4 (ly_1_3 (ly_5_1 ho).2).2).2 cC_8 [.int a13.2.1, .int (2 : Int32)] [.int a13.1] rfl rfl (Nat.le_of_ble_eq_true rfl) ⟨rfl, rfl⟩ (fun x h => cC_Tb_get _ g hi σ (rc (rc (rc o 1) 3) 4) (ly_2_4 (ly_1_3 (ly_5_1 ho).2).2).2 a13.2.1 (2 : Int32) x h) rfl (fun x24 hx24 => ?_)
          exact Rt.sub [0, 1, 4] rfl (hJ21 x24)
        · refine q_iconst (pc' := 72) C d_Pg_locate_71 ki_0 rfl ?_
          refine q_goto (tgt := 81) C d_Pg_locate_72 rfl ?_
          exact Rt.sub [0, 1, 4] rfl (hJ21 (0 : Int32))
      · refine q_goto (tgt := 105) C d_Pg_locate_62 rfl ?_
        exact Rt.sub [0, 1, 2, 3, 4] rfl (hJ18 a13.1 a13.2.1)
  · refine q_iconst (pc' := 11) C d_Pg_locate_10 ki_0 rfl ?_
    exact q_zret C rfl (by decide) d_Pg_locate_11 rfl
theorem d_Rx_append_0 : decode qC_Rx_append.1 0 = .ok (.aload_n 0, 1) := by decide +kernel
theorem d_Rx_append_1 : decode qC_Rx_append.1 1 = .ok (.getfield 26, 3) := by decide +kernel
theorem d_Rx_append_4 : decode qC_Rx_append.1 4 = .ok (.ifCond .lt 15, 3) := by decide +kernel
theorem d_Rx_append_7 : decode qC_Rx_append.1 7 = .ok (.aload_n 0, 1) := by decide +kernel
theorem d_Rx_append_8 : decode qC_Rx_append.1 8 = .ok (.getfield 26, 3) := by decide +kernel
theorem d_Rx_append_11 : decode qC_Rx_append.1 11 = .ok (.aload_n 0, 1) := by decide +kernel
theorem d_Rx_append_12 : decode qC_Rx_append.1 12 = .ok (.getfield 9, 3) := by decide +kernel
theorem d_Rx_append_15 : decode qC_Rx_append.1 15 = .ok (.arraylength, 1) := by decide +kernel
theorem d_Rx_append_16 : decode qC_Rx_append.1 16 = .ok (.if_icmp .lt 5, 3) := by decide +kernel
theorem d_Rx_append_19 : decode qC_Rx_append.1 19 = .ok (.iconst 0, 1) := by decide +kernel
theorem d_Rx_append_20 : decode qC_Rx_append.1 20 = .ok (.ireturn, 1) := by decide +kernel
theorem d_Rx_append_21 : decode qC_Rx_append.1 21 = .ok (.aload_n 0, 1) := by decide +kernel
theorem d_Rx_append_22 : decode qC_Rx_append.1 22 = .ok (.getfield 9, 3) := by decide +kernel
theorem d_Rx_append_25 : decode qC_Rx_append.1 25 = .ok (.aload_n 0, 1) := by decide +kernel
theorem d_Rx_append_26 : decode qC_Rx_append.1 26 = .ok (.getfield 26, 3) := by decide +kernel
theorem d_Rx_append_29 : decode qC_Rx_append.1 29 = .ok (.iload_n 1, 1) := by decide +kernel
theorem d_Rx_append_30 : decode qC_Rx_append.1 30 = .ok (.iastore, 1) := by decide +kernel
theorem d_Rx_append_31 : decode qC_Rx_append.1 31 = .ok (.aload_n 0, 1) := by decide +kernel
theorem d_Rx_append_32 : decode qC_Rx_append.1 32 = .ok (.dup, 1) := by decide +kernel
theorem d_Rx_append_33 : decode qC_Rx_append.1 33 = .ok (.getfield 26, 3) := by decide +kernel
theorem d_Rx_append_36 : decode qC_Rx_append.1 36 = .ok (.iconst 1, 1) := by decide +kernel
theorem d_Rx_append_37 : decode qC_Rx_append.1 37 = .ok (.iadd, 1) := by decide +kernel
theorem d_Rx_append_38 : decode qC_Rx_append.1 38 = .ok (.putfield 26, 3) := by decide +kernel
theorem d_Rx_append_41 : decode qC_Rx_append.1 41 = .ok (.iconst 1, 1) := by decide +kernel
theorem d_Rx_append_42 : decode qC_Rx_append.1 42 = .ok (.ireturn, 1) := by decide +kernel
set_option maxRecDepth 100000 in
def f_Rx_append (σ : St) (o : Nat) (p1 : Int32) : Option (Int32 × St) :=
  Jn (fun (_ : Unit) =>
  some ((0 : Int32), σ)
  ) fun J1 =>
  if ((σ o 3) : Int32) < 0 then (
  J1 ()
  ) else (
  if ((σ o 3) : Int32) < (Int32.ofNat (ln (rc o 1))) then (
  Gd (Ix (σ o 3) (ln (rc o 1))) <|
  Lt (s2 σ (rc o 1) (Int32.toNatClampNeg (σ o 3)) p1) fun σ2 =>
  Lt (s2 σ2 o 3 ((σ2 o 3) + (1 : Int32))) fun σ3 =>
  some ((1 : Int32), σ3)
  ) else (
  J1 ()
  )
  )
set_option maxHeartbeats 4000000 in
set_option maxRecDepth 100000 in
theorem cC_Rx_append (l : Launch) (g : Ge) (hi : injB wC.2 g) (σ : St) (o : Nat) (ho : wC.2.2.1 o = .inr (6, 8)) (p1 : Int32) (x : Int32 × St) (h : f_Rx_append σ o p1 = some x) : Ct l wC g yC_Rx_append qC_Rx_append 0 0 [.ref (g.1 o), .int p1] σ (some (.int x.1), x.2) := by
  refine Ct.of (out := o_w) FC_Rx_append rfl hi rfl h (fun z hz C => ?_)
  clear h
  subst hz
  unfold f_Rx_append
  show Rt z qC_Rx_append wC g o_w 0 [(0, .ref (g.1 o)), (1, .int p1)] [] σ _
  refine q_aload_n (pc' := 1) C 0 d_Rx_append_0 rfl rfl ?_
  refine gC_Rx_26 (pc' := 4) C o ho d_Rx_append_1 rfl rfl ?_
  refine q_join (fun J1 : Unit → Option (Int32 × St) => ∀ (_ : Unit), Rt z qC_Rx_append wC g o_w 19 [] [] σ (J1 ())) (fun _ => ?_) (fun J1 hJ1 => ?_)
  · refine q_iconst (pc' := 20) C d_Rx_append_19 ki_0 rfl ?_
    exact q_zret C rfl (by decide) d_Rx_append_20 rfl
  refine q_if_lt (tgt := 19) (pc' := 7) C d_Rx_append_4 rfl rfl ?_ ?_
  · exact Rt.sub [] rfl (hJ1 ())
  · refine q_aload_n (pc' := 8) C 0 d_Rx_append_7 rfl rfl ?_
    refine gC_Rx_26 (pc' := 11) C o ho d_Rx_append_8 rfl rfl ?_
    refine q_aload_n (pc' := 12) C 0 d_Rx_append_11 rfl rfl ?_
    refine gC_Rx_9 (pc' := 15) C o (rc o 1) ho (ly_6_1 ho).1 d_Rx_append_12 rfl rfl ?_
    refine q_alen (pc' := 16) C (rc o 1) (jCa (ly_6_1 ho).2) (ly_6_1 ho).2 d_Rx_append_15 rfl ?_
    refine q_icmp_lt (tgt := 21) (pc' := 19) C d_Rx_append_16 rfl rfl ?_ ?_
    · refine q_aload_n (pc' := 22) C 0 d_Rx_append_21 rfl rfl ?_
      refine gC_Rx_9 (pc' := 25) C o (rc o 1) ho (ly_6_1 ho).1 d_Rx_append_22 rfl rfl ?_
      refine q_aload_n (pc' := 26) C 0 d_Rx_append_25 rfl rfl ?_
      refine gC_Rx_26 (pc' := 29) C o ho d_Rx_append_26 rfl rfl ?_
      refine q_iload_n (pc' := 30) C 1 d_Rx_append_29 rfl rfl ?_
      refine q_iast (pc' := 31) C (rc o 1) (jCa (ly_6_1 ho).2) (ly_6_1 ho).2 d_Rx_append_30 rfl ?_
      refine q_let (fun σ2 e2 => ?_)
      refine q_state e2 ?_
      refine q_aload_n (pc' := 32) C 0 d_Rx_append_31 rfl rfl ?_
      refine q_dup (pc' := 33) C d_Rx_append_32 rfl rfl ?_
      refine gC_Rx_26 (pc' := 36) C o ho d_Rx_append_33 rfl rfl ?_
      refine q_iconst (pc' := 37) C d_Rx_append_36 ki_1 rfl ?_
      refine q_iadd (pc' := 38) C d_Rx_append_37 rfl ?_
      refine pC_Rx_26 (pc' := 41) C o ho d_Rx_append_38 rfl rfl ?_
      refine q_let (fun σ3 e3 => ?_)
      refine q_state e3 ?_
      refine q_iconst (pc' := 42) C d_Rx_append_41 ki_1 rfl ?_
      exact q_zret C rfl (by decide) d_Rx_append_42 rfl
    · exact Rt.sub [] rfl (hJ1 ())
theorem d_Rx_byteAt_0 : decode qC_Rx_byteAt.1 0 = .ok (.iload_n 1, 1) := by decide +kernel
theorem d_Rx_byteAt_1 : decode qC_Rx_byteAt.1 1 = .ok (.ifCond .lt 29, 3) := by decide +kernel
theorem d_Rx_byteAt_4 : decode qC_Rx_byteAt.1 4 = .ok (.iload_n 1, 1) := by decide +kernel
theorem d_Rx_byteAt_5 : decode qC_Rx_byteAt.1 5 = .ok (.aload_n 0, 1) := by decide +kernel
theorem d_Rx_byteAt_6 : decode qC_Rx_byteAt.1 6 = .ok (.getfield 26, 3) := by decide +kernel
theorem d_Rx_byteAt_9 : decode qC_Rx_byteAt.1 9 = .ok (.if_icmp .ge 21, 3) := by decide +kernel
theorem d_Rx_byteAt_12 : decode qC_Rx_byteAt.1 12 = .ok (.iload_n 1, 1) := by decide +kernel
theorem d_Rx_byteAt_13 : decode qC_Rx_byteAt.1 13 = .ok (.aload_n 0, 1) := by decide +kernel
theorem d_Rx_byteAt_14 : decode qC_Rx_byteAt.1 14 = .ok (.getfield 9, 3) := by decide +kernel
theorem d_Rx_byteAt_17 : decode qC_Rx_byteAt.1 17 = .ok (.arraylength, 1) := by decide +kernel
theorem d_Rx_byteAt_18 : decode qC_Rx_byteAt.1 18 = .ok (.if_icmp .ge 12, 3) := by decide +kernel
theorem d_Rx_byteAt_21 : decode qC_Rx_byteAt.1 21 = .ok (.aload_n 0, 1) := by decide +kernel
theorem d_Rx_byteAt_22 : decode qC_Rx_byteAt.1 22 = .ok (.getfield 9, 3) := by decide +kernel
theorem d_Rx_byteAt_25 : decode qC_Rx_byteAt.1 25 = .ok (.iload_n 1, 1) := by decide +kernel
theorem d_Rx_byteAt_26 : decode qC_Rx_byteAt.1 26 = .ok (.iaload, 1) := by decide +kernel
theorem d_Rx_byteAt_27 : decode qC_Rx_byteAt.1 27 = .ok (.goto 4, 3) := by decide +kernel
theorem d_Rx_byteAt_30 : decode qC_Rx_byteAt.1 30 = .ok (.iconst (-1), 1) := by decide +kernel
theorem d_Rx_byteAt_31 : decode qC_Rx_byteAt.1 31 = .ok (.ireturn, 1) := by decide +kernel
set_option maxRecDepth 100000 in
def f_Rx_byteAt (σ : St) (o : Nat) (p1 : Int32) : Option (Int32) :=
  Jn (fun (x1 : Int32) =>
  some x1
  ) fun J2 =>
  Jn (fun (_ : Unit) =>
  J2 (-1 : Int32)
  ) fun J3 =>
  if (p1 : Int32) < 0 then (
  J3 ()
  ) else (
  if ((σ o 3) : Int32) ≤ p1 then (
  J3 ()
  ) else (
  if ((Int32.ofNat (ln (rc o 1))) : Int32) ≤ p1 then (
  J3 ()
  ) else (
  Gd (Ix p1 (ln (rc o 1))) <|
  J2 (σ (rc o 1) (Int32.toNatClampNeg p1))
  )
  )
  )
set_option maxHeartbeats 4000000 in
set_option maxRecDepth 100000 in
theorem cC_Rx_byteAt (l : Launch) (g : Ge) (hi : injB wC.2 g) (σ : St) (o : Nat) (ho : wC.2.2.1 o = .inr (6, 8)) (p1 : Int32) (x : Int32) (h : f_Rx_byteAt σ o p1 = some x) : Ct l wC g yC_Rx_byteAt qC_Rx_byteAt 0 0 [.ref (g.1 o), .int p1] σ (some (.int x), σ) := by
  refine Ct.of (out := (o_r σ)) FC_Rx_byteAt rfl hi rfl h (fun z hz C => ?_)
  clear h
  subst hz
  unfold f_Rx_byteAt
  show Rt z qC_Rx_byteAt wC g (o_r σ) 0 [(0, .ref (g.1 o)), (1, .int p1)] [] σ _
  refine q_iload_n (pc' := 1) C 1 d_Rx_byteAt_0 rfl rfl ?_
  refine q_join (fun J2 : Int32 → Option (Int32) => ∀ (x1 : Int32), Rt z qC_Rx_byteAt wC g (o_r σ) 31 [] [.int x1] σ (J2 x1)) (fun x1 => ?_) (fun J2 hJ2 => ?_)
  · exact q_iret C rfl d_Rx_byteAt_31 rfl
  refine q_join (fun J3 : Unit → Option (Int32) => ∀ (_ : Unit), Rt z qC_Rx_byteAt wC g (o_r σ) 30 [] [] σ (J3 ())) (fun _ => ?_) (fun J3 hJ3 => ?_)
  · refine q_iconst (pc' := 31) C d_Rx_byteAt_30 ki_m1 rfl ?_
    exact Rt.sub [] rfl (hJ2 (-1 : Int32))
  refine q_if_lt (tgt := 30) (pc' := 4) C d_Rx_byteAt_1 rfl rfl ?_ ?_
  · exact Rt.sub [] rfl (hJ3 ())
  · refine q_iload_n (pc' := 5) C 1 d_Rx_byteAt_4 rfl rfl ?_
    refine q_aload_n (pc' := 6) C 0 d_Rx_byteAt_5 rfl rfl ?_
    refine gC_Rx_26 (pc' := 9) C o ho d_Rx_byteAt_6 rfl rfl ?_
    refine q_icmp_ge (tgt := 30) (pc' := 12) C d_Rx_byteAt_9 rfl rfl ?_ ?_
    · exact Rt.sub [] rfl (hJ3 ())
    · refine q_iload_n (pc' := 13) C 1 d_Rx_byteAt_12 rfl rfl ?_
      refine q_aload_n (pc' := 14) C 0 d_Rx_byteAt_13 rfl rfl ?_
      refine gC_Rx_9 (pc' := 17) C o (rc o 1) ho (ly_6_1 ho).1 d_Rx_byteAt_14 rfl rfl ?_
      refine q_alen (pc' := 18) C (rc o 1) (jCa (ly_6_1 ho).2) (ly_6_1 ho).2 d_Rx_byteAt_17 rfl ?_
      refine q_icmp_ge (tgt := 30) (pc' := 21) C d_Rx_byteAt_18 rfl rfl ?_ ?_
      · exact Rt.sub [] rfl (hJ3 ())
      · refine q_aload_n (pc' := 22) C 0 d_Rx_byteAt_21 rfl rfl ?_
        refine gC_Rx_9 (pc' := 25) C o (rc o 1) ho (ly_6_1 ho).1 d_Rx_byteAt_22 rfl rfl ?_
        refine q_iload_n (pc' := 26) C 1 d_Rx_byteAt_25 rfl rfl ?_
        refine q_iald (pc' := 27) C (rc o 1) (jCa (ly_6_1 ho).2) (ly_6_1 ho).2 d_Rx_byteAt_26 rfl ?_
        refine q_goto (tgt := 31) C d_Rx_byteAt_27 rfl ?_
        exact Rt.sub [] rfl (hJ2 (σ (rc o 1) (Int32.toNatClampNeg p1)))
theorem d_Rx_classOf_0 : decode qC_Rx_classOf.1 0 = .ok (.iload_n 0, 1) := by decide +kernel
theorem d_Rx_classOf_1 : decode qC_Rx_classOf.1 1 = .ok (.iconst (-1), 1) := by decide +kernel
theorem d_Rx_classOf_2 : decode qC_Rx_classOf.1 2 = .ok (.if_icmp .ne 5, 3) := by decide +kernel
theorem d_Rx_classOf_5 : decode qC_Rx_classOf.1 5 = .ok (.iconst 0, 1) := by decide +kernel
theorem d_Rx_classOf_6 : decode qC_Rx_classOf.1 6 = .ok (.ireturn, 1) := by decide +kernel
theorem d_Rx_classOf_7 : decode qC_Rx_classOf.1 7 = .ok (.iload_n 0, 1) := by decide +kernel
theorem d_Rx_classOf_8 : decode qC_Rx_classOf.1 8 = .ok (.bipush 65, 2) := by decide +kernel
theorem d_Rx_classOf_10 : decode qC_Rx_classOf.1 10 = .ok (.if_icmp .lt 11, 3) := by decide +kernel
theorem d_Rx_classOf_13 : decode qC_Rx_classOf.1 13 = .ok (.iload_n 0, 1) := by decide +kernel
theorem d_Rx_classOf_14 : decode qC_Rx_classOf.1 14 = .ok (.bipush 90, 2) := by decide +kernel
theorem d_Rx_classOf_16 : decode qC_Rx_classOf.1 16 = .ok (.if_icmp .gt 5, 3) := by decide +kernel
theorem d_Rx_classOf_19 : decode qC_Rx_classOf.1 19 = .ok (.iconst 1, 1) := by decide +kernel
theorem d_Rx_classOf_20 : decode qC_Rx_classOf.1 20 = .ok (.ireturn, 1) := by decide +kernel
theorem d_Rx_classOf_21 : decode qC_Rx_classOf.1 21 = .ok (.iload_n 0, 1) := by decide +kernel
theorem d_Rx_classOf_22 : decode qC_Rx_classOf.1 22 = .ok (.bipush 48, 2) := by decide +kernel
theorem d_Rx_classOf_24 : decode qC_Rx_classOf.1 24 = .ok (.if_icmp .lt 13, 3) := by decide +kernel
theorem d_Rx_classOf_27 : decode qC_Rx_classOf.1 27 = .ok (.iload_n 0, 1) := by decide +kernel
theorem d_Rx_classOf_28 : decode qC_Rx_classOf.1 28 = .ok (.bipush 57, 2) := by decide +kernel
theorem d_Rx_classOf_30 : decode qC_Rx_classOf.1 30 = .ok (.if_icmp .gt 7, 3) := by decide +kernel
theorem d_Rx_classOf_33 : decode qC_Rx_classOf.1 33 = .ok (.iconst 2, 1) := by decide +kernel
theorem d_Rx_classOf_34 : decode qC_Rx_classOf.1 34 = .ok (.goto 4, 3) := by decide +kernel
theorem d_Rx_classOf_37 : decode qC_Rx_classOf.1 37 = .ok (.iconst 3, 1) := by decide +kernel
theorem d_Rx_classOf_38 : decode qC_Rx_classOf.1 38 = .ok (.ireturn, 1) := by decide +kernel
set_option maxRecDepth 100000 in
def f_Rx_classOf (p0 : Int32) : Option (Int32) :=
  if (p0 : Int32) = (-1 : Int32) then (
  some (0 : Int32)
  ) else (
  Jn (fun (_ : Unit) =>
  Jn (fun (x2 : Int32) =>
  some x2
  ) fun J3 =>
  Jn (fun (_ : Unit) =>
  J3 (3 : Int32)
  ) fun J4 =>
  if (p0 : Int32) < (48 : Int32) then (
  J4 ()
  ) else (
  if ((57 : Int32) : Int32) < p0 then (
  J4 ()
  ) else (
  J3 (2 : Int32)
  )
  )
  ) fun J1 =>
  if (p0 : Int32) < (65 : Int32) then (
  J1 ()
  ) else (
  if ((90 : Int32) : Int32) < p0 then (
  J1 ()
  ) else (
  some (1 : Int32)
  )
  )
  )
set_option maxHeartbeats 4000000 in
set_option maxRecDepth 100000 in
theorem cC_Rx_classOf (l : Launch) (g : Ge) (hi : injB wC.2 g) (σ : St) (p0 : Int32) (x : Int32) (h : f_Rx_classOf p0 = some x) : Ct l wC g yC_Rx_classOf qC_Rx_classOf 0 0 [.int p0] σ (some (.int x), σ) := by
  refine Ct.of (out := (o_r σ)) FC_Rx_classOf rfl hi rfl h (fun z hz C => ?_)
  clear h
  subst hz
  unfold f_Rx_classOf
  show Rt z qC_Rx_classOf wC g (o_r σ) 0 [(0, .int p0)] [] σ _
  refine q_iload_n (pc' := 1) C 0 d_Rx_classOf_0 rfl rfl ?_
  refine q_iconst (pc' := 2) C d_Rx_classOf_1 ki_m1 rfl ?_
  refine q_icmp_ne (tgt := 7) (pc' := 5) C d_Rx_classOf_2 rfl rfl ?_ ?_
  · refine q_iload_n (pc' := 8) C 0 d_Rx_classOf_7 rfl rfl ?_
    refine q_bipush (pc' := 10) C d_Rx_classOf_8 kb_65 rfl ?_
    refine q_join (fun J1 : Unit → Option (Int32) => ∀ (_ : Unit), Rt z qC_Rx_classOf wC g (o_r σ) 21 [(0, .int p0)] [] σ (J1 ())) (fun _ => ?_) (fun J1 hJ1 => ?_)
    · refine q_iload_n (pc' := 22) C 0 d_Rx_classOf_21 rfl rfl ?_
      refine q_bipush (pc' := 24) C d_Rx_classOf_22 kb_48 rfl ?_
      refine q_join (fun J3 : Int32 → Option (Int32) => ∀ (x2 : Int32), Rt z qC_Rx_classOf wC g (o_r σ) 38 [] [.int x2] σ (J3 x2)) (fun x2 => ?_) (fun J3 hJ3 => ?_)
      · exact q_iret C rfl d_Rx_classOf_38 rfl
      refine q_join (fun J4 : Unit → Option (Int32) => ∀ (_ : Unit), Rt z qC_Rx_classOf wC g (o_r σ) 37 [] [] σ (J4 ())) (fun _ => ?_) (fun J4 hJ4 => ?_)
      · refine q_iconst (pc' := 38) C d_Rx_classOf_37 ki_3 rfl ?_
        exact Rt.sub [] rfl (hJ3 (3 : Int32))
      refine q_icmp_lt (tgt := 37) (pc' := 27) C d_Rx_classOf_24 rfl rfl ?_ ?_
      · exact Rt.sub [] rfl (hJ4 ())
      · refine q_iload_n (pc' := 28) C 0 d_Rx_classOf_27 rfl rfl ?_
        refine q_bipush (pc' := 30) C d_Rx_classOf_28 kb_57 rfl ?_
        refine q_icmp_gt (tgt := 37) (pc' := 33) C d_Rx_classOf_30 rfl rfl ?_ ?_
        · exact Rt.sub [] rfl (hJ4 ())
        · refine q_iconst (pc' := 34) C d_Rx_classOf_33 ki_2 rfl ?_
          refine q_goto (tgt := 38) C d_Rx_classOf_34 rfl ?_
          exact Rt.sub [] rfl (hJ3 (2 : Int32))
    refine q_icmp_lt (tgt := 21) (pc' := 13) C d_Rx_classOf_10 rfl rfl ?_ ?_
    · exact Rt.sub [0] rfl (hJ1 ())
    · refine q_iload_n (pc' := 14) C 0 d_Rx_classOf_13 rfl rfl ?_
      refine q_bipush (pc' := 16) C d_Rx_classOf_14 kb_90 rfl ?_
      refine q_icmp_gt (tgt := 21) (pc' := 19) C d_Rx_classOf_16 rfl rfl ?_ ?_
      · exact Rt.sub [0] rfl (hJ1 ())
      · refine q_iconst (pc' := 20) C d_Rx_classOf_19 ki_1 rfl ?_
        exact q_iret C rfl d_Rx_classOf_20 rfl
  · refine q_iconst (pc' := 6) C d_Rx_classOf_5 ki_0 rfl ?_
    exact q_iret C rfl d_Rx_classOf_6 rfl
