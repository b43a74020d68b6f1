/-! the methods of the program, 1 -/
theorem d_Tk_beginAnew_0 : decode qC_Tk_beginAnew.1 0 = .ok (.aload_n 0, 1) := by decide +kernel
theorem d_Tk_beginAnew_1 : decode qC_Tk_beginAnew.1 1 = .ok (.getfield 37, 3) := by decide +kernel
theorem d_Tk_beginAnew_4 : decode qC_Tk_beginAnew.1 4 = .ok (.iload_n 1, 1) := by decide +kernel
theorem d_Tk_beginAnew_5 : decode qC_Tk_beginAnew.1 5 = .ok (.invokevirtual 72, 3) := by decide +kernel
theorem d_Tk_beginAnew_8 : decode qC_Tk_beginAnew.1 8 = .ok (.istore_n 2, 1) := by decide +kernel
theorem d_Tk_beginAnew_9 : decode qC_Tk_beginAnew.1 9 = .ok (.aload_n 0, 1) := by decide +kernel
theorem d_Tk_beginAnew_10 : decode qC_Tk_beginAnew.1 10 = .ok (.getfield 45, 3) := by decide +kernel
theorem d_Tk_beginAnew_13 : decode qC_Tk_beginAnew.1 13 = .ok (.iload_n 1, 1) := by decide +kernel
theorem d_Tk_beginAnew_14 : decode qC_Tk_beginAnew.1 14 = .ok (.iconst 0, 1) := by decide +kernel
theorem d_Tk_beginAnew_15 : decode qC_Tk_beginAnew.1 15 = .ok (.iconst 1, 1) := by decide +kernel
theorem d_Tk_beginAnew_16 : decode qC_Tk_beginAnew.1 16 = .ok (.invokevirtual 68, 3) := by decide +kernel
theorem d_Tk_beginAnew_19 : decode qC_Tk_beginAnew.1 19 = .ok (.aload_n 0, 1) := by decide +kernel
theorem d_Tk_beginAnew_20 : decode qC_Tk_beginAnew.1 20 = .ok (.iconst 0, 1) := by decide +kernel
theorem d_Tk_beginAnew_21 : decode qC_Tk_beginAnew.1 21 = .ok (.putfield 30, 3) := by decide +kernel
theorem d_Tk_beginAnew_24 : decode qC_Tk_beginAnew.1 24 = .ok (.aload_n 0, 1) := by decide +kernel
theorem d_Tk_beginAnew_25 : decode qC_Tk_beginAnew.1 25 = .ok (.iconst (-1), 1) := by decide +kernel
theorem d_Tk_beginAnew_26 : decode qC_Tk_beginAnew.1 26 = .ok (.putfield 21, 3) := by decide +kernel
theorem d_Tk_beginAnew_29 : decode qC_Tk_beginAnew.1 29 = .ok (.iload_n 2, 1) := by decide +kernel
theorem d_Tk_beginAnew_30 : decode qC_Tk_beginAnew.1 30 = .ok (.iconst 4, 1) := by decide +kernel
theorem d_Tk_beginAnew_31 : decode qC_Tk_beginAnew.1 31 = .ok (.if_icmp .eq 14, 3) := by decide +kernel
theorem d_Tk_beginAnew_34 : decode qC_Tk_beginAnew.1 34 = .ok (.iload_n 2, 1) := by decide +kernel
theorem d_Tk_beginAnew_35 : decode qC_Tk_beginAnew.1 35 = .ok (.iconst 5, 1) := by decide +kernel
theorem d_Tk_beginAnew_36 : decode qC_Tk_beginAnew.1 36 = .ok (.if_icmp .eq 9, 3) := by decide +kernel
theorem d_Tk_beginAnew_39 : decode qC_Tk_beginAnew.1 39 = .ok (.iload_n 2, 1) := by decide +kernel
theorem d_Tk_beginAnew_40 : decode qC_Tk_beginAnew.1 40 = .ok (.bipush 6, 2) := by decide +kernel
theorem d_Tk_beginAnew_42 : decode qC_Tk_beginAnew.1 42 = .ok (.if_icmp .ne 4, 3) := by decide +kernel
theorem d_Tk_beginAnew_45 : decode qC_Tk_beginAnew.1 45 = .ok (.return_, 1) := by decide +kernel
theorem d_Tk_beginAnew_46 : decode qC_Tk_beginAnew.1 46 = .ok (.aload_n 0, 1) := by decide +kernel
theorem d_Tk_beginAnew_47 : decode qC_Tk_beginAnew.1 47 = .ok (.aload_n 0, 1) := by decide +kernel
theorem d_Tk_beginAnew_48 : decode qC_Tk_beginAnew.1 48 = .ok (.getfield 37, 3) := by decide +kernel
theorem d_Tk_beginAnew_51 : decode qC_Tk_beginAnew.1 51 = .ok (.getfield 98, 3) := by decide +kernel
theorem d_Tk_beginAnew_54 : decode qC_Tk_beginAnew.1 54 = .ok (.iload_n 1, 1) := by decide +kernel
theorem d_Tk_beginAnew_55 : decode qC_Tk_beginAnew.1 55 = .ok (.bipush 7, 2) := by decide +kernel
theorem d_Tk_beginAnew_57 : decode qC_Tk_beginAnew.1 57 = .ok (.invokevirtual 99, 3) := by decide +kernel
theorem d_Tk_beginAnew_60 : decode qC_Tk_beginAnew.1 60 = .ok (.putfield 15, 3) := by decide +kernel
theorem d_Tk_beginAnew_63 : decode qC_Tk_beginAnew.1 63 = .ok (.aload_n 0, 1) := by decide +kernel
theorem d_Tk_beginAnew_64 : decode qC_Tk_beginAnew.1 64 = .ok (.aload_n 0, 1) := by decide +kernel
theorem d_Tk_beginAnew_65 : decode qC_Tk_beginAnew.1 65 = .ok (.getfield 37, 3) := by decide +kernel
theorem d_Tk_beginAnew_68 : decode qC_Tk_beginAnew.1 68 = .ok (.getfield 98, 3) := by decide +kernel
theorem d_Tk_beginAnew_71 : decode qC_Tk_beginAnew.1 71 = .ok (.iload_n 1, 1) := by decide +kernel
theorem d_Tk_beginAnew_72 : decode qC_Tk_beginAnew.1 72 = .ok (.bipush 8, 2) := by decide +kernel
theorem d_Tk_beginAnew_74 : decode qC_Tk_beginAnew.1 74 = .ok (.invokevirtual 99, 3) := by decide +kernel
theorem d_Tk_beginAnew_77 : decode qC_Tk_beginAnew.1 77 = .ok (.putfield 18, 3) := by decide +kernel
theorem d_Tk_beginAnew_80 : decode qC_Tk_beginAnew.1 80 = .ok (.aload_n 0, 1) := by decide +kernel
theorem d_Tk_beginAnew_81 : decode qC_Tk_beginAnew.1 81 = .ok (.iload_n 1, 1) := by decide +kernel
theorem d_Tk_beginAnew_82 : decode qC_Tk_beginAnew.1 82 = .ok (.invokevirtual 106, 3) := by decide +kernel
theorem d_Tk_beginAnew_85 : decode qC_Tk_beginAnew.1 85 = .ok (.iload_n 2, 1) := by decide +kernel
theorem d_Tk_beginAnew_86 : decode qC_Tk_beginAnew.1 86 = .ok (.bipush 8, 2) := by decide +kernel
theorem d_Tk_beginAnew_88 : decode qC_Tk_beginAnew.1 88 = .ok (.if_icmp .ne 21, 3) := by decide +kernel
theorem d_Tk_beginAnew_91 : decode qC_Tk_beginAnew.1 91 = .ok (.aload_n 0, 1) := by decide +kernel
theorem d_Tk_beginAnew_92 : decode qC_Tk_beginAnew.1 92 = .ok (.iload_n 1, 1) := by decide +kernel
theorem d_Tk_beginAnew_93 : decode qC_Tk_beginAnew.1 93 = .ok (.aload_n 0, 1) := by decide +kernel
theorem d_Tk_beginAnew_94 : decode qC_Tk_beginAnew.1 94 = .ok (.getfield 37, 3) := by decide +kernel
theorem d_Tk_beginAnew_97 : decode qC_Tk_beginAnew.1 97 = .ok (.getfield 98, 3) := by decide +kernel
theorem d_Tk_beginAnew_100 : decode qC_Tk_beginAnew.1 100 = .ok (.iload_n 1, 1) := by decide +kernel
theorem d_Tk_beginAnew_101 : decode qC_Tk_beginAnew.1 101 = .ok (.iconst 2, 1) := by decide +kernel
theorem d_Tk_beginAnew_102 : decode qC_Tk_beginAnew.1 102 = .ok (.invokevirtual 99, 3) := by decide +kernel
theorem d_Tk_beginAnew_105 : decode qC_Tk_beginAnew.1 105 = .ok (.iconst 0, 1) := by decide +kernel
theorem d_Tk_beginAnew_106 : decode qC_Tk_beginAnew.1 106 = .ok (.invokevirtual 112, 3) := by decide +kernel
theorem d_Tk_beginAnew_109 : decode qC_Tk_beginAnew.1 109 = .ok (.return_, 1) := by decide +kernel
set_option maxRecDepth 100000 in
def f_Tk_beginAnew (σ : St) (o : Nat) (p1 : Int32) : Option (St) :=
  Option.bind (f_Pl_kind σ (rc o 0) p1) fun x1 =>
  Option.bind (f_Tb_put σ (rc o 2) p1 (0 : Int32) (1 : Int32)) fun x2 =>
  Lt (s2 x2 o 10 (0 : Int32)) fun σ3 =>
  Lt (s2 σ3 o 7 (-1 : Int32)) fun σ4 =>
  Jn (fun (_ : Unit) =>
  some σ4
  ) fun J5 =>
  if (x1 : Int32) = (4 : Int32) then (
  J5 ()
  ) else (
  if (x1 : Int32) = (5 : Int32) then (
  J5 ()
  ) else (
  if (x1 : Int32) = (6 : Int32) then (
  J5 ()
  ) else (
  Option.bind (f_Tb_get σ4 (rc (rc o 0) 0) p1 (7 : Int32)) fun x6 =>
  Lt (s2 σ4 o 5 x6) fun σ7 =>
  Option.bind (f_Tb_get σ7 (rc (rc o 0) 0) p1 (8 : Int32)) fun x8 =>
  Lt (s2 σ7 o 6 x8) fun σ9 =>
  Option.bind (f_Tk_endHere σ9 o p1) fun x10 =>
  Jn (fun (σ11 : St) =>
  some σ11
  ) fun J12 =>
  if (x1 : Int32) = (8 : Int32) then (
  Option.bind (f_Tb_get x10 (rc (rc o 0) 0) p1 (2 : Int32)) fun x13 =>
  Option.bind (f_Tk_comeFrom x10 o p1 x13 (0 : Int32)) fun x14 =>
  J12 x14
  ) else (
  J12 x10
  )
  )
  )
  )
set_option maxHeartbeats 4000000 in
set_option maxRecDepth 100000 in
theorem cC_Tk_beginAnew (l : Launch) (g : Ge) (hi : injB wC.2 g) (σ : St) (o : Nat) (ho : wC.2.2.1 o = .inr (9, 12)) (p1 : Int32) (x : St) (h : f_Tk_beginAnew σ o p1 = some x) : Ct l wC g yC_Tk_beginAnew qC_Tk_beginAnew 2 44 [.ref (g.1 o), .int p1] σ (none, x) := by
  refine Ct.of (out := o_v) FC_Tk_beginAnew rfl hi rfl h (fun z hz C => ?_)
  clear h
  subst hz
  unfold f_Tk_beginAnew
  show Rt z qC_Tk_beginAnew wC g o_v 0 [(0, .ref (g.1 o)), (1, .int p1)] [] σ _
  refine q_aload_n (pc' := 1) C 0 d_Tk_beginAnew_0 rfl rfl ?_
  refine gC_Tk_37 (pc' := 4) C o (rc o 0) ho (ly_9_0 ho).1 d_Tk_beginAnew_1 rfl rfl ?_
  refine q_iload_n (pc' := 5) C 1 d_Tk_beginAnew_4 rfl rfl ?_
  refine q_callVr (fr' := 1) (lo' := 22) (pc' := 8) C FC_Pl_kind lmC_Tk_72 d_Tk_beginAnew_5 (rc o 0) (jCo (ly_9_0 ho).2) (ly_9_0 ho).2 cC_3 [.int p1] [] rfl rfl (Nat.le_of_ble_eq_true rfl) ⟨rfl, rfl⟩ (fun x h => cC_Pl_kind _ g hi σ (rc o 0) (ly_9_0 ho).2 p1 x h) rfl (fun x1 hx1 => ?_)
  refine q_istore_n (pc' := 9) (lv' := [(2, .int x1), (0, .ref (g.1 o)), (1, .int p1)]) C d_Tk_beginAnew_8 (by decide) rfl rfl ?_
  refine q_aload_n (pc' := 10) C 1 d_Tk_beginAnew_9 rfl rfl ?_
  refine gC_Tk_45 (pc' := 13) C o (rc o 2) ho (ly_9_2 ho).1 d_Tk_beginAnew_10 rfl rfl ?_
  refine q_iload_n (pc' := 14) C 2 d_Tk_beginAnew_13 rfl rfl ?_
  refine q_iconst (pc' := 15) C d_Tk_beginAnew_14 ki_0 rfl ?_
  refine q_iconst (pc' := 16) C d_Tk_beginAnew_15 ki_1 rfl ?_
  refine q_callVv (fr' := 0) (lo' := 0) (pc' := 19) C FC_Tb_put lmC_Tk_68 d_Tk_beginAnew_16 (rc o 2) (jCo (ly_9_2 ho).2) (ly_9_2 ho).2 cC_8 [.int p1, .int (0 : Int32), .int (1 : Int32)] [] rfl rfl (Nat.le_of_ble_eq_true rfl) ⟨rfl, rfl⟩ (fun x h => cC_Tb_put _ g hi σ (rc o 2) (ly_9_2 ho).2 p1 (0 : Int32) (1 : Int32) x h) rfl (fun x2 hx2 => ?_)
  refine q_aload_n (pc' := 20) C 1 d_Tk_beginAnew_19 rfl rfl ?_
  refine q_iconst (pc' := 21) C d_Tk_beginAnew_20 ki_0 rfl ?_
  refine pC_Tk_30 (pc' := 24) C o ho d_Tk_beginAnew_21 (by decide) rfl rfl ?_
  refine q_let (fun σ3 e3 => ?_)
  refine q_state e3 ?_
  refine q_aload_n (pc' := 25) C 1 d_Tk_beginAnew_24 rfl rfl ?_
  refine q_iconst (pc' := 26) C d_Tk_beginAnew_25 ki_m1 rfl ?_
  refine pC_Tk_21 (pc' := 29) C o ho d_Tk_beginAnew_26 rfl rfl ?_
  refine q_let (fun σ4 e4 => ?_)
  refine q_state e4 ?_
  refine q_iload_n (pc' := 30) C 0 d_Tk_beginAnew_29 rfl rfl ?_
  refine q_iconst (pc' := 31) C d_Tk_beginAnew_30 ki_4 rfl ?_
  refine q_join (fun J5 : Unit → Option (St) => ∀ (_ : Unit), Rt z qC_Tk_beginAnew wC g o_v 45 [] [] σ4 (J5 ())) (fun _ => ?_) (fun J5 hJ5 => ?_)
  · exact q_vret C rfl d_Tk_beginAnew_45 rfl
  refine q_icmp_eq (tgt := 45) (pc' := 34) C d_Tk_beginAnew_31 rfl rfl ?_ ?_
  · exact Rt.sub [] rfl (hJ5 ())
  · refine q_iload_n (pc' := 35) C 0 d_Tk_beginAnew_34 rfl rfl ?_
    refine q_iconst (pc' := 36) C d_Tk_beginAnew_35 ki_5 rfl ?_
    refine q_icmp_eq (tgt := 45) (pc' := 39) C d_Tk_beginAnew_36 rfl rfl ?_ ?_
    · exact Rt.sub [] rfl (hJ5 ())
    · refine q_iload_n (pc' := 40) C 0 d_Tk_beginAnew_39 rfl rfl ?_
      refine q_bipush (pc' := 42) C d_Tk_beginAnew_40 kb_6 rfl ?_
      refine q_icmp_ne (tgt := 46) (pc' := 45) C d_Tk_beginAnew_42 rfl rfl ?_ ?_
      · refine q_aload_n (pc' := 47) C 1 d_Tk_beginAnew_46 rfl rfl ?_
        refine q_aload_n (pc' := 48) C 1 d_Tk_beginAnew_47 rfl rfl ?_
        refine gC_Tk_37 (pc' := 51) C o (rc o 0) ho (ly_9_0 ho).1 d_Tk_beginAnew_48 rfl rfl ?_
        refine gC_Tk_98 (pc' := 54) C (rc o 0) (rc (rc o 0) 0) (ly_9_0 ho).2 (ly_3_0 (ly_9_0 ho).2).1 d_Tk_beginAnew_51 rfl rfl ?_
        refine q_iload_n (pc' := 55) C 2 d_Tk_beginAnew_54 rfl rfl ?_
        refine q_bipush (pc' := 57) C d_Tk_beginAnew_55 kb_7 rfl ?_
        refine q_callVr (fr' := 0) (lo' := 0) (pc' := 60) C FC_Tb_get lmC_Tk_99 d_Tk_beginAnew_57 (rc (rc o 0) 0) (jCo (ly_3_0 (ly_9_0 ho).2).2) (ly_3_0 (ly_9_0 ho).2).2 cC_8 [.int p1, .int (7 : Int32)] [.ref (g.1 o)] rfl rfl (Nat.le_of_ble_eq_true rfl) ⟨rfl, rfl⟩ (fun x h => cC_Tb_get _ g hi σ4 (rc (rc o 0) 0) (ly_3_0 (ly_9_0 ho).2).2 p1 (7 : Int32) x h) rfl (fun x6 hx6 => ?_)
        refine pC_Tk_15 (pc' := 63) C o ho d_Tk_beginAnew_60 rfl rfl ?_
        refine q_let (fun σ7 e7 => ?_)
        refine q_state e7 ?_
        refine q_aload_n (pc' := 64) C 1 d_Tk_beginAnew_63 rfl rfl ?_
        refine q_aload_n (pc' := 65) C 1 d_Tk_beginAnew_64 rfl rfl ?_
        refine gC_Tk_37 (pc' := 68) C o (rc o 0) ho (ly_9_0 ho).1 d_Tk_beginAnew_65 rfl rfl ?_
        refine gC_Tk_98 (pc' := 71) C (rc o 0) (rc (rc o 0) 0) (ly_9_0 ho).2 (ly_3_0 (ly_9_0 ho).2).1 d_Tk_beginAnew_68 rfl rfl ?_
        refine q_iload_n (pc' := 72) C 2 d_Tk_beginAnew_71 rfl rfl ?_
        refine q_bipush (pc' := 74) C d_Tk_beginAnew_72 kb_8 rfl ?_
        refine q_callVr (fr' := 0) (lo' := 0) (pc' := 77) C FC_Tb_get lmC_Tk_99 d_Tk_beginAnew_74 (rc (rc o 0) 0) (jCo (ly_3_0 (ly_9_0 ho).2).2) (ly_3_0 (ly_9_0 ho).2).2 cC_8 [.int p1, .int (8 : Int32)] [.ref (g.1 o)] rfl rfl (Nat.le_of_ble_eq_true rfl) ⟨rfl, rfl⟩ (fun x h => cC_Tb_get _ g hi σ7 (rc (rc o 0) 0) (ly_3_0 (ly_9_0 ho).2).2 p1 (8 : Int32) x h) rfl (fun x8 hx8 => ?_)
        refine pC_Tk_18 (pc' := 80) C o ho d_Tk_beginAnew_77 rfl rfl ?_
        refine q_let (fun σ9 e9 => ?_)
        refine q_state e9 ?_
        refine q_aload_n (pc' := 81) C 1 d_Tk_beginAnew_80 rfl rfl ?_
        refine q_iload_n (pc' := 82) C 2 d_Tk_beginAnew_81 rfl rfl ?_
        refine q_callVv (fr' := 1) (lo' := 23) (pc' := 85) C FC_Tk_endHere lmC_Tk_106 d_Tk_beginAnew_82 o (jCo ho) ho cC_9 [.int p1] [] rfl rfl (Nat.le_of_ble_eq_true rfl) ⟨rfl, rfl⟩ (fun x h => cC_Tk_endHere _ g hi σ9 o ho p1 x h) rfl (fun x10 hx10 => ?_)
        refine q_iload_n (pc' := 86) C 0 d_Tk_beginAnew_85 rfl rfl ?_
        refine q_bipush (pc' := 88) C d_Tk_beginAnew_86 kb_8 rfl ?_
        refine q_join (fun J12 : St → Option (St) => ∀ (σ11 : St), Rt z qC_Tk_beginAnew wC g o_v 109 [] [] σ11 (J12 σ11)) (fun σ11 => ?_) (fun J12 hJ12 => ?_)
        · exact q_vret C rfl d_Tk_beginAnew_109 rfl
        refine q_icmp_ne (tgt := 109) (pc' := 91) C d_Tk_beginAnew_88 rfl rfl ?_ ?_
        · exact Rt.sub [] rfl (hJ12 x10)
        · refine q_aload_n (pc' := 92) C 1 d_Tk_beginAnew_91 rfl rfl ?_
          refine q_iload_n (pc' := 93) C 2 d_Tk_beginAnew_92 rfl rfl ?_
          refine q_aload_n (pc' := 94) C 1 d_Tk_beginAnew_93 rfl rfl ?_
          refine gC_Tk_37 (pc' := 97) C o (rc o 0) ho (ly_9_0 ho).1 d_Tk_beginAnew_94 rfl rfl ?_
          refine gC_Tk_98 (pc' := 100) C (rc o 0) (rc (rc o 0) 0) (ly_9_0 ho).2 (ly_3_0 (ly_9_0 ho).2).1 d_Tk_beginAnew_97 rfl rfl ?_
          refine q_iload_n (pc' := 101) C 2 d_Tk_beginAnew_100 rfl rfl ?_
          refine q_iconst (pc' := 102) C d_Tk_beginAnew_101 ki_2 rfl ?_
          refine q_callVr (fr' := 0) (lo' := 0) (pc' := 105) C FC_Tb_get lmC_Tk_99 d_Tk_beginAnew_102 (rc (rc o 0) 0) (jCo (ly_3_0 (ly_9_0 ho).2).2) (ly_3_0 (ly_9_0 ho).2).2 cC_8 [.int p1, .int (2 : Int32)] [.int p1, .ref (g.1 o)] rfl rfl (Nat.le_of_ble_eq_true rfl) ⟨rfl, rfl⟩ (fun x h => cC_Tb_get _ g hi x10 (rc (rc o 0) 0) (ly_3_0 (ly_9_0 ho).2).2 p1 (2 : Int32) x h) rfl (fun x13 hx13 => ?_)
          refine q_iconst (pc' := 106) C d_Tk_beginAnew_105 ki_0 rfl ?_
          refine q_callVv (fr' := 0) (lo' := 0) (pc' := 109) C FC_Tk_comeFrom lmC_Tk_112 d_Tk_beginAnew_106 o (jCo ho) ho cC_9 [.int p1, .int x13, .int (0 : Int32)] [] rfl rfl (Nat.le_of_ble_eq_true rfl) ⟨rfl, rfl⟩ (fun x h => cC_Tk_comeFrom _ g hi x10 o ho p1 x13 (0 : Int32) x h) rfl (fun x14 hx14 => ?_)
          exact Rt.sub [] rfl (hJ12 x14)
      · exact Rt.sub [] rfl (hJ5 ())
theorem d_Tk_addSegment_0 : decode qC_Tk_addSegment.1 0 = .ok (.iload 4, 2) := by decide +kernel
theorem d_Tk_addSegment_2 : decode qC_Tk_addSegment.1 2 = .ok (.ifCond .gt 4, 3) := by decide +kernel
theorem d_Tk_addSegment_5 : decode qC_Tk_addSegment.1 5 = .ok (.return_, 1) := by decide +kernel
theorem d_Tk_addSegment_6 : decode qC_Tk_addSegment.1 6 = .ok (.aload_n 0, 1) := by decide +kernel
theorem d_Tk_addSegment_7 : decode qC_Tk_addSegment.1 7 = .ok (.getfield 54, 3) := by decide +kernel
theorem d_Tk_addSegment_10 : decode qC_Tk_addSegment.1 10 = .ok (.aload_n 0, 1) := by decide +kernel
theorem d_Tk_addSegment_11 : decode qC_Tk_addSegment.1 11 = .ok (.getfield 9, 3) := by decide +kernel
theorem d_Tk_addSegment_14 : decode qC_Tk_addSegment.1 14 = .ok (.iconst 0, 1) := by decide +kernel
theorem d_Tk_addSegment_15 : decode qC_Tk_addSegment.1 15 = .ok (.iload_n 1, 1) := by decide +kernel
theorem d_Tk_addSegment_16 : decode qC_Tk_addSegment.1 16 = .ok (.invokevirtual 68, 3) := by decide +kernel
theorem d_Tk_addSegment_19 : decode qC_Tk_addSegment.1 19 = .ok (.aload_n 0, 1) := by decide +kernel
theorem d_Tk_addSegment_20 : decode qC_Tk_addSegment.1 20 = .ok (.getfield 54, 3) := by decide +kernel
theorem d_Tk_addSegment_23 : decode qC_Tk_addSegment.1 23 = .ok (.aload_n 0, 1) := by decide +kernel
theorem d_Tk_addSegment_24 : decode qC_Tk_addSegment.1 24 = .ok (.getfield 9, 3) := by decide +kernel
theorem d_Tk_addSegment_27 : decode qC_Tk_addSegment.1 27 = .ok (.iconst 1, 1) := by decide +kernel
theorem d_Tk_addSegment_28 : decode qC_Tk_addSegment.1 28 = .ok (.aload_n 0, 1) := by decide +kernel
theorem d_Tk_addSegment_29 : decode qC_Tk_addSegment.1 29 = .ok (.getfield 15, 3) := by decide +kernel
theorem d_Tk_addSegment_32 : decode qC_Tk_addSegment.1 32 = .ok (.invokevirtual 68, 3) := by decide +kernel
theorem d_Tk_addSegment_35 : decode qC_Tk_addSegment.1 35 = .ok (.aload_n 0, 1) := by decide +kernel
theorem d_Tk_addSegment_36 : decode qC_Tk_addSegment.1 36 = .ok (.getfield 54, 3) := by decide +kernel
theorem d_Tk_addSegment_39 : decode qC_Tk_addSegment.1 39 = .ok (.aload_n 0, 1) := by decide +kernel
theorem d_Tk_addSegment_40 : decode qC_Tk_addSegment.1 40 = .ok (.getfield 9, 3) := by decide +kernel
theorem d_Tk_addSegment_43 : decode qC_Tk_addSegment.1 43 = .ok (.iconst 2, 1) := by decide +kernel
theorem d_Tk_addSegment_44 : decode qC_Tk_addSegment.1 44 = .ok (.aload_n 0, 1) := by decide +kernel
theorem d_Tk_addSegment_45 : decode qC_Tk_addSegment.1 45 = .ok (.getfield 18, 3) := by decide +kernel
theorem d_Tk_addSegment_48 : decode qC_Tk_addSegment.1 48 = .ok (.invokevirtual 68, 3) := by decide +kernel
theorem d_Tk_addSegment_51 : decode qC_Tk_addSegment.1 51 = .ok (.aload_n 0, 1) := by decide +kernel
theorem d_Tk_addSegment_52 : decode qC_Tk_addSegment.1 52 = .ok (.getfield 54, 3) := by decide +kernel
theorem d_Tk_addSegment_55 : decode qC_Tk_addSegment.1 55 = .ok (.aload_n 0, 1) := by decide +kernel
theorem d_Tk_addSegment_56 : decode qC_Tk_addSegment.1 56 = .ok (.getfield 9, 3) := by decide +kernel
theorem d_Tk_addSegment_59 : decode qC_Tk_addSegment.1 59 = .ok (.iconst 3, 1) := by decide +kernel
theorem d_Tk_addSegment_60 : decode qC_Tk_addSegment.1 60 = .ok (.iload_n 2, 1) := by decide +kernel
theorem d_Tk_addSegment_61 : decode qC_Tk_addSegment.1 61 = .ok (.invokevirtual 68, 3) := by decide +kernel
theorem d_Tk_addSegment_64 : decode qC_Tk_addSegment.1 64 = .ok (.aload_n 0, 1) := by decide +kernel
theorem d_Tk_addSegment_65 : decode qC_Tk_addSegment.1 65 = .ok (.getfield 54, 3) := by decide +kernel
theorem d_Tk_addSegment_68 : decode qC_Tk_addSegment.1 68 = .ok (.aload_n 0, 1) := by decide +kernel
theorem d_Tk_addSegment_69 : decode qC_Tk_addSegment.1 69 = .ok (.getfield 9, 3) := by decide +kernel
theorem d_Tk_addSegment_72 : decode qC_Tk_addSegment.1 72 = .ok (.iconst 4, 1) := by decide +kernel
theorem d_Tk_addSegment_73 : decode qC_Tk_addSegment.1 73 = .ok (.iload_n 3, 1) := by decide +kernel
theorem d_Tk_addSegment_74 : decode qC_Tk_addSegment.1 74 = .ok (.invokevirtual 68, 3) := by decide +kernel
theorem d_Tk_addSegment_77 : decode qC_Tk_addSegment.1 77 = .ok (.aload_n 0, 1) := by decide +kernel
theorem d_Tk_addSegment_78 : decode qC_Tk_addSegment.1 78 = .ok (.getfield 54, 3) := by decide +kernel
theorem d_Tk_addSegment_81 : decode qC_Tk_addSegment.1 81 = .ok (.aload_n 0, 1) := by decide +kernel
theorem d_Tk_addSegment_82 : decode qC_Tk_addSegment.1 82 = .ok (.getfield 9, 3) := by decide +kernel
theorem d_Tk_addSegment_85 : decode qC_Tk_addSegment.1 85 = .ok (.iconst 5, 1) := by decide +kernel
theorem d_Tk_addSegment_86 : decode qC_Tk_addSegment.1 86 = .ok (.iload 4, 2) := by decide +kernel
theorem d_Tk_addSegment_88 : decode qC_Tk_addSegment.1 88 = .ok (.invokevirtual 68, 3) := by decide +kernel
theorem d_Tk_addSegment_91 : decode qC_Tk_addSegment.1 91 = .ok (.aload_n 0, 1) := by decide +kernel
theorem d_Tk_addSegment_92 : decode qC_Tk_addSegment.1 92 = .ok (.getfield 54, 3) := by decide +kernel
theorem d_Tk_addSegment_95 : decode qC_Tk_addSegment.1 95 = .ok (.aload_n 0, 1) := by decide +kernel
theorem d_Tk_addSegment_96 : decode qC_Tk_addSegment.1 96 = .ok (.getfield 9, 3) := by decide +kernel
theorem d_Tk_addSegment_99 : decode qC_Tk_addSegment.1 99 = .ok (.bipush 6, 2) := by decide +kernel
theorem d_Tk_addSegment_101 : decode qC_Tk_addSegment.1 101 = .ok (.iload 5, 2) := by decide +kernel
theorem d_Tk_addSegment_103 : decode qC_Tk_addSegment.1 103 = .ok (.invokevirtual 68, 3) := by decide +kernel
theorem d_Tk_addSegment_106 : decode qC_Tk_addSegment.1 106 = .ok (.aload_n 0, 1) := by decide +kernel
theorem d_Tk_addSegment_107 : decode qC_Tk_addSegment.1 107 = .ok (.getfield 54, 3) := by decide +kernel
theorem d_Tk_addSegment_110 : decode qC_Tk_addSegment.1 110 = .ok (.aload_n 0, 1) := by decide +kernel
theorem d_Tk_addSegment_111 : decode qC_Tk_addSegment.1 111 = .ok (.getfield 9, 3) := by decide +kernel
theorem d_Tk_addSegment_114 : decode qC_Tk_addSegment.1 114 = .ok (.bipush 7, 2) := by decide +kernel
theorem d_Tk_addSegment_116 : decode qC_Tk_addSegment.1 116 = .ok (.aload_n 0, 1) := by decide +kernel
theorem d_Tk_addSegment_117 : decode qC_Tk_addSegment.1 117 = .ok (.getfield 21, 3) := by decide +kernel
theorem d_Tk_addSegment_120 : decode qC_Tk_addSegment.1 120 = .ok (.invokevirtual 68, 3) := by decide +kernel
theorem d_Tk_addSegment_123 : decode qC_Tk_addSegment.1 123 = .ok (.aload_n 0, 1) := by decide +kernel
theorem d_Tk_addSegment_124 : decode qC_Tk_addSegment.1 124 = .ok (.getfield 54, 3) := by decide +kernel
theorem d_Tk_addSegment_127 : decode qC_Tk_addSegment.1 127 = .ok (.aload_n 0, 1) := by decide +kernel
theorem d_Tk_addSegment_128 : decode qC_Tk_addSegment.1 128 = .ok (.getfield 9, 3) := by decide +kernel
theorem d_Tk_addSegment_131 : decode qC_Tk_addSegment.1 131 = .ok (.bipush 8, 2) := by decide +kernel
theorem d_Tk_addSegment_133 : decode qC_Tk_addSegment.1 133 = .ok (.aload_n 0, 1) := by decide +kernel
theorem d_Tk_addSegment_134 : decode qC_Tk_addSegment.1 134 = .ok (.getfield 24, 3) := by decide +kernel
theorem d_Tk_addSegment_137 : decode qC_Tk_addSegment.1 137 = .ok (.invokevirtual 68, 3) := by decide +kernel
theorem d_Tk_addSegment_140 : decode qC_Tk_addSegment.1 140 = .ok (.aload_n 0, 1) := by decide +kernel
theorem d_Tk_addSegment_141 : decode qC_Tk_addSegment.1 141 = .ok (.getfield 54, 3) := by decide +kernel
theorem d_Tk_addSegment_144 : decode qC_Tk_addSegment.1 144 = .ok (.aload_n 0, 1) := by decide +kernel
theorem d_Tk_addSegment_145 : decode qC_Tk_addSegment.1 145 = .ok (.getfield 9, 3) := by decide +kernel
theorem d_Tk_addSegment_148 : decode qC_Tk_addSegment.1 148 = .ok (.bipush 9, 2) := by decide +kernel
theorem d_Tk_addSegment_150 : decode qC_Tk_addSegment.1 150 = .ok (.aload_n 0, 1) := by decide +kernel
theorem d_Tk_addSegment_151 : decode qC_Tk_addSegment.1 151 = .ok (.getfield 27, 3) := by decide +kernel
theorem d_Tk_addSegment_154 : decode qC_Tk_addSegment.1 154 = .ok (.invokevirtual 68, 3) := by decide +kernel
theorem d_Tk_addSegment_157 : decode qC_Tk_addSegment.1 157 = .ok (.aload_n 0, 1) := by decide +kernel
theorem d_Tk_addSegment_158 : decode qC_Tk_addSegment.1 158 = .ok (.getfield 54, 3) := by decide +kernel
theorem d_Tk_addSegment_161 : decode qC_Tk_addSegment.1 161 = .ok (.aload_n 0, 1) := by decide +kernel
theorem d_Tk_addSegment_162 : decode qC_Tk_addSegment.1 162 = .ok (.getfield 9, 3) := by decide +kernel
theorem d_Tk_addSegment_165 : decode qC_Tk_addSegment.1 165 = .ok (.bipush 10, 2) := by decide +kernel
theorem d_Tk_addSegment_167 : decode qC_Tk_addSegment.1 167 = .ok (.aload_n 0, 1) := by decide +kernel
theorem d_Tk_addSegment_168 : decode qC_Tk_addSegment.1 168 = .ok (.getfield 30, 3) := by decide +kernel
theorem d_Tk_addSegment_171 : decode qC_Tk_addSegment.1 171 = .ok (.ifCond .eq 7, 3) := by decide +kernel
theorem d_Tk_addSegment_174 : decode qC_Tk_addSegment.1 174 = .ok (.iconst 1, 1) := by decide +kernel
theorem d_Tk_addSegment_175 : decode qC_Tk_addSegment.1 175 = .ok (.goto 4, 3) := by decide +kernel
theorem d_Tk_addSegment_178 : decode qC_Tk_addSegment.1 178 = .ok (.iconst 0, 1) := by decide +kernel
theorem d_Tk_addSegment_179 : decode qC_Tk_addSegment.1 179 = .ok (.invokevirtual 68, 3) := by decide +kernel
theorem d_Tk_addSegment_182 : decode qC_Tk_addSegment.1 182 = .ok (.aload_n 0, 1) := by decide +kernel
theorem d_Tk_addSegment_183 : decode qC_Tk_addSegment.1 183 = .ok (.dup, 1) := by decide +kernel
theorem d_Tk_addSegment_184 : decode qC_Tk_addSegment.1 184 = .ok (.getfield 9, 3) := by decide +kernel
theorem d_Tk_addSegment_187 : decode qC_Tk_addSegment.1 187 = .ok (.iconst 1, 1) := by decide +kernel
theorem d_Tk_addSegment_188 : decode qC_Tk_addSegment.1 188 = .ok (.iadd, 1) := by decide +kernel
theorem d_Tk_addSegment_189 : decode qC_Tk_addSegment.1 189 = .ok (.putfield 9, 3) := by decide +kernel
theorem d_Tk_addSegment_192 : decode qC_Tk_addSegment.1 192 = .ok (.aload_n 0, 1) := by decide +kernel
theorem d_Tk_addSegment_193 : decode qC_Tk_addSegment.1 193 = .ok (.iload_n 2, 1) := by decide +kernel
theorem d_Tk_addSegment_194 : decode qC_Tk_addSegment.1 194 = .ok (.putfield 15, 3) := by decide +kernel
theorem d_Tk_addSegment_197 : decode qC_Tk_addSegment.1 197 = .ok (.aload_n 0, 1) := by decide +kernel
theorem d_Tk_addSegment_198 : decode qC_Tk_addSegment.1 198 = .ok (.iload_n 3, 1) := by decide +kernel
theorem d_Tk_addSegment_199 : decode qC_Tk_addSegment.1 199 = .ok (.putfield 18, 3) := by decide +kernel
theorem d_Tk_addSegment_202 : decode qC_Tk_addSegment.1 202 = .ok (.aload_n 0, 1) := by decide +kernel
theorem d_Tk_addSegment_203 : decode qC_Tk_addSegment.1 203 = .ok (.iconst 1, 1) := by decide +kernel
theorem d_Tk_addSegment_204 : decode qC_Tk_addSegment.1 204 = .ok (.putfield 30, 3) := by decide +kernel
theorem d_Tk_addSegment_207 : decode qC_Tk_addSegment.1 207 = .ok (.aload_n 0, 1) := by decide +kernel
theorem d_Tk_addSegment_208 : decode qC_Tk_addSegment.1 208 = .ok (.iload_n 1, 1) := by decide +kernel
theorem d_Tk_addSegment_209 : decode qC_Tk_addSegment.1 209 = .ok (.iload 5, 2) := by decide +kernel
theorem d_Tk_addSegment_211 : decode qC_Tk_addSegment.1 211 = .ok (.iload 4, 2) := by decide +kernel
theorem d_Tk_addSegment_213 : decode qC_Tk_addSegment.1 213 = .ok (.invokevirtual 112, 3) := by decide +kernel
theorem d_Tk_addSegment_216 : decode qC_Tk_addSegment.1 216 = .ok (.return_, 1) := by decide +kernel
set_option maxRecDepth 100000 in
def f_Tk_addSegment (σ : St) (o : Nat) (p1 : Int32) (p2 : Int32) (p3 : Int32) (p4 : Int32) (p5 : Int32) : Option (St) :=
  if (0 : Int32) < p4 then (
  Option.bind (f_Tb_put σ (rc o 3) (σ o 4) (0 : Int32) p1) fun x1 =>
  Option.bind (f_Tb_put x1 (rc o 3) (x1 o 4) (1 : Int32) (x1 o 5)) fun x2 =>
  Option.bind (f_Tb_put x2 (rc o 3) (x2 o 4) (2 : Int32) (x2 o 6)) fun x3 =>
  Option.bind (f_Tb_put x3 (rc o 3) (x3 o 4) (3 : Int32) p2) fun x4 =>
  Option.bind (f_Tb_put x4 (rc o 3) (x4 o 4) (4 : Int32) p3) fun x5 =>
  Option.bind (f_Tb_put x5 (rc o 3) (x5 o 4) (5 : Int32) p4) fun x6 =>
  Option.bind (f_Tb_put x6 (rc o 3) (x6 o 4) (6 : Int32) p5) fun x7 =>
  Option.bind (f_Tb_put x7 (rc o 3) (x7 o 4) (7 : Int32) (x7 o 7)) fun x8 =>
  Option.bind (f_Tb_put x8 (rc o 3) (x8 o 4) (8 : Int32) (x8 o 8)) fun x9 =>
  Option.bind (f_Tb_put x9 (rc o 3) (x9 o 4) (9 : Int32) (x9 o 9)) fun x10 =>
  Jn (fun (x11 : Int32) =>
  Option.bind (f_Tb_put x10 (rc o 3) (x10 o 4) (10 : Int32) x11) fun x13 =>
  Lt (s2 x13 o 4 ((x13 o 4) + (1 : Int32))) fun σ14 =>
  Lt (s2 σ14 o 5 p2) fun σ15 =>
  Lt (s2 σ15 o 6 p3) fun σ16 =>
  Lt (s2 σ16 o 10 (1 : Int32)) fun σ17 =>
  Option.bind (f_Tk_comeFrom σ17 o p1 p5 p4) fun x18 =>
  some x18
  ) fun J12 =>
  if ((x10 o 10) : Int32) = 0 then (
  J12 (0 : Int32)
  ) else (
  J12 (1 : Int32)
  )
  ) else (
  some σ
  )
set_option maxHeartbeats 4000000 in
set_option maxRecDepth 100000 in
theorem cC_Tk_addSegment (l : Launch) (g : Ge) (hi : injB wC.2 g) (σ : St) (o : Nat) (ho : wC.2.2.1 o = .inr (9, 12)) (p1 : Int32) (p2 : Int32) (p3 : Int32) (p4 : Int32) (p5 : Int32) (x : St) (h : f_Tk_addSegment σ o p1 p2 p3 p4 p5 = some x) : Ct l wC g yC_Tk_addSegment qC_Tk_addSegment 1 23 [.ref (g.1 o), .int p1, .int p2, .int p3, .int p4, .int p5] σ (none, x) := by
  refine Ct.of (out := o_v) FC_Tk_addSegment rfl hi rfl h (fun z hz C => ?_)
  clear h
  subst hz
  unfold f_Tk_addSegment
  show Rt z qC_Tk_addSegment wC g o_v 0 [(0, .ref (g.1 o)), (1, .int p1), (2, .int p2), (3, .int p3), (4, .int p4), (5, .int p5)] [] σ _
  refine q_iload (pc' := 2) C 4 d_Tk_addSegment_0 rfl rfl ?_
  refine q_if_gt (tgt := 6) (pc' := 5) C d_Tk_addSegment_2 rfl rfl ?_ ?_
  · refine q_aload_n (pc' := 7) C 0 d_Tk_addSegment_6 rfl rfl ?_
    refine gC_Tk_54 (pc' := 10) C o (rc o 3) ho (ly_9_3 ho).1 d_Tk_addSegment_7 rfl rfl ?_
    refine q_aload_n (pc' := 11) C 0 d_Tk_addSegment_10 rfl rfl ?_
    refine gC_Tk_9 (pc' := 14) C o ho d_Tk_addSegment_11 rfl rfl ?_
    refine q_iconst (pc' := 15) C d_Tk_addSegment_14 ki_0 rfl ?_
    refine q_iload_n (pc' := 16) C 1 d_Tk_addSegment_15 rfl rfl ?_
    refine q_callVv (fr' := 0) (lo' := 0) (pc' := 19) C FC_Tb_put lmC_Tk_68 d_Tk_addSegment_16 (rc o 3) (jCo (ly_9_3 ho).2) (ly_9_3 ho).2 cC_8 [.int (σ o 4), .int (0 : Int32), .int p1] [] rfl rfl (Nat.le_of_ble_eq_true rfl) ⟨rfl, rfl⟩ (fun x h => cC_Tb_put _ g hi σ (rc o 3) (ly_9_3 ho).2 (σ o 4) (0 : Int32) p1 x h) rfl (fun x1 hx1 => ?_)
    refine q_aload_n (pc' := 20) C 0 d_Tk_addSegment_19 rfl rfl ?_
    refine gC_Tk_54 (pc' := 23) C o (rc o 3) ho (ly_9_3 ho).1 d_Tk_addSegment_20 rfl rfl ?_
    refine q_aload_n (pc' := 24) C 0 d_Tk_addSegment_23 rfl rfl ?_
    refine gC_Tk_9 (pc' := 27) C o ho d_Tk_addSegment_24 rfl rfl ?_
    refine q_iconst (pc' := 28) C d_Tk_addSegment_27 ki_1 rfl ?_
    refine q_aload_n (pc' := 29) C 0 d_Tk_addSegment_28 rfl rfl ?_
    refine gC_Tk_15 (pc' := 32) C o ho d_Tk_addSegment_29 rfl rfl ?_
    refine q_callVv (fr' := 0) (lo' := 0) (pc' := 35) C FC_Tb_put lmC_Tk_68 d_Tk_addSegment_32 (rc o 3) (jCo (ly_9_3 ho).2) (ly_9_3 ho).2 cC_8 [.int (x1 o 4), .int (1 : Int32), .int (x1 o 5)] [] rfl rfl (Nat.le_of_ble_eq_true rfl) ⟨rfl, rfl⟩ (fun x h => cC_Tb_put _ g hi x1 (rc o 3) (ly_9_3 ho).2 (x1 o 4) (1 : Int32) (x1 o 5) x h) rfl (fun x2 hx2 => ?_)
    refine q_aload_n (pc' := 36) C 0 d_Tk_addSegment_35 rfl rfl ?_
    refine gC_Tk_54 (pc' := 39) C o (rc o 3) ho (ly_9_3 ho).1 d_Tk_addSegment_36 rfl rfl ?_
    refine q_aload_n (pc' := 40) C 0 d_Tk_addSegment_39 rfl rfl ?_
    refine gC_Tk_9 (pc' := 43) C o ho d_Tk_addSegment_40 rfl rfl ?_
    refine q_iconst (pc' := 44) C d_Tk_addSegment_43 ki_2 rfl ?_
    refine q_aload_n (pc' := 45) C 0 d_Tk_addSegment_44 rfl rfl ?_
    refine gC_Tk_18 (pc' := 48) C o ho d_Tk_addSegment_45 rfl rfl ?_
    refine q_callVv (fr' := 0) (lo' := 0) (pc' := 51) C FC_Tb_put lmC_Tk_68 d_Tk_addSegment_48 (rc o 3) (jCo (ly_9_3 ho).2) (ly_9_3 ho).2 cC_8 [.int (x2 o 4), .int (2 : Int32), .int (x2 o 6)] [] rfl rfl (Nat.le_of_ble_eq_true rfl) ⟨rfl, rfl⟩ (fun x h => cC_Tb_put _ g hi x2 (rc o 3) (ly_9_3 ho).2 (x2 o 4) (2 : Int32) (x2 o 6) x h) rfl (fun x3 hx3 => ?_)
    refine q_aload_n (pc' := 52) C 0 d_Tk_addSegment_51 rfl rfl ?_
    refine gC_Tk_54 (pc' := 55) C o (rc o 3) ho (ly_9_3 ho).1 d_Tk_addSegment_52 rfl rfl ?_
    refine q_aload_n (pc' := 56) C 0 d_Tk_addSegment_55 rfl rfl ?_
    refine gC_Tk_9 (pc' := 59) C o ho d_Tk_addSegment_56 rfl rfl ?_
    refine q_iconst (pc' := 60) C d_Tk_addSegment_59 ki_3 rfl ?_
    refine q_iload_n (pc' := 61) C 2 d_Tk_addSegment_60 rfl rfl ?_
    refine q_callVv (fr' := 0) (lo' := 0) (pc' := 64) C FC_Tb_put lmC_Tk_68 d_Tk_addSegment_61 (rc o 3) (jCo (ly_9_3 ho).2) (ly_9_3 ho).2 cC_8 [.int (x3 o 4), .int (3 : Int32), .int p2] [] rfl rfl (Nat.le_of_ble_eq_true rfl) ⟨rfl, rfl⟩ (fun x h => cC_Tb_put _ g hi x3 (rc o 3) (ly_9_3 ho).2 (x3 o 4) (3 : Int32) p2 x h) rfl (fun x4 hx4 => ?_)
    refine q_aload_n (pc' := 65) C 0 d_Tk_addSegment_64 rfl rfl ?_
    refine gC_Tk_54 (pc' := 68) C o (rc o 3) ho (ly_9_3 ho).1 d_Tk_addSegment_65 rfl rfl ?_
    refine q_aload_n (pc' := 69) C 0 d_Tk_addSegment_68 rfl rfl ?_
    refine gC_Tk_9 (pc' := 72) C o ho d_Tk_addSegment_69 rfl rfl ?_
    refine q_iconst (pc' := 73) C d_Tk_addSegment_72 ki_4 rfl ?_
    refine q_iload_n (pc' := 74) C 3 d_Tk_addSegment_73 rfl rfl ?_
    refine q_callVv (fr' := 0) (lo' := 0) (pc' := 77) C FC_Tb_put lmC_Tk_68 d_Tk_addSegment_74 (rc o 3) (jCo (ly_9_3 ho).2) (ly_9_3 ho).2 cC_8 [.int (x4 o 4), .int (4 : Int32), .int p3] [] rfl rfl (Nat.le_of_ble_eq_true rfl) ⟨rfl, rfl⟩ (fun x h => cC_Tb_put _ g hi x4 (rc o 3) (ly_9_3 ho).2 (x4 o 4) (4 : Int32) p3 x h) rfl (fun x5 hx5 => ?_)
    refine q_aload_n (pc' := 78) C 0 d_Tk_addSegment_77 rfl rfl ?_
    refine gC_Tk_54 (pc' := 81) C o (rc o 3) ho (ly_9_3 ho).1 d_Tk_addSegment_78 rfl rfl ?_
    refine q_aload_n (pc' := 82) C 0 d_Tk_addSegment_81 rfl rfl ?_
    refine gC_Tk_9 (pc' := 85) C o ho d_Tk_addSegment_82 rfl rfl ?_
    refine q_iconst (pc' := 86) C d_Tk_addSegment_85 ki_5 rfl ?_
    refine q_iload (pc' := 88) C 4 d_Tk_addSegment_86 rfl rfl ?_
    refine q_callVv (fr' := 0) (lo' := 0) (pc' := 91) C FC_Tb_put lmC_Tk_68 d_Tk_addSegment_88 (rc o 3) (jCo (ly_9_3 ho).2) (ly_9_3 ho).2 cC_8 [.int (x5 o 4), .int (5 : Int32), .int p4] [] rfl rfl (Nat.le_of_ble_eq_true rfl) ⟨rfl, rfl⟩ (fun x h => cC_Tb_put _ g hi x5 (rc o 3) (ly_9_3 ho).2 (x5 o 4) (5 : Int32) p4 x h) rfl (fun x6 hx6 => ?_)
    refine q_aload_n (pc' := 92) C 0 d_Tk_addSegment_91 rfl rfl ?_
    refine gC_Tk_54 (pc' := 95) C o (rc o 3) ho (ly_9_3 ho).1 d_Tk_addSegment_92 rfl rfl ?_
    refine q_aload_n (pc' := 96) C 0 d_Tk_addSegment_95 rfl rfl ?_
    refine gC_Tk_9 (pc' := 99) C o ho d_Tk_addSegment_96 rfl rfl ?_
    refine q_bipush (pc' := 101) C d_Tk_addSegment_99 kb_6 rfl ?_
    refine q_iload (pc' := 103) C 5 d_Tk_addSegment_101 rfl rfl ?_
    refine q_callVv (fr' := 0) (lo' := 0) (pc' := 106) C FC_Tb_put lmC_Tk_68 d_Tk_addSegment_103 (rc o 3) (jCo (ly_9_3 ho).2) (ly_9_3 ho).2 cC_8 [.int (x6 o 4), .int (6 : Int32), .int p5] [] rfl rfl (Nat.le_of_ble_eq_true rfl) ⟨rfl, rfl⟩ (fun x h => cC_Tb_put _ g hi x6 (rc o 3) (ly_9_3 ho).2 (x6 o 4) (6 : Int32) p5 x h) rfl (fun x7 hx7 => ?_)
    refine q_aload_n (pc' := 107) C 0 d_Tk_addSegment_106 rfl rfl ?_
    refine gC_Tk_54 (pc' := 110) C o (rc o 3) ho (ly_9_3 ho).1 d_Tk_addSegment_107 rfl rfl ?_
    refine q_aload_n (pc' := 111) C 0 d_Tk_addSegment_110 rfl rfl ?_
    refine gC_Tk_9 (pc' := 114) C o ho d_Tk_addSegment_111 rfl rfl ?_
    refine q_bipush (pc' := 116) C d_Tk_addSegment_114 kb_7 rfl ?_
    refine q_aload_n (pc' := 117) C 0 d_Tk_addSegment_116 rfl rfl ?_
    refine gC_Tk_21 (pc' := 120) C o ho d_Tk_addSegment_117 rfl rfl ?_
    refine q_callVv (fr' := 0) (lo' := 0) (pc' := 123) C FC_Tb_put lmC_Tk_68 d_Tk_addSegment_120 (rc o 3) (jCo (ly_9_3 ho).2) (ly_9_3 ho).2 cC_8 [.int (x7 o 4), .int (7 : Int32), .int (x7 o 7)] [] rfl rfl (Nat.le_of_ble_eq_true rfl) ⟨rfl, rfl⟩ (fun x h => cC_Tb_put _ g hi x7 (rc o 3) (ly_9_3 ho).2 (x7 o 4) (7 : Int32) (x7 o 7) x h) rfl (fun x8 hx8 => ?_)
    refine q_aload_n (pc' := 124) C 0 d_Tk_addSegment_123 rfl rfl ?_
    refine gC_Tk_54 (pc' := 127) C o (rc o 3) ho (ly_9_3 ho).1 d_Tk_addSegment_124 rfl rfl ?_
    refine q_aload_n (pc' := 128) C 0 d_Tk_addSegment_127 rfl rfl ?_
    refine gC_Tk_9 (pc' := 131) C o ho d_Tk_addSegment_128 rfl rfl ?_
    refine q_bipush (pc' := 133) C d_Tk_addSegment_131 kb_8 rfl ?_
    refine q_aload_n (pc' := 134) C 0 d_Tk_addSegment_133 rfl rfl ?_
    refine gC_Tk_24 (pc' := 137) C o ho d_Tk_addSegment_134 rfl rfl ?_
    refine q_callVv (fr' := 0) (lo' := 0) (pc' := 140) C FC_Tb_put lmC_Tk_68 d_Tk_addSegment_137 (rc o 3) (jCo (ly_9_3 ho).2) (ly_9_3 ho).2 cC_8 [.int (x8 o 4), .int (8 : Int32), .int (x8 o 8)] [] rfl rfl (Nat.le_of_ble_eq_true rfl) ⟨rfl, rfl⟩ (fun x h => cC_Tb_put _ g hi x8 (rc o 3) (ly_9_3 ho).2 (x8 o 4) (8 : Int32) (x8 o 8) x h) rfl (fun x9 hx9 => ?_)
    refine q_aload_n (pc' := 141) C 0 d_Tk_addSegment_140 rfl rfl ?_
    refine gC_Tk_54 (pc' := 144) C o (rc o 3) ho (ly_9_3 ho).1 d_Tk_addSegment_141 rfl rfl ?_
    refine q_aload_n (pc' := 145) C 0 d_Tk_addSegment_144 rfl rfl ?_
    refine gC_Tk_9 (pc' := 148) C o ho d_Tk_addSegment_145 rfl rfl ?_
    refine q_bipush (pc' := 150) C d_Tk_addSegment_148 kb_9 rfl ?_
    refine q_aload_n (pc' := 151) C 0 d_Tk_addSegment_150 rfl rfl ?_
    refine gC_Tk_27 (pc' := 154) C o ho d_Tk_addSegment_151 rfl rfl ?_
    refine q_callVv (fr' := 0) (lo' := 0) (pc' := 157) C FC_Tb_put lmC_Tk_68 d_Tk_addSegment_154 (rc o 3) (jCo (ly_9_3 ho).2) (ly_9_3 ho).2 cC_8 [.int (x9 o 4), .int (9 : Int32), .int (x9 o 9)] [] rfl rfl (Nat.le_of_ble_eq_true rfl) ⟨rfl, rfl⟩ (fun x h => cC_Tb_put _ g hi x9 (rc o 3) (ly_9_3 ho).2 (x9 o 4) (9 : Int32) (x9 o 9) x h) rfl (fun x10 hx10 => ?_)
    refine q_aload_n (pc' := 158) C 0 d_Tk_addSegment_157 rfl rfl ?_
    refine gC_Tk_54 (pc' := 161) C o (rc o 3) ho (ly_9_3 ho).1 d_Tk_addSegment_158 rfl rfl ?_
    refine q_aload_n (pc' := 162) C 0 d_Tk_addSegment_161 rfl rfl ?_
    refine gC_Tk_9 (pc' := 165) C o ho d_Tk_addSegment_162 rfl rfl ?_
    refine q_bipush (pc' := 167) C d_Tk_addSegment_165 kb_10 rfl ?_
    refine q_aload_n (pc' := 168) C 0 d_Tk_addSegment_167 rfl rfl ?_
    refine gC_Tk_30 (pc' := 171) C o ho d_Tk_addSegment_168 rfl rfl ?_
    refine q_join (fun J12 : Int32 → Option (St) => ∀ (x11 : Int32), Rt z qC_Tk_addSegment wC g o_v 179 [(0, .ref (g.1 o)), (1, .int p1), (2, .int p2), (3, .int p3), (4, .int p4), (5, .int p5)] [.int x11, .int (10 : Int32), .int (x10 o 4), .ref (g.1 (rc o 3))] x10 (J12 x11)) (fun x11 => ?_) (fun J12 hJ12 => ?_)
    · refine q_callVv (fr' := 0) (lo' := 0) (pc' := 182) C FC_Tb_put lmC_Tk_68 d_Tk_addSegment_179 (rc o 3) (jCo (ly_9_3 ho).2) (ly_9_3 ho).2 cC_8 [.int (x10 o 4), .int (10 : Int32), .int x11] [] rfl rfl (Nat.le_of_ble_eq_true rfl) ⟨rfl, rfl⟩ (fun x h => cC_Tb_put _ g hi x10 (rc o 3) (ly_9_3 ho).2 (x10 o 4) (10 : Int32) x11 x h) rfl (fun x13 hx13 => ?_)
      refine q_aload_n (pc' := 183) C 0 d_Tk_addSegment_182 rfl rfl ?_
      refine q_dup (pc' := 184) C d_Tk_addSegment_183 rfl rfl ?_
      refine gC_Tk_9 (pc' := 187) C o ho d_Tk_addSegment_184 rfl rfl ?_
      refine q_iconst (pc' := 188) C d_Tk_addSegment_187 ki_1 rfl ?_
      refine q_iadd (pc' := 189) C d_Tk_addSegment_188 rfl ?_
      refine pC_Tk_9 (pc' := 192) C o ho d_Tk_addSegment_189 rfl rfl ?_
      refine q_let (fun σ14 e14 => ?_)
      refine q_state e14 ?_
      refine q_aload_n (pc' := 193) C 0 d_Tk_addSegment_192 rfl rfl ?_
      refine q_iload_n (pc' := 194) C 2 d_Tk_addSegment_193 rfl rfl ?_
      refine pC_Tk_15 (pc' := 197) C o ho d_Tk_addSegment_194 rfl rfl ?_
      refine q_let (fun σ15 e15 => ?_)
      refine q_state e15 ?_
      refine q_aload_n (pc' := 198) C 0 d_Tk_addSegment_197 rfl rfl ?_
      refine q_iload_n (pc' := 199) C 3 d_Tk_addSegment_198 rfl rfl ?_
      refine pC_Tk_18 (pc' := 202) C o ho d_Tk_addSegment_199 rfl rfl ?_
      refine q_let (fun σ16 e16 => ?_)
      refine q_state e16 ?_
      refine q_aload_n (pc' := 203) C 0 d_Tk_addSegment_202 rfl rfl ?_
      refine q_iconst (pc' := 204) C d_Tk_addSegment_203 ki_1 rfl ?_
      refine pC_Tk_30 (pc' := 207) C o ho d_Tk_addSegment_204 (by decide) rfl rfl ?_
      refine q_let (fun σ17 e17 => ?_)
      refine q_state e17 ?_
      refine q_aload_n (pc' := 208) C 0 d_Tk_addSegment_207 rfl rfl ?_
      refine q_iload_n (pc' := 209) C 1 d_Tk_addSegment_208 rfl rfl ?_
      refine q_iload (pc' := 211) C 5 d_Tk_addSegment_209 rfl rfl ?_
      refine q_iload (pc' := 213) C 4 d_Tk_addSegment_211 rfl rfl ?_
      refine q_callVv (fr' := 0) (lo' := 0) (pc' := 216) C FC_Tk_comeFrom lmC_Tk_112 d_Tk_addSegment_213 o (jCo ho) ho cC_9 [.int p1, .int p5, .int p4] [] rfl rfl (Nat.le_of_ble_eq_true rfl) ⟨rfl, rfl⟩ (fun x h => cC_Tk_comeFrom _ g hi σ17 o ho p1 p5 p4 x h) rfl (fun x18 hx18 => ?_)
      exact q_vret C rfl d_Tk_addSegment_216 rfl
    refine q_if_eq (tgt := 178) (pc' := 174) C d_Tk_addSegment_171 rfl rfl ?_ ?_
    · refine q_iconst (pc' := 179) C d_Tk_addSegment_178 ki_0 rfl ?_
      exact Rt.sub [0, 1, 2, 3, 4, 5] rfl (hJ12 (0 : Int32))
    · refine q_iconst (pc' := 175) C d_Tk_addSegment_174 ki_1 rfl ?_
      refine q_goto (tgt := 179) C d_Tk_addSegment_175 rfl ?_
      exact Rt.sub [0, 1, 2, 3, 4, 5] rfl (hJ12 (1 : Int32))
  · exact q_vret C rfl d_Tk_addSegment_5 rfl
theorem d_Tk_runTo_0 : decode qC_Tk_runTo.1 0 = .ok (.aload_n 0, 1) := by decide +kernel
theorem d_Tk_runTo_1 : decode qC_Tk_runTo.1 1 = .ok (.getfield 15, 3) := by decide +kernel
theorem d_Tk_runTo_4 : decode qC_Tk_runTo.1 4 = .ok (.aload_n 0, 1) := by decide +kernel
theorem d_Tk_runTo_5 : decode qC_Tk_runTo.1 5 = .ok (.getfield 18, 3) := by decide +kernel
theorem d_Tk_runTo_8 : decode qC_Tk_runTo.1 8 = .ok (.iload_n 2, 1) := by decide +kernel
theorem d_Tk_runTo_9 : decode qC_Tk_runTo.1 9 = .ok (.iload_n 3, 1) := by decide +kernel
theorem d_Tk_runTo_10 : decode qC_Tk_runTo.1 10 = .ok (.invokestatic 159, 3) := by decide +kernel
theorem d_Tk_runTo_13 : decode qC_Tk_runTo.1 13 = .ok (.istore 4, 2) := by decide +kernel
theorem d_Tk_runTo_15 : decode qC_Tk_runTo.1 15 = .ok (.aload_n 0, 1) := by decide +kernel
theorem d_Tk_runTo_16 : decode qC_Tk_runTo.1 16 = .ok (.iload_n 1, 1) := by decide +kernel
theorem d_Tk_runTo_17 : decode qC_Tk_runTo.1 17 = .ok (.iload_n 2, 1) := by decide +kernel
theorem d_Tk_runTo_18 : decode qC_Tk_runTo.1 18 = .ok (.iload_n 3, 1) := by decide +kernel
theorem d_Tk_runTo_19 : decode qC_Tk_runTo.1 19 = .ok (.aload_n 0, 1) := by decide +kernel
theorem d_Tk_runTo_20 : decode qC_Tk_runTo.1 20 = .ok (.getfield 15, 3) := by decide +kernel
theorem d_Tk_runTo_23 : decode qC_Tk_runTo.1 23 = .ok (.aload_n 0, 1) := by decide +kernel
theorem d_Tk_runTo_24 : decode qC_Tk_runTo.1 24 = .ok (.getfield 18, 3) := by decide +kernel
theorem d_Tk_runTo_27 : decode qC_Tk_runTo.1 27 = .ok (.iload_n 2, 1) := by decide +kernel
theorem d_Tk_runTo_28 : decode qC_Tk_runTo.1 28 = .ok (.iload_n 3, 1) := by decide +kernel
theorem d_Tk_runTo_29 : decode qC_Tk_runTo.1 29 = .ok (.invokestatic 115, 3) := by decide +kernel
theorem d_Tk_runTo_32 : decode qC_Tk_runTo.1 32 = .ok (.iload 4, 2) := by decide +kernel
theorem d_Tk_runTo_34 : decode qC_Tk_runTo.1 34 = .ok (.invokevirtual 121, 3) := by decide +kernel
theorem d_Tk_runTo_37 : decode qC_Tk_runTo.1 37 = .ok (.return_, 1) := by decide +kernel
set_option maxRecDepth 100000 in
def f_Tk_runTo (σ : St) (o : Nat) (p1 : Int32) (p2 : Int32) (p3 : Int32) : Option (St) :=
  Option.bind (f_Cm_courseBetween σ (σ o 5) (σ o 6) p2 p3) fun x1 =>
  Option.bind (f_Cm_distance (σ o 5) (σ o 6) p2 p3) fun x2 =>
  Option.bind (f_Tk_addSegment σ o p1 p2 p3 x2 x1) fun x3 =>
  some x3
set_option maxHeartbeats 4000000 in
set_option maxRecDepth 100000 in
theorem cC_Tk_runTo (l : Launch) (g : Ge) (hi : injB wC.2 g) (σ : St) (o : Nat) (ho : wC.2.2.1 o = .inr (9, 12)) (p1 : Int32) (p2 : Int32) (p3 : Int32) (x : St) (h : f_Tk_runTo σ o p1 p2 p3 = some x) : Ct l wC g yC_Tk_runTo qC_Tk_runTo 2 54 [.ref (g.1 o), .int p1, .int p2, .int p3] σ (none, x) := by
  refine Ct.of (out := o_v) FC_Tk_runTo rfl hi rfl h (fun z hz C => ?_)
  clear h
  subst hz
  unfold f_Tk_runTo
  show Rt z qC_Tk_runTo wC g o_v 0 [(0, .ref (g.1 o)), (1, .int p1), (2, .int p2), (3, .int p3)] [] σ _
  refine q_aload_n (pc' := 1) C 0 d_Tk_runTo_0 rfl rfl ?_
  refine gC_Tk_15 (pc' := 4) C o ho d_Tk_runTo_1 rfl rfl ?_
  refine q_aload_n (pc' := 5) C 0 d_Tk_runTo_4 rfl rfl ?_
  refine gC_Tk_18 (pc' := 8) C o ho d_Tk_runTo_5 rfl rfl ?_
  refine q_iload_n (pc' := 9) C 2 d_Tk_runTo_8 rfl rfl ?_
  refine q_iload_n (pc' := 10) C 3 d_Tk_runTo_9 rfl rfl ?_
  refine q_callSr (fr' := 1) (lo' := 20) (pc' := 13) C FC_Cm_courseBetween lmC_Tk_159 d_Tk_runTo_10 [.int (σ o 5), .int (σ o 6), .int p2, .int p3] [] rfl rfl (Nat.le_of_ble_eq_true rfl) ⟨rfl, rfl⟩ (fun x h => cC_Cm_courseBetween _ g hi σ (σ o 5) (σ o 6) p2 p3 x h) rfl (fun x1 hx1 => ?_)
  refine q_istore (pc' := 15) (lv' := [(4, .int x1), (0, .ref (g.1 o)), (1, .int p1), (2, .int p2), (3, .int p3)]) C d_Tk_runTo_13 (by decide) rfl rfl ?_
  refine q_aload_n (pc' := 16) C 1 d_Tk_runTo_15 rfl rfl ?_
  refine q_iload_n (pc' := 17) C 2 d_Tk_runTo_16 rfl rfl ?_
  refine q_iload_n (pc' := 18) C 3 d_Tk_runTo_17 rfl rfl ?_
  refine q_iload_n (pc' := 19) C 4 d_Tk_runTo_18 rfl rfl ?_
  refine q_aload_n (pc' := 20) C 1 d_Tk_runTo_19 rfl rfl ?_
  refine gC_Tk_15 (pc' := 23) C o ho d_Tk_runTo_20 rfl rfl ?_
  refine q_aload_n (pc' := 24) C 1 d_Tk_runTo_23 rfl rfl ?_
  refine gC_Tk_18 (pc' := 27) C o ho d_Tk_runTo_24 rfl rfl ?_
  refine q_iload_n (pc' := 28) C 3 d_Tk_runTo_27 rfl rfl ?_
  refine q_iload_n (pc' := 29) C 4 d_Tk_runTo_28 rfl rfl ?_
  refine q_callSr (fr' := 1) (lo' := 27) (pc' := 32) C FC_Cm_distance lmC_Tk_115 d_Tk_runTo_29 [.int (σ o 5), .int (σ o 6), .int p2, .int p3] [.int p3, .int p2, .int p1, .ref (g.1 o)] rfl rfl (Nat.le_of_ble_eq_true rfl) ⟨rfl, rfl⟩ (fun x h => cC_Cm_distance _ g hi σ (σ o 5) (σ o 6) p2 p3 x h) rfl (fun x2 hx2 => ?_)
  refine q_iload (pc' := 34) C 0 d_Tk_runTo_32 rfl rfl ?_
  refine q_callVv (fr' := 1) (lo' := 23) (pc' := 37) C FC_Tk_addSegment lmC_Tk_121 d_Tk_runTo_34 o (jCo ho) ho cC_9 [.int p1, .int p2, .int p3, .int x2, .int x1] [] rfl rfl (Nat.le_of_ble_eq_true rfl) ⟨rfl, rfl⟩ (fun x h => cC_Tk_addSegment _ g hi σ o ho p1 p2 p3 x2 x1 x h) rfl (fun x3 hx3 => ?_)
  exact q_vret C rfl d_Tk_runTo_37 rfl
theorem d_Tk_followCourseToFix_0 : decode qC_Tk_followCourseToFix.1 0 = .ok (.aload_n 0, 1) := by decide +kernel
theorem d_Tk_followCourseToFix_1 : decode qC_Tk_followCourseToFix.1 1 = .ok (.getfield 37, 3) := by decide +kernel
theorem d_Tk_followCourseToFix_4 : decode qC_Tk_followCourseToFix.1 4 = .ok (.getfield 98, 3) := by decide +kernel
theorem d_Tk_followCourseToFix_7 : decode qC_Tk_followCourseToFix.1 7 = .ok (.iload_n 1, 1) := by decide +kernel
theorem d_Tk_followCourseToFix_8 : decode qC_Tk_followCourseToFix.1 8 = .ok (.iconst 2, 1) := by decide +kernel
theorem d_Tk_followCourseToFix_9 : decode qC_Tk_followCourseToFix.1 9 = .ok (.invokevirtual 99, 3) := by decide +kernel
theorem d_Tk_followCourseToFix_12 : decode qC_Tk_followCourseToFix.1 12 = .ok (.istore_n 2, 1) := by decide +kernel
theorem d_Tk_followCourseToFix_13 : decode qC_Tk_followCourseToFix.1 13 = .ok (.aload_n 0, 1) := by decide +kernel
theorem d_Tk_followCourseToFix_14 : decode qC_Tk_followCourseToFix.1 14 = .ok (.getfield 37, 3) := by decide +kernel
theorem d_Tk_followCourseToFix_17 : decode qC_Tk_followCourseToFix.1 17 = .ok (.getfield 98, 3) := by decide +kernel
theorem d_Tk_followCourseToFix_20 : decode qC_Tk_followCourseToFix.1 20 = .ok (.iload_n 1, 1) := by decide +kernel
theorem d_Tk_followCourseToFix_21 : decode qC_Tk_followCourseToFix.1 21 = .ok (.bipush 7, 2) := by decide +kernel
theorem d_Tk_followCourseToFix_23 : decode qC_Tk_followCourseToFix.1 23 = .ok (.invokevirtual 99, 3) := by decide +kernel
theorem d_Tk_followCourseToFix_26 : decode qC_Tk_followCourseToFix.1 26 = .ok (.istore_n 3, 1) := by decide +kernel
theorem d_Tk_followCourseToFix_27 : decode qC_Tk_followCourseToFix.1 27 = .ok (.aload_n 0, 1) := by decide +kernel
theorem d_Tk_followCourseToFix_28 : decode qC_Tk_followCourseToFix.1 28 = .ok (.getfield 37, 3) := by decide +kernel
theorem d_Tk_followCourseToFix_31 : decode qC_Tk_followCourseToFix.1 31 = .ok (.getfield 98, 3) := by decide +kernel
theorem d_Tk_followCourseToFix_34 : decode qC_Tk_followCourseToFix.1 34 = .ok (.iload_n 1, 1) := by decide +kernel
theorem d_Tk_followCourseToFix_35 : decode qC_Tk_followCourseToFix.1 35 = .ok (.bipush 8, 2) := by decide +kernel
theorem d_Tk_followCourseToFix_37 : decode qC_Tk_followCourseToFix.1 37 = .ok (.invokevirtual 99, 3) := by decide +kernel
theorem d_Tk_followCourseToFix_40 : decode qC_Tk_followCourseToFix.1 40 = .ok (.istore 4, 2) := by decide +kernel
theorem d_Tk_followCourseToFix_42 : decode qC_Tk_followCourseToFix.1 42 = .ok (.aload_n 0, 1) := by decide +kernel
theorem d_Tk_followCourseToFix_43 : decode qC_Tk_followCourseToFix.1 43 = .ok (.getfield 37, 3) := by decide +kernel
theorem d_Tk_followCourseToFix_46 : decode qC_Tk_followCourseToFix.1 46 = .ok (.iload_n 1, 1) := by decide +kernel
theorem d_Tk_followCourseToFix_47 : decode qC_Tk_followCourseToFix.1 47 = .ok (.iconst 1, 1) := by decide +kernel
theorem d_Tk_followCourseToFix_48 : decode qC_Tk_followCourseToFix.1 48 = .ok (.isub, 1) := by decide +kernel
theorem d_Tk_followCourseToFix_49 : decode qC_Tk_followCourseToFix.1 49 = .ok (.invokevirtual 72, 3) := by decide +kernel
theorem d_Tk_followCourseToFix_52 : decode qC_Tk_followCourseToFix.1 52 = .ok (.iconst 5, 1) := by decide +kernel
theorem d_Tk_followCourseToFix_53 : decode qC_Tk_followCourseToFix.1 53 = .ok (.if_icmp .ne 29, 3) := by decide +kernel
theorem d_Tk_followCourseToFix_56 : decode qC_Tk_followCourseToFix.1 56 = .ok (.aload_n 0, 1) := by decide +kernel
theorem d_Tk_followCourseToFix_57 : decode qC_Tk_followCourseToFix.1 57 = .ok (.iload_n 1, 1) := by decide +kernel
theorem d_Tk_followCourseToFix_58 : decode qC_Tk_followCourseToFix.1 58 = .ok (.iload_n 3, 1) := by decide +kernel
theorem d_Tk_followCourseToFix_59 : decode qC_Tk_followCourseToFix.1 59 = .ok (.iload 4, 2) := by decide +kernel
theorem d_Tk_followCourseToFix_61 : decode qC_Tk_followCourseToFix.1 61 = .ok (.aload_n 0, 1) := by decide +kernel
theorem d_Tk_followCourseToFix_62 : decode qC_Tk_followCourseToFix.1 62 = .ok (.getfield 15, 3) := by decide +kernel
theorem d_Tk_followCourseToFix_65 : decode qC_Tk_followCourseToFix.1 65 = .ok (.aload_n 0, 1) := by decide +kernel
theorem d_Tk_followCourseToFix_66 : decode qC_Tk_followCourseToFix.1 66 = .ok (.getfield 18, 3) := by decide +kernel
theorem d_Tk_followCourseToFix_69 : decode qC_Tk_followCourseToFix.1 69 = .ok (.iload_n 3, 1) := by decide +kernel
theorem d_Tk_followCourseToFix_70 : decode qC_Tk_followCourseToFix.1 70 = .ok (.iload 4, 2) := by decide +kernel
theorem d_Tk_followCourseToFix_72 : decode qC_Tk_followCourseToFix.1 72 = .ok (.invokestatic 115, 3) := by decide +kernel
theorem d_Tk_followCourseToFix_75 : decode qC_Tk_followCourseToFix.1 75 = .ok (.iload_n 2, 1) := by decide +kernel
theorem d_Tk_followCourseToFix_76 : decode qC_Tk_followCourseToFix.1 76 = .ok (.invokevirtual 121, 3) := by decide +kernel
theorem d_Tk_followCourseToFix_79 : decode qC_Tk_followCourseToFix.1 79 = .ok (.goto 40, 3) := by decide +kernel
theorem d_Tk_followCourseToFix_82 : decode qC_Tk_followCourseToFix.1 82 = .ok (.aload_n 0, 1) := by decide +kernel
theorem d_Tk_followCourseToFix_83 : decode qC_Tk_followCourseToFix.1 83 = .ok (.iload_n 1, 1) := by decide +kernel
theorem d_Tk_followCourseToFix_84 : decode qC_Tk_followCourseToFix.1 84 = .ok (.iload_n 3, 1) := by decide +kernel
theorem d_Tk_followCourseToFix_85 : decode qC_Tk_followCourseToFix.1 85 = .ok (.iload_n 2, 1) := by decide +kernel
theorem d_Tk_followCourseToFix_86 : decode qC_Tk_followCourseToFix.1 86 = .ok (.bipush 12, 2) := by decide +kernel
theorem d_Tk_followCourseToFix_88 : decode qC_Tk_followCourseToFix.1 88 = .ok (.iadd, 1) := by decide +kernel
theorem d_Tk_followCourseToFix_89 : decode qC_Tk_followCourseToFix.1 89 = .ok (.bipush 50, 2) := by decide +kernel
theorem d_Tk_followCourseToFix_91 : decode qC_Tk_followCourseToFix.1 91 = .ok (.invokestatic 125, 3) := by decide +kernel
theorem d_Tk_followCourseToFix_94 : decode qC_Tk_followCourseToFix.1 94 = .ok (.iload 4, 2) := by decide +kernel
theorem d_Tk_followCourseToFix_96 : decode qC_Tk_followCourseToFix.1 96 = .ok (.iload_n 2, 1) := by decide +kernel
theorem d_Tk_followCourseToFix_97 : decode qC_Tk_followCourseToFix.1 97 = .ok (.bipush 12, 2) := by decide +kernel
theorem d_Tk_followCourseToFix_99 : decode qC_Tk_followCourseToFix.1 99 = .ok (.iadd, 1) := by decide +kernel
theorem d_Tk_followCourseToFix_100 : decode qC_Tk_followCourseToFix.1 100 = .ok (.bipush 50, 2) := by decide +kernel
theorem d_Tk_followCourseToFix_102 : decode qC_Tk_followCourseToFix.1 102 = .ok (.invokestatic 129, 3) := by decide +kernel
theorem d_Tk_followCourseToFix_105 : decode qC_Tk_followCourseToFix.1 105 = .ok (.invokevirtual 103, 3) := by decide +kernel
theorem d_Tk_followCourseToFix_108 : decode qC_Tk_followCourseToFix.1 108 = .ok (.aload_n 0, 1) := by decide +kernel
theorem d_Tk_followCourseToFix_109 : decode qC_Tk_followCourseToFix.1 109 = .ok (.iload_n 1, 1) := by decide +kernel
theorem d_Tk_followCourseToFix_110 : decode qC_Tk_followCourseToFix.1 110 = .ok (.iload_n 3, 1) := by decide +kernel
theorem d_Tk_followCourseToFix_111 : decode qC_Tk_followCourseToFix.1 111 = .ok (.iload 4, 2) := by decide +kernel
theorem d_Tk_followCourseToFix_113 : decode qC_Tk_followCourseToFix.1 113 = .ok (.bipush 50, 2) := by decide +kernel
theorem d_Tk_followCourseToFix_115 : decode qC_Tk_followCourseToFix.1 115 = .ok (.iload_n 2, 1) := by decide +kernel
theorem d_Tk_followCourseToFix_116 : decode qC_Tk_followCourseToFix.1 116 = .ok (.invokevirtual 121, 3) := by decide +kernel
theorem d_Tk_followCourseToFix_119 : decode qC_Tk_followCourseToFix.1 119 = .ok (.aload_n 0, 1) := by decide +kernel
theorem d_Tk_followCourseToFix_120 : decode qC_Tk_followCourseToFix.1 120 = .ok (.iload_n 1, 1) := by decide +kernel
theorem d_Tk_followCourseToFix_121 : decode qC_Tk_followCourseToFix.1 121 = .ok (.invokevirtual 106, 3) := by decide +kernel
theorem d_Tk_followCourseToFix_124 : decode qC_Tk_followCourseToFix.1 124 = .ok (.return_, 1) := by decide +kernel
set_option maxRecDepth 100000 in
def f_Tk_followCourseToFix (σ : St) (o : Nat) (p1 : Int32) : Option (St) :=
  Option.bind (f_Tb_get σ (rc (rc o 0) 0) p1 (2 : Int32)) fun x1 =>
  Option.bind (f_Tb_get σ (rc (rc o 0) 0) p1 (7 : Int32)) fun x2 =>
  Option.bind (f_Tb_get σ (rc (rc o 0) 0) p1 (8 : Int32)) fun x3 =>
  Option.bind (f_Pl_kind σ (rc o 0) (p1 - (1 : Int32))) fun x4 =>
  Jn (fun (σ5 : St) =>
  Option.bind (f_Tk_endHere σ5 o p1) fun x7 =>
  some x7
  ) fun J6 =>
  if (x4 : Int32) = (5 : Int32) then (
  Option.bind (f_Cm_distance (σ o 5) (σ o 6) x2 x3) fun x12 =>
  Option.bind (f_Tk_addSegment σ o p1 x2 x3 x12 x1) fun x13 =>
  J6 x13
  ) else (
  Option.bind (f_Cm_pointX σ x2 (x1 + (12 : Int32)) (50 : Int32)) fun x8 =>
  Option.bind (f_Cm_pointY σ x3 (x1 + (12 : Int32)) (50 : Int32)) fun x9 =>
  Option.bind (f_Tk_runTo σ o p1 x8 x9) fun x10 =>
  Option.bind (f_Tk_addSegment x10 o p1 x2 x3 (50 : Int32) x1) fun x11 =>
  J6 x11
  )
set_option maxHeartbeats 4000000 in
set_option maxRecDepth 100000 in
theorem cC_Tk_followCourseToFix (l : Launch) (g : Ge) (hi : injB wC.2 g) (σ : St) (o : Nat) (ho : wC.2.2.1 o = .inr (9, 12)) (p1 : Int32) (x : St) (h : f_Tk_followCourseToFix σ o p1 = some x) : Ct l wC g yC_Tk_followCourseToFix qC_Tk_followCourseToFix 3 78 [.ref (g.1 o), .int p1] σ (none, x) := by
  refine Ct.of (out := o_v) FC_Tk_followCourseToFix rfl hi rfl h (fun z hz C => ?_)
  clear h
  subst hz
  unfold f_Tk_followCourseToFix
  show Rt z qC_Tk_followCourseToFix wC g o_v 0 [(0, .ref (g.1 o)), (1, .int p1)] [] σ _
  refine q_aload_n (pc' := 1) C 0 d_Tk_followCourseToFix_0 rfl rfl ?_
  refine gC_Tk_37 (pc' := 4) C o (rc o 0) ho (ly_9_0 ho).1 d_Tk_followCourseToFix_1 rfl rfl ?_
  refine gC_Tk_98 (pc' := 7) C (rc o 0) (rc (rc o 0) 0) (ly_9_0 ho).2 (ly_3_0 (ly_9_0 ho).2).1 d_Tk_followCourseToFix_4 rfl rfl ?_
  refine q_iload_n (pc' := 8) C 1 d_Tk_followCourseToFix_7 rfl rfl ?_
  refine q_iconst (pc' := 9) C d_Tk_followCourseToFix_8 ki_2 rfl ?_
  refine q_callVr (fr' := 0) (lo' := 0) (pc' := 12) C FC_Tb_get lmC_Tk_99 d_Tk_followCourseToFix_9 (rc (rc o 0) 0) (jCo (ly_3_0 (ly_9_0 ho).2).2) (ly_3_0 (ly_9_0 ho).2).2 cC_8 [.int p1, .int (2 : Int32)] [] rfl rfl (Nat.le_of_ble_eq_true rfl) ⟨rfl, rfl⟩ (fun x h => cC_Tb_get _ g hi σ (rc (rc o 0) 0) (ly_3_0 (ly_9_0 ho).2).2 p1 (2 : Int32) x h) rfl (fun x1 hx1 => ?_)
  refine q_istore_n (pc' := 13) (lv' := [(2, .int x1), (0, .ref (g.1 o)), (1, .int p1)]) C d_Tk_followCourseToFix_12 (by decide) rfl rfl ?_
  refine q_aload_n (pc' := 14) C 1 d_Tk_followCourseToFix_13 rfl rfl ?_
  refine gC_Tk_37 (pc' := 17) C o (rc o 0) ho (ly_9_0 ho).1 d_Tk_followCourseToFix_14 rfl rfl ?_
  refine gC_Tk_98 (pc' := 20) C (rc o 0) (rc (rc o 0) 0) (ly_9_0 ho).2 (ly_3_0 (ly_9_0 ho).2).1 d_Tk_followCourseToFix_17 rfl rfl ?_
  refine q_iload_n (pc' := 21) C 2 d_Tk_followCourseToFix_20 rfl rfl ?_
  refine q_bipush (pc' := 23) C d_Tk_followCourseToFix_21 kb_7 rfl ?_
  refine q_callVr (fr' := 0) (lo' := 0) (pc' := 26) C FC_Tb_get lmC_Tk_99 d_Tk_followCourseToFix_23 (rc (rc o 0) 0) (jCo (ly_3_0 (ly_9_0 ho).2).2) (ly_3_0 (ly_9_0 ho).2).2 cC_8 [.int p1, .int (7 : Int32)] [] rfl rfl (Nat.le_of_ble_eq_true rfl) ⟨rfl, rfl⟩ (fun x h => cC_Tb_get _ g hi σ (rc (rc o 0) 0) (ly_3_0 (ly_9_0 ho).2).2 p1 (7 : Int32) x h) rfl (fun x2 hx2 => ?_)
  refine q_istore_n (pc' := 27) (lv' := [(3, .int x2), (2, .int x1), (0, .ref (g.1 o)), (1, .int p1)]) C d_Tk_followCourseToFix_26 (by decide) rfl rfl ?_
  refine q_aload_n (pc' := 28) C 2 d_Tk_followCourseToFix_27 rfl rfl ?_
  refine gC_Tk_37 (pc' := 31) C o (rc o 0) ho (ly_9_0 ho).1 d_Tk_followCourseToFix_28 rfl rfl ?_
  refine gC_Tk_98 (pc' := 34) C (rc o 0) (rc (rc o 0) 0) (ly_9_0 ho).2 (ly_3_0 (ly_9_0 ho).2).1 d_Tk_followCourseToFix_31 rfl rfl ?_
  refine q_iload_n (pc' := 35) C 3 d_Tk_followCourseToFix_34 rfl rfl ?_
  refine q_bipush (pc' := 37) C d_Tk_followCourseToFix_35 kb_8 rfl ?_
  refine q_callVr (fr' := 0) (lo' := 0) (pc' := 40) C FC_Tb_get lmC_Tk_99 d_Tk_followCourseToFix_37 (rc (rc o 0) 0) (jCo (ly_3_0 (ly_9_0 ho).2).2) (ly_3_0 (ly_9_0 ho).2).2 cC_8 [.int p1, .int (8 : Int32)] [] rfl rfl (Nat.le_of_ble_eq_true rfl) ⟨rfl, rfl⟩ (fun x h => cC_Tb_get _ g hi σ (rc (rc o 0) 0) (ly_3_0 (ly_9_0 ho).2).2 p1 (8 : Int32) x h) rfl (fun x3 hx3 => ?_)
  refine q_istore (pc' := 42) (lv' := [(4, .int x3), (3, .int x2), (2, .int x1), (0, .ref (g.1 o)), (1, .int p1)]) C d_Tk_followCourseToFix_40 (by decide) rfl rfl ?_
  refine q_aload_n (pc' := 43) C 3 d_Tk_followCourseToFix_42 rfl rfl ?_
  refine gC_Tk_37 (pc' := 46) C o (rc o 0) ho (ly_9_0 ho).1 d_Tk_followCourseToFix_43 rfl rfl ?_
  refine q_iload_n (pc' := 47) C 4 d_Tk_followCourseToFix_46 rfl rfl ?_
  refine q_iconst (pc' := 48) C d_Tk_followCourseToFix_47 ki_1 rfl ?_
  refine q_isub (pc' := 49) C d_Tk_followCourseToFix_48 rfl ?_
  refine q_callVr (fr' := 1) (lo' := 22) (pc' := 52) C FC_Pl_kind lmC_Tk_72 d_Tk_followCourseToFix_49 (rc o 0) (jCo (ly_9_0 ho).2) (ly_9_0 ho).2 cC_3 [.int (p1 - (1 : Int32))] [] rfl rfl (Nat.le_of_ble_eq_true rfl) ⟨rfl, rfl⟩ (fun x h => cC_Pl_kind _ g hi σ (rc o 0) (ly_9_0 ho).2 (p1 - (1 : Int32)) x h) rfl (fun x4 hx4 => ?_)
  refine q_iconst (pc' := 53) C d_Tk_followCourseToFix_52 ki_5 rfl ?_
  refine q_join (fun J6 : St → Option (St) => ∀ (σ5 : St), Rt z qC_Tk_followCourseToFix wC g o_v 119 [(0, .ref (g.1 o)), (1, .int p1)] [] σ5 (J6 σ5)) (fun σ5 => ?_) (fun J6 hJ6 => ?_)
  · refine q_aload_n (pc' := 120) C 0 d_Tk_followCourseToFix_119 rfl rfl ?_
    refine q_iload_n (pc' := 121) C 1 d_Tk_followCourseToFix_120 rfl rfl ?_
    refine q_callVv (fr' := 1) (lo' := 23) (pc' := 124) C FC_Tk_endHere lmC_Tk_106 d_Tk_followCourseToFix_121 o (jCo ho) ho cC_9 [.int p1] [] rfl rfl (Nat.le_of_ble_eq_true rfl) ⟨rfl, rfl⟩ (fun x h => cC_Tk_endHere _ g hi σ5 o ho p1 x h) rfl (fun x7 hx7 => ?_)
    exact q_vret C rfl d_Tk_followCourseToFix_124 rfl
  refine q_icmp_ne (tgt := 82) (pc' := 56) C d_Tk_followCourseToFix_53 rfl rfl ?_ ?_
  · refine q_aload_n (pc' := 83) C 3 d_Tk_followCourseToFix_82 rfl rfl ?_
    refine q_iload_n (pc' := 84) C 4 d_Tk_followCourseToFix_83 rfl rfl ?_
    refine q_iload_n (pc' := 85) C 1 d_Tk_followCourseToFix_84 rfl rfl ?_
    refine q_iload_n (pc' := 86) C 2 d_Tk_followCourseToFix_85 rfl rfl ?_
    refine q_bipush (pc' := 88) C d_Tk_followCourseToFix_86 kb_12 rfl ?_
    refine q_iadd (pc' := 89) C d_Tk_followCourseToFix_88 rfl ?_
    refine q_bipush (pc' := 91) C d_Tk_followCourseToFix_89 kb_50 rfl ?_
    refine q_callSr (fr' := 1) (lo' := 20) (pc' := 94) C FC_Cm_pointX lmC_Tk_125 d_Tk_followCourseToFix_91 [.int x2, .int (x1 + (12 : Int32)), .int (50 : Int32)] [.int p1, .ref (g.1 o)] rfl rfl (Nat.le_of_ble_eq_true rfl) ⟨rfl, rfl⟩ (fun x h => cC_Cm_pointX _ g hi σ x2 (x1 + (12 : Int32)) (50 : Int32) x h) rfl (fun x8 hx8 => ?_)
    refine q_iload (pc' := 96) C 0 d_Tk_followCourseToFix_94 rfl rfl ?_
    refine q_iload_n (pc' := 97) C 2 d_Tk_followCourseToFix_96 rfl rfl ?_
    refine q_bipush (pc' := 99) C d_Tk_followCourseToFix_97 kb_12 rfl ?_
    refine q_iadd (pc' := 100) C d_Tk_followCourseToFix_99 rfl ?_
    refine q_bipush (pc' := 102) C d_Tk_followCourseToFix_100 kb_50 rfl ?_
    refine q_callSr (fr' := 1) (lo' := 20) (pc' := 105) C FC_Cm_pointY lmC_Tk_129 d_Tk_followCourseToFix_102 [.int x3, .int (x1 + (12 : Int32)), .int (50 : Int32)] [.int x8, .int p1, .ref (g.1 o)] rfl rfl (Nat.le_of_ble_eq_true rfl) ⟨rfl, rfl⟩ (fun x h => cC_Cm_pointY _ g hi σ x3 (x1 + (12 : Int32)) (50 : Int32) x h) rfl (fun x9 hx9 => ?_)
    refine q_callVv (fr' := 2) (lo' := 54) (pc' := 108) C FC_Tk_runTo lmC_Tk_103 d_Tk_followCourseToFix_105 o (jCo ho) ho cC_9 [.int p1, .int x8, .int x9] [] rfl rfl (Nat.le_of_ble_eq_true rfl) ⟨rfl, rfl⟩ (fun x h => cC_Tk_runTo _ g hi σ o ho p1 x8 x9 x h) rfl (fun x10 hx10 => ?_)
    refine q_aload_n (pc' := 109) C 3 d_Tk_followCourseToFix_108 rfl rfl ?_
    refine q_iload_n (pc' := 110) C 4 d_Tk_followCourseToFix_109 rfl rfl ?_
    refine q_iload_n (pc' := 111) C 1 d_Tk_followCourseToFix_110 rfl rfl ?_
    refine q_iload (pc' := 113) C 0 d_Tk_followCourseToFix_111 rfl rfl ?_
    refine q_bipush (pc' := 115) C d_Tk_followCourseToFix_113 kb_50 rfl ?_
    refine q_iload_n (pc' := 116) C 2 d_Tk_followCourseToFix_115 rfl rfl ?_
    refine q_callVv (fr' := 1) (lo' := 23) (pc' := 119) C FC_Tk_addSegment lmC_Tk_121 d_Tk_followCourseToFix_116 o (jCo ho) ho cC_9 [.int p1, .int x2, .int x3, .int (50 : Int32), .int x1] [] rfl rfl (Nat.le_of_ble_eq_true rfl) ⟨rfl, rfl⟩ (fun x h => cC_Tk_addSegment _ g hi x10 o ho p1 x2 x3 (50 : Int32) x1 x h) rfl (fun x11 hx11 => ?_)
    exact Rt.sub [3, 4] rfl (hJ6 x11)
  · refine q_aload_n (pc' := 57) C 3 d_Tk_followCourseToFix_56 rfl rfl ?_
    refine q_iload_n (pc' := 58) C 4 d_Tk_followCourseToFix_57 rfl rfl ?_
    refine q_iload_n (pc' := 59) C 1 d_Tk_followCourseToFix_58 rfl rfl ?_
    refine q_iload (pc' := 61) C 0 d_Tk_followCourseToFix_59 rfl rfl ?_
    refine q_aload_n (pc' := 62) C 3 d_Tk_followCourseToFix_61 rfl rfl ?_
    refine gC_Tk_15 (pc' := 65) C o ho d_Tk_followCourseToFix_62 rfl rfl ?_
    refine q_aload_n (pc' := 66) C 3 d_Tk_followCourseToFix_65 rfl rfl ?_
    refine gC_Tk_18 (pc' := 69) C o ho d_Tk_followCourseToFix_66 rfl rfl ?_
    refine q_iload_n (pc' := 70) C 1 d_Tk_followCourseToFix_69 rfl rfl ?_
    refine q_iload (pc' := 72) C 0 d_Tk_followCourseToFix_70 rfl rfl ?_
    refine q_callSr (fr' := 1) (lo' := 27) (pc' := 75) C FC_Cm_distance lmC_Tk_115 d_Tk_followCourseToFix_72 [.int (σ o 5), .int (σ o 6), .int x2, .int x3] [.int x3, .int x2, .int p1, .ref (g.1 o)] rfl rfl (Nat.le_of_ble_eq_true rfl) ⟨rfl, rfl⟩ (fun x h => cC_Cm_distance _ g hi σ (σ o 5) (σ o 6) x2 x3 x h) rfl (fun x12 hx12 => ?_)
    refine q_iload_n (pc' := 76) C 2 d_Tk_followCourseToFix_75 rfl rfl ?_
    refine q_callVv (fr' := 1) (lo' := 23) (pc' := 79) C FC_Tk_addSegment lmC_Tk_121 d_Tk_followCourseToFix_76 o (jCo ho) ho cC_9 [.int p1, .int x2, .int x3, .int x12, .int x1] [] rfl rfl (Nat.le_of_ble_eq_true rfl) ⟨rfl, rfl⟩ (fun x h => cC_Tk_addSegment _ g hi σ o ho p1 x2 x3 x12 x1 x h) rfl (fun x13 hx13 => ?_)
    refine q_goto (tgt := 119) C d_Tk_followCourseToFix_79 rfl ?_
    exact Rt.sub [3, 4] rfl (hJ6 x13)
theorem d_Sg_lengthFor_0 : decode qC_Sg_lengthFor.1 0 = .ok (.iload_n 1, 1) := by decide +kernel
theorem d_Sg_lengthFor_1 : decode qC_Sg_lengthFor.1 1 = .ok (.ifCond .ne 7, 3) := by decide +kernel
theorem d_Sg_lengthFor_4 : decode qC_Sg_lengthFor.1 4 = .ok (.iconst 0, 1) := by decide +kernel
theorem d_Sg_lengthFor_5 : decode qC_Sg_lengthFor.1 5 = .ok (.goto 10, 3) := by decide +kernel
theorem d_Sg_lengthFor_8 : decode qC_Sg_lengthFor.1 8 = .ok (.iload_n 0, 1) := by decide +kernel
theorem d_Sg_lengthFor_9 : decode qC_Sg_lengthFor.1 9 = .ok (.sipush 1000, 3) := by decide +kernel
theorem d_Sg_lengthFor_12 : decode qC_Sg_lengthFor.1 12 = .ok (.imul, 1) := by decide +kernel
theorem d_Sg_lengthFor_13 : decode qC_Sg_lengthFor.1 13 = .ok (.iload_n 1, 1) := by decide +kernel
theorem d_Sg_lengthFor_14 : decode qC_Sg_lengthFor.1 14 = .ok (.idiv, 1) := by decide +kernel
theorem d_Sg_lengthFor_15 : decode qC_Sg_lengthFor.1 15 = .ok (.ireturn, 1) := by decide +kernel
set_option maxRecDepth 100000 in
def f_Sg_lengthFor (p0 : Int32) (p1 : Int32) : Option (Int32) :=
  Jn (fun (x1 : Int32) =>
  some x1
  ) fun J2 =>
  if (p1 : Int32) = 0 then (
  J2 (0 : Int32)
  ) else (
  Gd (¬ (p1 : Int32) = 0) <|
  J2 ((p0 * (1000 : Int32)) / p1)
  )
set_option maxHeartbeats 4000000 in
set_option maxRecDepth 100000 in
theorem cC_Sg_lengthFor (l : Launch) (g : Ge) (hi : injB wC.2 g) (σ : St) (p0 : Int32) (p1 : Int32) (x : Int32) (h : f_Sg_lengthFor p0 p1 = some x) : Ct l wC g yC_Sg_lengthFor qC_Sg_lengthFor 0 0 [.int p0, .int p1] σ (some (.int x), σ) := by
  refine Ct.of (out := (o_r σ)) FC_Sg_lengthFor rfl hi rfl h (fun z hz C => ?_)
  clear h
  subst hz
  unfold f_Sg_lengthFor
  show Rt z qC_Sg_lengthFor wC g (o_r σ) 0 [(0, .int p0), (1, .int p1)] [] σ _
  refine q_iload_n (pc' := 1) C 1 d_Sg_lengthFor_0 rfl rfl ?_
  refine q_join (fun J2 : Int32 → Option (Int32) => ∀ (x1 : Int32), Rt z qC_Sg_lengthFor wC g (o_r σ) 15 [] [.int x1] σ (J2 x1)) (fun x1 => ?_) (fun J2 hJ2 => ?_)
  · exact q_iret C rfl d_Sg_lengthFor_15 rfl
  refine q_if_ne (tgt := 8) (pc' := 4) C d_Sg_lengthFor_1 rfl rfl ?_ ?_
  · refine q_iload_n (pc' := 9) C 0 d_Sg_lengthFor_8 rfl rfl ?_
    refine q_sipush (pc' := 12) C d_Sg_lengthFor_9 ks_1000 rfl ?_
    refine q_imul (pc' := 13) C d_Sg_lengthFor_12 rfl ?_
    refine q_iload_n (pc' := 14) C 1 d_Sg_lengthFor_13 rfl rfl ?_
    refine q_guard (fun gx3 => ?_)
    refine q_idiv (pc' := 15) C gx3 d_Sg_lengthFor_14 rfl ?_
    exact Rt.sub [] rfl (hJ2 ((p0 * (1000 : Int32)) / p1))
  · refine q_iconst (pc' := 5) C d_Sg_lengthFor_4 ki_0 rfl ?_
    refine q_goto (tgt := 15) C d_Sg_lengthFor_5 rfl ?_
    exact Rt.sub [] rfl (hJ2 (0 : Int32))
theorem d_Tk_runOn_0 : decode qC_Tk_runOn.1 0 = .ok (.aload_n 0, 1) := by decide +kernel
theorem d_Tk_runOn_1 : decode qC_Tk_runOn.1 1 = .ok (.getfield 37, 3) := by decide +kernel
theorem d_Tk_runOn_4 : decode qC_Tk_runOn.1 4 = .ok (.getfield 98, 3) := by decide +kernel
theorem d_Tk_runOn_7 : decode qC_Tk_runOn.1 7 = .ok (.iload_n 1, 1) := by decide +kernel
theorem d_Tk_runOn_8 : decode qC_Tk_runOn.1 8 = .ok (.iconst 2, 1) := by decide +kernel
theorem d_Tk_runOn_9 : decode qC_Tk_runOn.1 9 = .ok (.invokevirtual 99, 3) := by decide +kernel
theorem d_Tk_runOn_12 : decode qC_Tk_runOn.1 12 = .ok (.istore_n 3, 1) := by decide +kernel
theorem d_Tk_runOn_13 : decode qC_Tk_runOn.1 13 = .ok (.aload_n 0, 1) := by decide +kernel
theorem d_Tk_runOn_14 : decode qC_Tk_runOn.1 14 = .ok (.iload_n 1, 1) := by decide +kernel
theorem d_Tk_runOn_15 : decode qC_Tk_runOn.1 15 = .ok (.aload_n 0, 1) := by decide +kernel
theorem d_Tk_runOn_16 : decode qC_Tk_runOn.1 16 = .ok (.getfield 15, 3) := by decide +kernel
theorem d_Tk_runOn_19 : decode qC_Tk_runOn.1 19 = .ok (.iload_n 3, 1) := by decide +kernel
theorem d_Tk_runOn_20 : decode qC_Tk_runOn.1 20 = .ok (.iload_n 2, 1) := by decide +kernel
theorem d_Tk_runOn_21 : decode qC_Tk_runOn.1 21 = .ok (.invokestatic 125, 3) := by decide +kernel
theorem d_Tk_runOn_24 : decode qC_Tk_runOn.1 24 = .ok (.aload_n 0, 1) := by decide +kernel
theorem d_Tk_runOn_25 : decode qC_Tk_runOn.1 25 = .ok (.getfield 18, 3) := by decide +kernel
theorem d_Tk_runOn_28 : decode qC_Tk_runOn.1 28 = .ok (.iload_n 3, 1) := by decide +kernel
theorem d_Tk_runOn_29 : decode qC_Tk_runOn.1 29 = .ok (.iload_n 2, 1) := by decide +kernel
theorem d_Tk_runOn_30 : decode qC_Tk_runOn.1 30 = .ok (.invokestatic 129, 3) := by decide +kernel
theorem d_Tk_runOn_33 : decode qC_Tk_runOn.1 33 = .ok (.iload_n 2, 1) := by decide +kernel
theorem d_Tk_runOn_34 : decode qC_Tk_runOn.1 34 = .ok (.iload_n 3, 1) := by decide +kernel
theorem d_Tk_runOn_35 : decode qC_Tk_runOn.1 35 = .ok (.invokevirtual 121, 3) := by decide +kernel
theorem d_Tk_runOn_38 : decode qC_Tk_runOn.1 38 = .ok (.return_, 1) := by decide +kernel
set_option maxRecDepth 100000 in
def f_Tk_runOn (σ : St) (o : Nat) (p1 : Int32) (p2 : Int32) : Option (St) :=
  Option.bind (f_Tb_get σ (rc (rc o 0) 0) p1 (2 : Int32)) fun x1 =>
  Option.bind (f_Cm_pointX σ (σ o 5) x1 p2) fun x2 =>
  Option.bind (f_Cm_pointY σ (σ o 6) x1 p2) fun x3 =>
  Option.bind (f_Tk_addSegment σ o p1 x2 x3 p2 x1) fun x4 =>
  some x4
set_option maxHeartbeats 4000000 in
set_option maxRecDepth 100000 in
theorem cC_Tk_runOn (l : Launch) (g : Ge) (hi : injB wC.2 g) (σ : St) (o : Nat) (ho : wC.2.2.1 o = .inr (9, 12)) (p1 : Int32) (p2 : Int32) (x : St) (h : f_Tk_runOn σ o p1 p2 = some x) : Ct l wC g yC_Tk_runOn qC_Tk_runOn 2 48 [.ref (g.1 o), .int p1, .int p2] σ (none, x) := by
  refine Ct.of (out := o_v) FC_Tk_runOn rfl hi rfl h (fun z hz C => ?_)
  clear h
  subst hz
  unfold f_Tk_runOn
  show Rt z qC_Tk_runOn wC g o_v 0 [(0, .ref (g.1 o)), (1, .int p1), (2, .int p2)] [] σ _
  refine q_aload_n (pc' := 1) C 0 d_Tk_runOn_0 rfl rfl ?_
  refine gC_Tk_37 (pc' := 4) C o (rc o 0) ho (ly_9_0 ho).1 d_Tk_runOn_1 rfl rfl ?_
  refine gC_Tk_98 (pc' := 7) C (rc o 0) (rc (rc o 0) 0) (ly_9_0 ho).2 (ly_3_0 (ly_9_0 ho).2).1 d_Tk_runOn_4 rfl rfl ?_
  refine q_iload_n (pc' := 8) C 1 d_Tk_runOn_7 rfl rfl ?_
  refine q_iconst (pc' := 9) C d_Tk_runOn_8 ki_2 rfl ?_
  refine q_callVr (fr' := 0) (lo' := 0) (pc' := 12) C FC_Tb_get lmC_Tk_99 d_Tk_runOn_9 (rc (rc o 0) 0) (jCo (ly_3_0 (ly_9_0 ho).2).2) (ly_3_0 (ly_9_0 ho).2).2 cC_8 [.int p1, .int (2 : Int32)] [] rfl rfl (Nat.le_of_ble_eq_true rfl) ⟨rfl, rfl⟩ (fun x h => cC_Tb_get _ g hi σ (rc (rc o 0) 0) (ly_3_0 (ly_9_0 ho).2).2 p1 (2 : Int32) x h) rfl (fun x1 hx1 => ?_)
  refine q_istore_n (pc' := 13) (lv' := [(3, .int x1), (0, .ref (g.1 o)), (1, .int p1), (2, .int p2)]) C d_Tk_runOn_12 (by decide) rfl rfl ?_
  refine q_aload_n (pc' := 14) C 1 d_Tk_runOn_13 rfl rfl ?_
  refine q_iload_n (pc' := 15) C 2 d_Tk_runOn_14 rfl rfl ?_
  refine q_aload_n (pc' := 16) C 1 d_Tk_runOn_15 rfl rfl ?_
  refine gC_Tk_15 (pc' := 19) C o ho d_Tk_runOn_16 rfl rfl ?_
  refine q_iload_n (pc' := 20) C 0 d_Tk_runOn_19 rfl rfl ?_
  refine q_iload_n (pc' := 21) C 3 d_Tk_runOn_20 rfl rfl ?_
  refine q_callSr (fr' := 1) (lo' := 20) (pc' := 24) C FC_Cm_pointX lmC_Tk_125 d_Tk_runOn_21 [.int (σ o 5), .int x1, .int p2] [.int p1, .ref (g.1 o)] rfl rfl (Nat.le_of_ble_eq_true rfl) ⟨rfl, rfl⟩ (fun x h => cC_Cm_pointX _ g hi σ (σ o 5) x1 p2 x h) rfl (fun x2 hx2 => ?_)
  refine q_aload_n (pc' := 25) C 1 d_Tk_runOn_24 rfl rfl ?_
  refine gC_Tk_18 (pc' := 28) C o ho d_Tk_runOn_25 rfl rfl ?_
  refine q_iload_n (pc' := 29) C 0 d_Tk_runOn_28 rfl rfl ?_
  refine q_iload_n (pc' := 30) C 3 d_Tk_runOn_29 rfl rfl ?_
  refine q_callSr (fr' := 1) (lo' := 20) (pc' := 33) C FC_Cm_pointY lmC_Tk_129 d_Tk_runOn_30 [.int (σ o 6), .int x1, .int p2] [.int x2, .int p1, .ref (g.1 o)] rfl rfl (Nat.le_of_ble_eq_true rfl) ⟨rfl, rfl⟩ (fun x h => cC_Cm_pointY _ g hi σ (σ o 6) x1 p2 x h) rfl (fun x3 hx3 => ?_)
  refine q_iload_n (pc' := 34) C 3 d_Tk_runOn_33 rfl rfl ?_
  refine q_iload_n (pc' := 35) C 0 d_Tk_runOn_34 rfl rfl ?_
  refine q_callVv (fr' := 1) (lo' := 23) (pc' := 38) C FC_Tk_addSegment lmC_Tk_121 d_Tk_runOn_35 o (jCo ho) ho cC_9 [.int p1, .int x2, .int x3, .int p2, .int x1] [] rfl rfl (Nat.le_of_ble_eq_true rfl) ⟨rfl, rfl⟩ (fun x h => cC_Tk_addSegment _ g hi σ o ho p1 x2 x3 p2 x1 x h) rfl (fun x4 hx4 => ?_)
  exact q_vret C rfl d_Tk_runOn_38 rfl
theorem d_Tk_climbOnCourse_0 : decode qC_Tk_climbOnCourse.1 0 = .ok (.aload_n 0, 1) := by decide +kernel
theorem d_Tk_climbOnCourse_1 : decode qC_Tk_climbOnCourse.1 1 = .ok (.getfield 37, 3) := by decide +kernel
theorem d_Tk_climbOnCourse_4 : decode qC_Tk_climbOnCourse.1 4 = .ok (.getfield 98, 3) := by decide +kernel
theorem d_Tk_climbOnCourse_7 : decode qC_Tk_climbOnCourse.1 7 = .ok (.iload_n 1, 1) := by decide +kernel
theorem d_Tk_climbOnCourse_8 : decode qC_Tk_climbOnCourse.1 8 = .ok (.iconst 3, 1) := by decide +kernel
theorem d_Tk_climbOnCourse_9 : decode qC_Tk_climbOnCourse.1 9 = .ok (.invokevirtual 99, 3) := by decide +kernel
theorem d_Tk_climbOnCourse_12 : decode qC_Tk_climbOnCourse.1 12 = .ok (.aload_n 0, 1) := by decide +kernel
theorem d_Tk_climbOnCourse_13 : decode qC_Tk_climbOnCourse.1 13 = .ok (.getfield 34, 3) := by decide +kernel
theorem d_Tk_climbOnCourse_16 : decode qC_Tk_climbOnCourse.1 16 = .ok (.isub, 1) := by decide +kernel
theorem d_Tk_climbOnCourse_17 : decode qC_Tk_climbOnCourse.1 17 = .ok (.istore_n 2, 1) := by decide +kernel
theorem d_Tk_climbOnCourse_18 : decode qC_Tk_climbOnCourse.1 18 = .ok (.aload_n 0, 1) := by decide +kernel
theorem d_Tk_climbOnCourse_19 : decode qC_Tk_climbOnCourse.1 19 = .ok (.iload_n 1, 1) := by decide +kernel
theorem d_Tk_climbOnCourse_20 : decode qC_Tk_climbOnCourse.1 20 = .ok (.bipush 10, 2) := by decide +kernel
theorem d_Tk_climbOnCourse_22 : decode qC_Tk_climbOnCourse.1 22 = .ok (.iload_n 2, 1) := by decide +kernel
theorem d_Tk_climbOnCourse_23 : decode qC_Tk_climbOnCourse.1 23 = .ok (.aload_n 0, 1) := by decide +kernel
theorem d_Tk_climbOnCourse_24 : decode qC_Tk_climbOnCourse.1 24 = .ok (.getfield 41, 3) := by decide +kernel
theorem d_Tk_climbOnCourse_27 : decode qC_Tk_climbOnCourse.1 27 = .ok (.getfield 132, 3) := by decide +kernel
theorem d_Tk_climbOnCourse_30 : decode qC_Tk_climbOnCourse.1 30 = .ok (.invokestatic 135, 3) := by decide +kernel
theorem d_Tk_climbOnCourse_33 : decode qC_Tk_climbOnCourse.1 33 = .ok (.invokestatic 138, 3) := by decide +kernel
theorem d_Tk_climbOnCourse_36 : decode qC_Tk_climbOnCourse.1 36 = .ok (.invokevirtual 95, 3) := by decide +kernel
theorem d_Tk_climbOnCourse_39 : decode qC_Tk_climbOnCourse.1 39 = .ok (.aload_n 0, 1) := by decide +kernel
theorem d_Tk_climbOnCourse_40 : decode qC_Tk_climbOnCourse.1 40 = .ok (.iload_n 1, 1) := by decide +kernel
theorem d_Tk_climbOnCourse_41 : decode qC_Tk_climbOnCourse.1 41 = .ok (.invokevirtual 106, 3) := by decide +kernel
theorem d_Tk_climbOnCourse_44 : decode qC_Tk_climbOnCourse.1 44 = .ok (.return_, 1) := by decide +kernel
set_option maxRecDepth 100000 in
def f_Tk_climbOnCourse (σ : St) (o : Nat) (p1 : Int32) : Option (St) :=
  Option.bind (f_Tb_get σ (rc (rc o 0) 0) p1 (3 : Int32)) fun x1 =>
  Lt ((x1 - (σ o 11)) : Int32) fun x2 =>
  Option.bind (f_Sg_lengthFor x2 (σ (rc o 1) 6)) fun x3 =>
  Option.bind (f_Tk_runOn σ o p1 (imax (10 : Int32) x3)) fun x4 =>
  Option.bind (f_Tk_endHere x4 o p1) fun x5 =>
  some x5
set_option maxHeartbeats 4000000 in
set_option maxRecDepth 100000 in
theorem cC_Tk_climbOnCourse (l : Launch) (g : Ge) (hi : injB wC.2 g) (σ : St) (o : Nat) (ho : wC.2.2.1 o = .inr (9, 12)) (p1 : Int32) (x : St) (h : f_Tk_climbOnCourse σ o p1 = some x) : Ct l wC g yC_Tk_climbOnCourse qC_Tk_climbOnCourse 3 71 [.ref (g.1 o), .int p1] σ (none, x) := by
  refine Ct.of (out := o_v) FC_Tk_climbOnCourse rfl hi rfl h (fun z hz C => ?_)
  clear h
  subst hz
  unfold f_Tk_climbOnCourse
  show Rt z qC_Tk_climbOnCourse wC g o_v 0 [(0, .ref (g.1 o)), (1, .int p1)] [] σ _
  refine q_aload_n (pc' := 1) C 0 d_Tk_climbOnCourse_0 rfl rfl ?_
  refine gC_Tk_37 (pc' := 4) C o (rc o 0) ho (ly_9_0 ho).1 d_Tk_climbOnCourse_1 rfl rfl ?_
  refine gC_Tk_98 (pc' := 7) C (rc o 0) (rc (rc o 0) 0) (ly_9_0 ho).2 (ly_3_0 (ly_9_0 ho).2).1 d_Tk_climbOnCourse_4 rfl rfl ?_
  refine q_iload_n (pc' := 8) C 1 d_Tk_climbOnCourse_7 rfl rfl ?_
  refine q_iconst (pc' := 9) C d_Tk_climbOnCourse_8 ki_3 rfl ?_
  refine q_callVr (fr' := 0) (lo' := 0) (pc' := 12) C FC_Tb_get lmC_Tk_99 d_Tk_climbOnCourse_9 (rc (rc o 0) 0) (jCo (ly_3_0 (ly_9_0 ho).2).2) (ly_3_0 (ly_9_0 ho).2).2 cC_8 [.int p1, .int (3 : Int32)] [] rfl rfl (Nat.le_of_ble_eq_true rfl) ⟨rfl, rfl⟩ (fun x h => cC_Tb_get _ g hi σ (rc (rc o 0) 0) (ly_3_0 (ly_9_0 ho).2).2 p1 (3 : Int32) x h) rfl (fun x1 hx1 => ?_)
  refine q_aload_n (pc' := 13) C 0 d_Tk_climbOnCourse_12 rfl rfl ?_
  refine gC_Tk_34 (pc' := 16) C o ho d_Tk_climbOnCourse_13 rfl rfl ?_
  refine q_isub (pc' := 17) C d_Tk_climbOnCourse_16 rfl ?_
  refine q_let (fun x2 e2 => ?_)
  refine q_topi e2 ?_
  refine q_istore_n (pc' := 18) (lv' := [(2, .int x2), (0, .ref (g.1 o)), (1, .int p1)]) C d_Tk_climbOnCourse_17 (by decide) rfl rfl ?_
  refine q_aload_n (pc' := 19) C 1 d_Tk_climbOnCourse_18 rfl rfl ?_
  refine q_iload_n (pc' := 20) C 2 d_Tk_climbOnCourse_19 rfl rfl ?_
  refine q_bipush (pc' := 22) C d_Tk_climbOnCourse_20 kb_10 rfl ?_
  refine q_iload_n (pc' := 23) C 0 d_Tk_climbOnCourse_22 rfl rfl ?_
  refine q_aload_n (pc' := 24) C 1 d_Tk_climbOnCourse_23 rfl rfl ?_
  refine gC_Tk_41 (pc' := 27) C o (rc o 1) ho (ly_9_1 ho).1 d_Tk_climbOnCourse_24 rfl rfl ?_
  refine gC_Tk_132 (pc' := 30) C (rc o 1) (ly_9_1 ho).2 d_Tk_climbOnCourse_27 rfl rfl ?_
  refine q_callSr (fr' := 0) (lo' := 0) (pc' := 33) C FC_Sg_lengthFor lmC_Tk_135 d_Tk_climbOnCourse_30 [.int x2, .int (σ (rc o 1) 6)] [.int (10 : Int32), .int p1, .ref (g.1 o)] rfl rfl (Nat.le_of_ble_eq_true rfl) ⟨rfl, rfl⟩ (fun x h => cC_Sg_lengthFor _ g hi σ x2 (σ (rc o 1) 6) x h) rfl (fun x3 hx3 => ?_)
  refine q_mmax (pc' := 36) C lj_max_Tk_138 (Nat.le_of_ble_eq_true rfl) ⟨rfl, rfl⟩ d_Tk_climbOnCourse_33 rfl ?_
  refine q_callVv (fr' := 2) (lo' := 48) (pc' := 39) C FC_Tk_runOn lmC_Tk_95 d_Tk_climbOnCourse_36 o (jCo ho) ho cC_9 [.int p1, .int (imax (10 : Int32) x3)] [] rfl rfl (Nat.le_of_ble_eq_true rfl) ⟨rfl, rfl⟩ (fun x h => cC_Tk_runOn _ g hi σ o ho p1 (imax (10 : Int32) x3) x h) rfl (fun x4 hx4 => ?_)
  refine q_aload_n (pc' := 40) C 1 d_Tk_climbOnCourse_39 rfl rfl ?_
  refine q_iload_n (pc' := 41) C 2 d_Tk_climbOnCourse_40 rfl rfl ?_
  refine q_callVv (fr' := 1) (lo' := 23) (pc' := 44) C FC_Tk_endHere lmC_Tk_106 d_Tk_climbOnCourse_41 o (jCo ho) ho cC_9 [.int p1] [] rfl rfl (Nat.le_of_ble_eq_true rfl) ⟨rfl, rfl⟩ (fun x h => cC_Tk_endHere _ g hi x4 o ho p1 x h) rfl (fun x5 hx5 => ?_)
  exact q_vret C rfl d_Tk_climbOnCourse_44 rfl
theorem d_Pl_hasLeg_0 : decode qC_Pl_hasLeg.1 0 = .ok (.iload_n 1, 1) := by decide +kernel
theorem d_Pl_hasLeg_1 : decode qC_Pl_hasLeg.1 1 = .ok (.ifCond .lt 15, 3) := by decide +kernel
theorem d_Pl_hasLeg_4 : decode qC_Pl_hasLeg.1 4 = .ok (.iload_n 1, 1) := by decide +kernel
theorem d_Pl_hasLeg_5 : decode qC_Pl_hasLeg.1 5 = .ok (.aload_n 0, 1) := by decide +kernel
theorem d_Pl_hasLeg_6 : decode qC_Pl_hasLeg.1 6 = .ok (.getfield 9, 3) := by decide +kernel
theorem d_Pl_hasLeg_9 : decode qC_Pl_hasLeg.1 9 = .ok (.if_icmp .ge 7, 3) := by decide +kernel
theorem d_Pl_hasLeg_12 : decode qC_Pl_hasLeg.1 12 = .ok (.iconst 1, 1) := by decide +kernel
theorem d_Pl_hasLeg_13 : decode qC_Pl_hasLeg.1 13 = .ok (.goto 4, 3) := by decide +kernel
theorem d_Pl_hasLeg_16 : decode qC_Pl_hasLeg.1 16 = .ok (.iconst 0, 1) := by decide +kernel
theorem d_Pl_hasLeg_17 : decode qC_Pl_hasLeg.1 17 = .ok (.ireturn, 1) := by decide +kernel
set_option maxRecDepth 100000 in
def f_Pl_hasLeg (σ : St) (o : Nat) (p1 : Int32) : Option (Int32) :=
  Jn (fun (x1 : Int32) =>
  Gd ((x1 : Int32) &&& 1 = x1) <|
  some x1
  ) fun J2 =>
  Jn (fun (_ : Unit) =>
  J2 (0 : Int32)
  ) fun J4 =>
  if (p1 : Int32) < 0 then (
  J4 ()
  ) else (
  if ((σ o 1) : Int32) ≤ p1 then (
  J4 ()
  ) else (
  J2 (1 : Int32)
  )
  )
set_option maxHeartbeats 4000000 in
set_option maxRecDepth 100000 in
theorem cC_Pl_hasLeg (l : Launch) (g : Ge) (hi : injB wC.2 g) (σ : St) (o : Nat) (ho : wC.2.2.1 o = .inr (3, 4)) (p1 : Int32) (x : Int32) (h : f_Pl_hasLeg σ o p1 = some x) : Ct l wC g yC_Pl_hasLeg qC_Pl_hasLeg 0 0 [.ref (g.1 o), .int p1] σ (some (.int x), σ) := by
  refine Ct.of (out := (o_r σ)) FC_Pl_hasLeg rfl hi rfl h (fun z hz C => ?_)
  clear h
  subst hz
  unfold f_Pl_hasLeg
  show Rt z qC_Pl_hasLeg wC g (o_r σ) 0 [(0, .ref (g.1 o)), (1, .int p1)] [] σ _
  refine q_iload_n (pc' := 1) C 1 d_Pl_hasLeg_0 rfl rfl ?_
  refine q_join (fun J2 : Int32 → Option (Int32) => ∀ (x1 : Int32), Rt z qC_Pl_hasLeg wC g (o_r σ) 17 [] [.int x1] σ (J2 x1)) (fun x1 => ?_) (fun J2 hJ2 => ?_)
  · refine q_guard (fun gx3 => ?_)
    exact q_zret C rfl gx3 d_Pl_hasLeg_17 rfl
  refine q_join (fun J4 : Unit → Option (Int32) => ∀ (_ : Unit), Rt z qC_Pl_hasLeg wC g (o_r σ) 16 [] [] σ (J4 ())) (fun _ => ?_) (fun J4 hJ4 => ?_)
  · refine q_iconst (pc' := 17) C d_Pl_hasLeg_16 ki_0 rfl ?_
    exact Rt.sub [] rfl (hJ2 (0 : Int32))
  refine q_if_lt (tgt := 16) (pc' := 4) C d_Pl_hasLeg_1 rfl rfl ?_ ?_
  · exact Rt.sub [] rfl (hJ4 ())
  · refine q_iload_n (pc' := 5) C 1 d_Pl_hasLeg_4 rfl rfl ?_
    refine q_aload_n (pc' := 6) C 0 d_Pl_hasLeg_5 rfl rfl ?_
    refine gC_Pl_9 (pc' := 9) C o ho d_Pl_hasLeg_6 rfl rfl ?_
    refine q_icmp_ge (tgt := 16) (pc' := 12) C d_Pl_hasLeg_9 rfl rfl ?_ ?_
    · exact Rt.sub [] rfl (hJ4 ())
    · refine q_iconst (pc' := 13) C d_Pl_hasLeg_12 ki_1 rfl ?_
      refine q_goto (tgt := 17) C d_Pl_hasLeg_13 rfl ?_
      exact Rt.sub [] rfl (hJ2 (1 : Int32))
theorem d_Tk_interception_0 : decode qC_Tk_interception.1 0 = .ok (.iload_n 1, 1) := by decide +kernel
theorem d_Tk_interception_1 : decode qC_Tk_interception.1 1 = .ok (.iconst 1, 1) := by decide +kernel
theorem d_Tk_interception_2 : decode qC_Tk_interception.1 2 = .ok (.iadd, 1) := by decide +kernel
theorem d_Tk_interception_3 : decode qC_Tk_interception.1 3 = .ok (.istore_n 2, 1) := by decide +kernel
theorem d_Tk_interception_4 : decode qC_Tk_interception.1 4 = .ok (.aload_n 0, 1) := by decide +kernel
theorem d_Tk_interception_5 : decode qC_Tk_interception.1 5 = .ok (.getfield 37, 3) := by decide +kernel
theorem d_Tk_interception_8 : decode qC_Tk_interception.1 8 = .ok (.iload_n 2, 1) := by decide +kernel
theorem d_Tk_interception_9 : decode qC_Tk_interception.1 9 = .ok (.invokevirtual 146, 3) := by decide +kernel
theorem d_Tk_interception_12 : decode qC_Tk_interception.1 12 = .ok (.ifCond .eq 32, 3) := by decide +kernel
theorem d_Tk_interception_15 : decode qC_Tk_interception.1 15 = .ok (.aload_n 0, 1) := by decide +kernel
theorem d_Tk_interception_16 : decode qC_Tk_interception.1 16 = .ok (.getfield 37, 3) := by decide +kernel
theorem d_Tk_interception_19 : decode qC_Tk_interception.1 19 = .ok (.iload_n 2, 1) := by decide +kernel
theorem d_Tk_interception_20 : decode qC_Tk_interception.1 20 = .ok (.invokevirtual 72, 3) := by decide +kernel
theorem d_Tk_interception_23 : decode qC_Tk_interception.1 23 = .ok (.iconst 3, 1) := by decide +kernel
theorem d_Tk_interception_24 : decode qC_Tk_interception.1 24 = .ok (.if_icmp .ne 20, 3) := by decide +kernel
theorem d_Tk_interception_27 : decode qC_Tk_interception.1 27 = .ok (.aload_n 0, 1) := by decide +kernel
theorem d_Tk_interception_28 : decode qC_Tk_interception.1 28 = .ok (.getfield 37, 3) := by decide +kernel
theorem d_Tk_interception_31 : decode qC_Tk_interception.1 31 = .ok (.getfield 98, 3) := by decide +kernel
theorem d_Tk_interception_34 : decode qC_Tk_interception.1 34 = .ok (.iload_n 2, 1) := by decide +kernel
theorem d_Tk_interception_35 : decode qC_Tk_interception.1 35 = .ok (.bipush 13, 2) := by decide +kernel
theorem d_Tk_interception_37 : decode qC_Tk_interception.1 37 = .ok (.invokevirtual 99, 3) := by decide +kernel
theorem d_Tk_interception_40 : decode qC_Tk_interception.1 40 = .ok (.iconst 1, 1) := by decide +kernel
theorem d_Tk_interception_41 : decode qC_Tk_interception.1 41 = .ok (.if_icmp .ne 5, 3) := by decide +kernel
theorem d_Tk_interception_44 : decode qC_Tk_interception.1 44 = .ok (.iconst 0, 1) := by decide +kernel
theorem d_Tk_interception_45 : decode qC_Tk_interception.1 45 = .ok (.ireturn, 1) := by decide +kernel
theorem d_Tk_interception_46 : decode qC_Tk_interception.1 46 = .ok (.aload_n 0, 1) := by decide +kernel
theorem d_Tk_interception_47 : decode qC_Tk_interception.1 47 = .ok (.getfield 37, 3) := by decide +kernel
theorem d_Tk_interception_50 : decode qC_Tk_interception.1 50 = .ok (.getfield 98, 3) := by decide +kernel
theorem d_Tk_interception_53 : decode qC_Tk_interception.1 53 = .ok (.iload_n 1, 1) := by decide +kernel
theorem d_Tk_interception_54 : decode qC_Tk_interception.1 54 = .ok (.iconst 2, 1) := by decide +kernel
theorem d_Tk_interception_55 : decode qC_Tk_interception.1 55 = .ok (.invokevirtual 99, 3) := by decide +kernel
theorem d_Tk_interception_58 : decode qC_Tk_interception.1 58 = .ok (.istore_n 3, 1) := by decide +kernel
theorem d_Tk_interception_59 : decode qC_Tk_interception.1 59 = .ok (.aload_n 0, 1) := by decide +kernel
theorem d_Tk_interception_60 : decode qC_Tk_interception.1 60 = .ok (.getfield 37, 3) := by decide +kernel
theorem d_Tk_interception_63 : decode qC_Tk_interception.1 63 = .ok (.getfield 98, 3) := by decide +kernel
theorem d_Tk_interception_66 : decode qC_Tk_interception.1 66 = .ok (.iload_n 2, 1) := by decide +kernel
theorem d_Tk_interception_67 : decode qC_Tk_interception.1 67 = .ok (.iconst 2, 1) := by decide +kernel
theorem d_Tk_interception_68 : decode qC_Tk_interception.1 68 = .ok (.invokevirtual 99, 3) := by decide +kernel
theorem d_Tk_interception_71 : decode qC_Tk_interception.1 71 = .ok (.istore 4, 2) := by decide +kernel
theorem d_Tk_interception_73 : decode qC_Tk_interception.1 73 = .ok (.iload_n 3, 1) := by decide +kernel
theorem d_Tk_interception_74 : decode qC_Tk_interception.1 74 = .ok (.invokestatic 149, 3) := by decide +kernel
theorem d_Tk_interception_77 : decode qC_Tk_interception.1 77 = .ok (.i2l, 1) := by decide +kernel
theorem d_Tk_interception_78 : decode qC_Tk_interception.1 78 = .ok (.lstore 5, 2) := by decide +kernel
theorem d_Tk_interception_80 : decode qC_Tk_interception.1 80 = .ok (.iload_n 3, 1) := by decide +kernel
theorem d_Tk_interception_81 : decode qC_Tk_interception.1 81 = .ok (.invokestatic 152, 3) := by decide +kernel
theorem d_Tk_interception_84 : decode qC_Tk_interception.1 84 = .ok (.i2l, 1) := by decide +kernel
theorem d_Tk_interception_85 : decode qC_Tk_interception.1 85 = .ok (.lstore 7, 2) := by decide +kernel
theorem d_Tk_interception_87 : decode qC_Tk_interception.1 87 = .ok (.iload 4, 2) := by decide +kernel
theorem d_Tk_interception_89 : decode qC_Tk_interception.1 89 = .ok (.invokestatic 149, 3) := by decide +kernel
theorem d_Tk_interception_92 : decode qC_Tk_interception.1 92 = .ok (.i2l, 1) := by decide +kernel
theorem d_Tk_interception_93 : decode qC_Tk_interception.1 93 = .ok (.lstore 9, 2) := by decide +kernel
theorem d_Tk_interception_95 : decode qC_Tk_interception.1 95 = .ok (.iload 4, 2) := by decide +kernel
theorem d_Tk_interception_97 : decode qC_Tk_interception.1 97 = .ok (.invokestatic 152, 3) := by decide +kernel
theorem d_Tk_interception_100 : decode qC_Tk_interception.1 100 = .ok (.i2l, 1) := by decide +kernel
theorem d_Tk_interception_101 : decode qC_Tk_interception.1 101 = .ok (.lstore 11, 2) := by decide +kernel
theorem d_Tk_interception_103 : decode qC_Tk_interception.1 103 = .ok (.aload_n 0, 1) := by decide +kernel
theorem d_Tk_interception_104 : decode qC_Tk_interception.1 104 = .ok (.getfield 37, 3) := by decide +kernel
theorem d_Tk_interception_107 : decode qC_Tk_interception.1 107 = .ok (.getfield 98, 3) := by decide +kernel
theorem d_Tk_interception_110 : decode qC_Tk_interception.1 110 = .ok (.iload_n 2, 1) := by decide +kernel
theorem d_Tk_interception_111 : decode qC_Tk_interception.1 111 = .ok (.bipush 7, 2) := by decide +kernel
theorem d_Tk_interception_113 : decode qC_Tk_interception.1 113 = .ok (.invokevirtual 99, 3) := by decide +kernel
theorem d_Tk_interception_116 : decode qC_Tk_interception.1 116 = .ok (.i2l, 1) := by decide +kernel
theorem d_Tk_interception_117 : decode qC_Tk_interception.1 117 = .ok (.aload_n 0, 1) := by decide +kernel
theorem d_Tk_interception_118 : decode qC_Tk_interception.1 118 = .ok (.getfield 15, 3) := by decide +kernel
theorem d_Tk_interception_121 : decode qC_Tk_interception.1 121 = .ok (.i2l, 1) := by decide +kernel
theorem d_Tk_interception_122 : decode qC_Tk_interception.1 122 = .ok (.lsub, 1) := by decide +kernel
theorem d_Tk_interception_123 : decode qC_Tk_interception.1 123 = .ok (.lstore 13, 2) := by decide +kernel
theorem d_Tk_interception_125 : decode qC_Tk_interception.1 125 = .ok (.aload_n 0, 1) := by decide +kernel
theorem d_Tk_interception_126 : decode qC_Tk_interception.1 126 = .ok (.getfield 37, 3) := by decide +kernel
theorem d_Tk_interception_129 : decode qC_Tk_interception.1 129 = .ok (.getfield 98, 3) := by decide +kernel
theorem d_Tk_interception_132 : decode qC_Tk_interception.1 132 = .ok (.iload_n 2, 1) := by decide +kernel
theorem d_Tk_interception_133 : decode qC_Tk_interception.1 133 = .ok (.bipush 8, 2) := by decide +kernel
theorem d_Tk_interception_135 : decode qC_Tk_interception.1 135 = .ok (.invokevirtual 99, 3) := by decide +kernel
theorem d_Tk_interception_138 : decode qC_Tk_interception.1 138 = .ok (.i2l, 1) := by decide +kernel
theorem d_Tk_interception_139 : decode qC_Tk_interception.1 139 = .ok (.aload_n 0, 1) := by decide +kernel
theorem d_Tk_interception_140 : decode qC_Tk_interception.1 140 = .ok (.getfield 18, 3) := by decide +kernel
theorem d_Tk_interception_143 : decode qC_Tk_interception.1 143 = .ok (.i2l, 1) := by decide +kernel
theorem d_Tk_interception_144 : decode qC_Tk_interception.1 144 = .ok (.lsub, 1) := by decide +kernel
theorem d_Tk_interception_145 : decode qC_Tk_interception.1 145 = .ok (.lstore 15, 2) := by decide +kernel
theorem d_Tk_interception_147 : decode qC_Tk_interception.1 147 = .ok (.lload 5, 2) := by decide +kernel
theorem d_Tk_interception_149 : decode qC_Tk_interception.1 149 = .ok (.lload 11, 2) := by decide +kernel
theorem d_Tk_interception_151 : decode qC_Tk_interception.1 151 = .ok (.lmul, 1) := by decide +kernel
theorem d_Tk_interception_152 : decode qC_Tk_interception.1 152 = .ok (.lload 7, 2) := by decide +kernel
theorem d_Tk_interception_154 : decode qC_Tk_interception.1 154 = .ok (.lload 9, 2) := by decide +kernel
theorem d_Tk_interception_156 : decode qC_Tk_interception.1 156 = .ok (.lmul, 1) := by decide +kernel
theorem d_Tk_interception_157 : decode qC_Tk_interception.1 157 = .ok (.lsub, 1) := by decide +kernel
theorem d_Tk_interception_158 : decode qC_Tk_interception.1 158 = .ok (.lstore 17, 2) := by decide +kernel
theorem d_Tk_interception_160 : decode qC_Tk_interception.1 160 = .ok (.lload 17, 2) := by decide +kernel
theorem d_Tk_interception_162 : decode qC_Tk_interception.1 162 = .ok (.lconst 0, 1) := by decide +kernel
theorem d_Tk_interception_163 : decode qC_Tk_interception.1 163 = .ok (.lcmp, 1) := by decide +kernel
theorem d_Tk_interception_164 : decode qC_Tk_interception.1 164 = .ok (.ifCond .ne 5, 3) := by decide +kernel
theorem d_Tk_interception_167 : decode qC_Tk_interception.1 167 = .ok (.iconst 0, 1) := by decide +kernel
theorem d_Tk_interception_168 : decode qC_Tk_interception.1 168 = .ok (.ireturn, 1) := by decide +kernel
theorem d_Tk_interception_169 : decode qC_Tk_interception.1 169 = .ok (.lload 13, 2) := by decide +kernel
theorem d_Tk_interception_171 : decode qC_Tk_interception.1 171 = .ok (.lload 11, 2) := by decide +kernel
theorem d_Tk_interception_173 : decode qC_Tk_interception.1 173 = .ok (.lmul, 1) := by decide +kernel
theorem d_Tk_interception_174 : decode qC_Tk_interception.1 174 = .ok (.lload 15, 2) := by decide +kernel
theorem d_Tk_interception_176 : decode qC_Tk_interception.1 176 = .ok (.lload 9, 2) := by decide +kernel
theorem d_Tk_interception_178 : decode qC_Tk_interception.1 178 = .ok (.lmul, 1) := by decide +kernel
theorem d_Tk_interception_179 : decode qC_Tk_interception.1 179 = .ok (.lsub, 1) := by decide +kernel
theorem d_Tk_interception_180 : decode qC_Tk_interception.1 180 = .ok (.ldc2_w 155, 3) := by decide +kernel
theorem d_Tk_interception_183 : decode qC_Tk_interception.1 183 = .ok (.lmul, 1) := by decide +kernel
theorem d_Tk_interception_184 : decode qC_Tk_interception.1 184 = .ok (.lload 17, 2) := by decide +kernel
theorem d_Tk_interception_186 : decode qC_Tk_interception.1 186 = .ok (.ldiv, 1) := by decide +kernel
theorem d_Tk_interception_187 : decode qC_Tk_interception.1 187 = .ok (.lstore 19, 2) := by decide +kernel
theorem d_Tk_interception_189 : decode qC_Tk_interception.1 189 = .ok (.lload 15, 2) := by decide +kernel
theorem d_Tk_interception_191 : decode qC_Tk_interception.1 191 = .ok (.lload 5, 2) := by decide +kernel
theorem d_Tk_interception_193 : decode qC_Tk_interception.1 193 = .ok (.lmul, 1) := by decide +kernel
theorem d_Tk_interception_194 : decode qC_Tk_interception.1 194 = .ok (.lload 13, 2) := by decide +kernel
theorem d_Tk_interception_196 : decode qC_Tk_interception.1 196 = .ok (.lload 7, 2) := by decide +kernel
theorem d_Tk_interception_198 : decode qC_Tk_interception.1 198 = .ok (.lmul, 1) := by decide +kernel
theorem d_Tk_interception_199 : decode qC_Tk_interception.1 199 = .ok (.lsub, 1) := by decide +kernel
theorem d_Tk_interception_200 : decode qC_Tk_interception.1 200 = .ok (.ldc2_w 155, 3) := by decide +kernel
theorem d_Tk_interception_203 : decode qC_Tk_interception.1 203 = .ok (.lmul, 1) := by decide +kernel
theorem d_Tk_interception_204 : decode qC_Tk_interception.1 204 = .ok (.lload 17, 2) := by decide +kernel
theorem d_Tk_interception_206 : decode qC_Tk_interception.1 206 = .ok (.ldiv, 1) := by decide +kernel
theorem d_Tk_interception_207 : decode qC_Tk_interception.1 207 = .ok (.lstore 21, 2) := by decide +kernel
theorem d_Tk_interception_209 : decode qC_Tk_interception.1 209 = .ok (.lload 19, 2) := by decide +kernel
theorem d_Tk_interception_211 : decode qC_Tk_interception.1 211 = .ok (.lconst 1, 1) := by decide +kernel
theorem d_Tk_interception_212 : decode qC_Tk_interception.1 212 = .ok (.lcmp, 1) := by decide +kernel
theorem d_Tk_interception_213 : decode qC_Tk_interception.1 213 = .ok (.ifCond .lt 25, 3) := by decide +kernel
theorem d_Tk_interception_216 : decode qC_Tk_interception.1 216 = .ok (.lload 19, 2) := by decide +kernel
theorem d_Tk_interception_218 : decode qC_Tk_interception.1 218 = .ok (.ldc2_w 157, 3) := by decide +kernel
theorem d_Tk_interception_221 : decode qC_Tk_interception.1 221 = .ok (.lcmp, 1) := by decide +kernel
theorem d_Tk_interception_222 : decode qC_Tk_interception.1 222 = .ok (.ifCond .gt 16, 3) := by decide +kernel
theorem d_Tk_interception_225 : decode qC_Tk_interception.1 225 = .ok (.lload 21, 2) := by decide +kernel
theorem d_Tk_interception_227 : decode qC_Tk_interception.1 227 = .ok (.lconst 0, 1) := by decide +kernel
theorem d_Tk_interception_228 : decode qC_Tk_interception.1 228 = .ok (.lcmp, 1) := by decide +kernel
theorem d_Tk_interception_229 : decode qC_Tk_interception.1 229 = .ok (.ifCond .lt 9, 3) := by decide +kernel
theorem d_Tk_interception_232 : decode qC_Tk_interception.1 232 = .ok (.lload 19, 2) := by decide +kernel
theorem d_Tk_interception_234 : decode qC_Tk_interception.1 234 = .ok (.l2i, 1) := by decide +kernel
theorem d_Tk_interception_235 : decode qC_Tk_interception.1 235 = .ok (.goto 4, 3) := by decide +kernel
theorem d_Tk_interception_238 : decode qC_Tk_interception.1 238 = .ok (.iconst 0, 1) := by decide +kernel
theorem d_Tk_interception_239 : decode qC_Tk_interception.1 239 = .ok (.ireturn, 1) := by decide +kernel
set_option maxRecDepth 100000 in
def f_Tk_interception (σ : St) (o : Nat) (p1 : Int32) : Option (Int32) :=
  Lt ((p1 + (1 : Int32)) : Int32) fun x1 =>
  Option.bind (f_Pl_hasLeg σ (rc o 0) x1) fun x2 =>
  Jn (fun (_ : Unit) =>
  some (0 : Int32)
  ) fun J3 =>
  if (x2 : Int32) = 0 then (
  J3 ()
  ) else (
  Option.bind (f_Pl_kind σ (rc o 0) x1) fun x4 =>
  if (x4 : Int32) = (3 : Int32) then (
  Option.bind (f_Tb_get σ (rc (rc o 0) 0) x1 (13 : Int32)) fun x5 =>
  if (x5 : Int32) = (1 : Int32) then (
  J3 ()
  ) else (
  Option.bind (f_Tb_get σ (rc (rc o 0) 0) p1 (2 : Int32)) fun x6 =>
  Option.bind (f_Tb_get σ (rc (rc o 0) 0) x1 (2 : Int32)) fun x7 =>
  Option.bind (f_Cm_east σ x6) fun x8 =>
  Lt ((Int32.toInt64 x8) : Int64) fun x9 =>
  Option.bind (f_Cm_north σ x6) fun x10 =>
  Lt ((Int32.toInt64 x10) : Int64) fun x11 =>
  Option.bind (f_Cm_east σ x7) fun x12 =>
  Lt ((Int32.toInt64 x12) : Int64) fun x13 =>
  Option.bind (f_Cm_north σ x7) fun x14 =>
  Lt ((Int32.toInt64 x14) : Int64) fun x15 =>
  Option.bind (f_Tb_get σ (rc (rc o 0) 0) x1 (7 : Int32)) fun x16 =>
  Lt (((Int32.toInt64 x16) - (Int32.toInt64 (σ o 5))) : Int64) fun x17 =>
  Option.bind (f_Tb_get σ (rc (rc o 0) 0) x1 (8 : Int32)) fun x18 =>
  Lt (((Int32.toInt64 x18) - (Int32.toInt64 (σ o 6))) : Int64) fun x19 =>
  Lt (((x9 * x15) - (x11 * x13)) : Int64) fun x20 =>
  if (x20 : Int64) = (0 : Int64) then (
  some (0 : Int32)
  ) else (
  Gd (¬ (x20 : Int64) = 0) <|
  Lt (((((x17 * x15) - (x19 * x13)) * (1000 : Int64)) / x20) : Int64) fun x22 =>
  Gd (¬ (x20 : Int64) = 0) <|
  Lt (((((x19 * x9) - (x17 * x11)) * (1000 : Int64)) / x20) : Int64) fun x24 =>
  Jn (fun (x25 : Int32) =>
  some x25
  ) fun J26 =>
  Jn (fun (_ : Unit) =>
  J26 (0 : Int32)
  ) fun J27 =>
  if (x22 : Int64) < (1 : Int64) then (
  J27 ()
  ) else (
  if ((999 : Int64) : Int64) < x22 then (
  J27 ()
  ) else (
  if (x24 : Int64) < (0 : Int64) then (
  J27 ()
  ) else (
  J26 (Int64.toInt32 x22)
  )
  )
  )
  )
  )
  ) else (
  J3 ()
  )
  )
set_option maxHeartbeats 4000000 in
set_option maxRecDepth 100000 in
theorem cC_Tk_interception (l : Launch) (g : Ge) (hi : injB wC.2 g) (σ : St) (o : Nat) (ho : wC.2.2.1 o = .inr (9, 12)) (p1 : Int32) (x : Int32) (h : f_Tk_interception σ o p1 = some x) : Ct l wC g yC_Tk_interception qC_Tk_interception 2 43 [.ref (g.1 o), .int p1] σ (some (.int x), σ) := by
  refine Ct.of (out := (o_r σ)) FC_Tk_interception rfl hi rfl h (fun z hz C => ?_)
  clear h
  subst hz
  unfold f_Tk_interception
  show Rt z qC_Tk_interception wC g (o_r σ) 0 [(0, .ref (g.1 o)), (1, .int p1)] [] σ _
  refine q_iload_n (pc' := 1) C 1 d_Tk_interception_0 rfl rfl ?_
  refine q_iconst (pc' := 2) C d_Tk_interception_1 ki_1 rfl ?_
  refine q_iadd (pc' := 3) C d_Tk_interception_2 rfl ?_
  refine q_let (fun x1 e1 => ?_)
  refine q_topi e1 ?_
  refine q_istore_n (pc' := 4) (lv' := [(2, .int x1), (0, .ref (g.1 o)), (1, .int p1)]) C d_Tk_interception_3 (by decide) rfl rfl ?_
  refine q_aload_n (pc' := 5) C 1 d_Tk_interception_4 rfl rfl ?_
  refine gC_Tk_37 (pc' := 8) C o (rc o 0) ho (ly_9_0 ho).1 d_Tk_interception_5 rfl rfl ?_
  refine q_iload_n (pc' := 9) C 0 d_Tk_interception_8 rfl rfl ?_
  refine q_callVr (fr' := 0) (lo' := 0) (pc' := 12) C FC_Pl_hasLeg lmC_Tk_146 d_Tk_interception_9 (rc o 0) (jCo (ly_9_0 ho).2) (ly_9_0 ho).2 cC_3 [.int x1] [] rfl rfl (Nat.le_of_ble_eq_true rfl) ⟨rfl, rfl⟩ (fun x h => cC_Pl_hasLeg _ g hi σ (rc o 0) (ly_9_0 ho).2 x1 x h) rfl (fun x2 hx2 => ?_)
  refine q_join (fun J3 : Unit → Option (Int32) => ∀ (_ : Unit), Rt z qC_Tk_interception wC g (o_r σ) 44 [] [] σ (J3 ())) (fun _ => ?_) (fun J3 hJ3 => ?_)
  · refine q_iconst (pc' := 45) C d_Tk_interception_44 ki_0 rfl ?_
    exact q_iret C rfl d_Tk_interception_45 rfl
  refine q_if_eq (tgt := 44) (pc' := 15) C d_Tk_interception_12 rfl rfl ?_ ?_
  · exact Rt.sub [] rfl (hJ3 ())
  · refine q_aload_n (pc' := 16) C 1 d_Tk_interception_15 rfl rfl ?_
    refine gC_Tk_37 (pc' := 19) C o (rc o 0) ho (ly_9_0 ho).1 d_Tk_interception_16 rfl rfl ?_
    refine q_iload_n (pc' := 20) C 0 d_Tk_interception_19 rfl rfl ?_
    refine q_callVr (fr' := 1) (lo' := 22) (pc' := 23) C FC_Pl_kind lmC_Tk_72 d_Tk_interception_20 (rc o 0) (jCo (ly_9_0 ho).2) (ly_9_0 ho).2 cC_3 [.int x1] [] rfl rfl (Nat.le_of_ble_eq_true rfl) ⟨rfl, rfl⟩ (fun x h => cC_Pl_kind _ g hi σ (rc o 0) (ly_9_0 ho).2 x1 x h) rfl (fun x4 hx4 => ?_)
    refine q_iconst (pc' := 24) C d_Tk_interception_23 ki_3 rfl ?_
    refine q_icmp_ne (tgt := 44) (pc' := 27) C d_Tk_interception_24 rfl rfl ?_ ?_
    · exact Rt.sub [] rfl (hJ3 ())
    · refine q_aload_n (pc' := 28) C 1 d_Tk_interception_27 rfl rfl ?_
      refine gC_Tk_37 (pc' := 31) C o (rc o 0) ho (ly_9_0 ho).1 d_Tk_interception_28 rfl rfl ?_
      refine gC_Tk_98 (pc' := 34) C (rc o 0) (rc (rc o 0) 0) (ly_9_0 ho).2 (ly_3_0 (ly_9_0 ho).2).1 d_Tk_interception_31 rfl rfl ?_
      refine q_iload_n (pc' := 35) C 0 d_Tk_interception_34 rfl rfl ?_
      refine q_bipush (pc' := 37) C d_Tk_interception_35 kb_13 rfl ?_
      refine q_callVr (fr' := 0) (lo' := 0) (pc' := 40) C FC_Tb_get lmC_Tk_99 d_Tk_interception_37 (rc (rc o 0) 0) (jCo (ly_3_0 (ly_9_0 ho).2).2) (ly_3_0 (ly_9_0 ho).2).2 cC_8 [.int x1, .int (13 : Int32)] [] rfl rfl (Nat.le_of_ble_eq_true rfl) ⟨rfl, rfl⟩ (fun x h => cC_Tb_get _ g hi σ (rc (rc o 0) 0) (ly_3_0 (ly_9_0 ho).2).2 x1 (13 : Int32) x h) rfl (fun x5 hx5 => ?_)
      refine q_iconst (pc' := 41) C d_Tk_interception_40 ki_1 rfl ?_
      refine q_icmp_ne (tgt := 46) (pc' := 44) C d_Tk_interception_41 rfl rfl ?_ ?_
      · refine q_aload_n (pc' := 47) C 1 d_Tk_interception_46 rfl rfl ?_
        refine gC_Tk_37 (pc' := 50) C o (rc o 0) ho (ly_9_0 ho).1 d_Tk_interception_47 rfl rfl ?_
        refine gC_Tk_98 (pc' := 53) C (rc o 0) (rc (rc o 0) 0) (ly_9_0 ho).2 (ly_3_0 (ly_9_0 ho).2).1 d_Tk_interception_50 rfl rfl ?_
        refine q_iload_n (pc' := 54) C 2 d_Tk_interception_53 rfl rfl ?_
        refine q_iconst (pc' := 55) C d_Tk_interception_54 ki_2 rfl ?_
        refine q_callVr (fr' := 0) (lo' := 0) (pc' := 58) C FC_Tb_get lmC_Tk_99 d_Tk_interception_55 (rc (rc o 0) 0) (jCo (ly_3_0 (ly_9_0 ho).2).2) (ly_3_0 (ly_9_0 ho).2).2 cC_8 [.int p1, .int (2 : Int32)] [] rfl rfl (Nat.le_of_ble_eq_true rfl) ⟨rfl, rfl⟩ (fun x h => cC_Tb_get _ g hi σ (rc (rc o 0) 0) (ly_3_0 (ly_9_0 ho).2).2 p1 (2 : Int32) x h) rfl (fun x6 hx6 => ?_)
        refine q_istore_n (pc' := 59) (lv' := [(3, .int x6), (2, .int x1), (0, .ref (g.1 o)), (1, .int p1)]) C d_Tk_interception_58 (by decide) rfl rfl ?_
        refine q_aload_n (pc' := 60) C 2 d_Tk_interception_59 rfl rfl ?_
        refine gC_Tk_37 (pc' := 63) C o (rc o 0) ho (ly_9_0 ho).1 d_Tk_interception_60 rfl rfl ?_
        refine gC_Tk_98 (pc' := 66) C (rc o 0) (rc (rc o 0) 0) (ly_9_0 ho).2 (ly_3_0 (ly_9_0 ho).2).1 d_Tk_interception_63 rfl rfl ?_
        refine q_iload_n (pc' := 67) C 1 d_Tk_interception_66 rfl rfl ?_
        refine q_iconst (pc' := 68) C d_Tk_interception_67 ki_2 rfl ?_
        refine q_callVr (fr' := 0) (lo' := 0) (pc' := 71) C FC_Tb_get lmC_Tk_99 d_Tk_interception_68 (rc (rc o 0) 0) (jCo (ly_3_0 (ly_9_0 ho).2).2) (ly_3_0 (ly_9_0 ho).2).2 cC_8 [.int x1, .int (2 : Int32)] [] rfl rfl (Nat.le_of_ble_eq_true rfl) ⟨rfl, rfl⟩ (fun x h => cC_Tb_get _ g hi σ (rc (rc o 0) 0) (ly_3_0 (ly_9_0 ho).2).2 x1 (2 : Int32) x h) rfl (fun x7 hx7 => ?_)
        refine q_istore (pc' := 73) (lv' := [(4, .int x7), (3, .int x6), (2, .int x1), (0, .ref (g.1 o)), (1, .int p1)]) C d_Tk_interception_71 (by decide) rfl rfl ?_
        refine q_iload_n (pc' := 74) C 1 d_Tk_interception_73 rfl rfl ?_
        refine q_callSr (fr' := 0) (lo' := 0) (pc' := 77) C FC_Cm_east lmC_Tk_149 d_Tk_interception_74 [.int x6] [] rfl rfl (Nat.le_of_ble_eq_true rfl) ⟨rfl, rfl⟩ (fun x h => cC_Cm_east _ g hi σ x6 x h) rfl (fun x8 hx8 => ?_)
        refine q_i2l (pc' := 78) C d_Tk_interception_77 rfl ?_
        refine q_let (fun x9 e9 => ?_)
        refine q_topl e9 ?_
        refine q_lstore (pc' := 80) (lv' := [(5, .long x9), (4, .int x7), (3, .int x6), (2, .int x1), (0, .ref (g.1 o)), (1, .int p1)]) C d_Tk_interception_78 (by decide) rfl rfl ?_
        refine q_iload_n (pc' := 81) C 2 d_Tk_interception_80 rfl rfl ?_
        refine q_callSr (fr' := 0) (lo' := 0) (pc' := 84) C FC_Cm_north lmC_Tk_152 d_Tk_interception_81 [.int x6] [] rfl rfl (Nat.le_of_ble_eq_true rfl) ⟨rfl, rfl⟩ (fun x h => cC_Cm_north _ g hi σ x6 x h) rfl (fun x10 hx10 => ?_)
        refine q_i2l (pc' := 85) C d_Tk_interception_84 rfl ?_
        refine q_let (fun x11 e11 => ?_)
        refine q_topl e11 ?_
        refine q_lstore (pc' := 87) (lv' := [(7, .long x11), (5, .long x9), (4, .int x7), (3, .int x6), (2, .int x1), (0, .ref (g.1 o)), (1, .int p1)]) C d_Tk_interception_85 (by decide) rfl rfl ?_
        refine q_iload (pc' := 89) C 2 d_Tk_interception_87 rfl rfl ?_
        refine q_callSr (fr' := 0) (lo' := 0) (pc' := 92) C FC_Cm_east lmC_Tk_149 d_Tk_interception_89 [.int x7] [] rfl rfl (Nat.le_of_ble_eq_true rfl) ⟨rfl, rfl⟩ (fun x h => cC_Cm_east _ g hi σ x7 x h) rfl (fun x12 hx12 => ?_)
        refine q_i2l (pc' := 93) C d_Tk_interception_92 rfl ?_
        refine q_let (fun x13 e13 => ?_)
        refine q_topl e13 ?_
        refine q_lstore (pc' := 95) (lv' := [(9, .long x13), (7, .long x11), (5, .long x9), (4, .int x7), (3, .int x6), (2, .int x1), (0, .ref (g.1 o)), (1, .int p1)]) C d_Tk_interception_93 (by decide) rfl rfl ?_
        refine q_iload (pc' := 97) C 3 d_Tk_interception_95 rfl rfl ?_
        refine q_callSr (fr' := 0) (lo' := 0) (pc' := 100) C FC_Cm_north lmC_Tk_152 d_Tk_interception_97 [.int x7] [] rfl rfl (Nat.le_of_ble_eq_true rfl) ⟨rfl, rfl⟩ (fun x h => cC_Cm_north _ g hi σ x7 x h) rfl (fun x14 hx14 => ?_)
        refine q_i2l (pc' := 101) C d_Tk_interception_100 rfl ?_
        refine q_let (fun x15 e15 => ?_)
        refine q_topl e15 ?_
        refine q_lstore (pc' := 103) (lv' := [(11, .long x15), (9, .long x13), (7, .long x11), (5, .long x9), (4, .int x7), (3, .int x6), (2, .int x1), (0, .ref (g.1 o)), (1, .int p1)]) C d_Tk_interception_101 (by decide) rfl rfl ?_
        refine q_aload_n (pc' := 104) C 7 d_Tk_interception_103 rfl rfl ?_
        refine gC_Tk_37 (pc' := 107) C o (rc o 0) ho (ly_9_0 ho).1 d_Tk_interception_104 rfl rfl ?_
        refine gC_Tk_98 (pc' := 110) C (rc o 0) (rc (rc o 0) 0) (ly_9_0 ho).2 (ly_3_0 (ly_9_0 ho).2).1 d_Tk_interception_107 rfl rfl ?_
        refine q_iload_n (pc' := 111) C 6 d_Tk_interception_110 rfl rfl ?_
        refine q_bipush (pc' := 113) C d_Tk_interception_111 kb_7 rfl ?_
        refine q_callVr (fr' := 0) (lo' := 0) (pc' := 116) C FC_Tb_get lmC_Tk_99 d_Tk_interception_113 (rc (rc o 0) 0) (jCo (ly_3_0 (ly_9_0 ho).2).2) (ly_3_0 (ly_9_0 ho).2).2 cC_8 [.int x1, .int (7 : Int32)] [] rfl rfl (Nat.le_of_ble_eq_true rfl) ⟨rfl, rfl⟩ (fun x h => cC_Tb_get _ g hi σ (rc (rc o 0) 0) (ly_3_0 (ly_9_0 ho).2).2 x1 (7 : Int32) x h) rfl (fun x16 hx16 => ?_)
        refine q_i2l (pc' := 117) C d_Tk_interception_116 rfl ?_
        refine q_aload_n (pc' := 118) C 7 d_Tk_interception_117 rfl rfl ?_
        refine gC_Tk_15 (pc' := 121) C o ho d_Tk_interception_118 rfl rfl ?_
        refine q_i2l (pc' := 122) C d_Tk_interception_121 rfl ?_
        refine q_lsub (pc' := 123) C d_Tk_interception_122 rfl ?_
        refine q_let (fun x17 e17 => ?_)
        refine q_topl e17 ?_
        refine q_lstore (pc' := 125) (lv' := [(13, .long x17), (11, .long x15), (9, .long x13), (7, .long x11), (5, .long x9), (4, .int x7), (3, .int x6), (2, .int x1), (0, .ref (g.1 o)), (1, .int p1)]) C d_Tk_interception_123 (by decide) rfl rfl ?_
        refine q_aload_n (pc' := 126) C 8 d_Tk_interception_125 rfl rfl ?_
        refine gC_Tk_37 (pc' := 129) C o (rc o 0) ho (ly_9_0 ho).1 d_Tk_interception_126 rfl rfl ?_
        refine gC_Tk_98 (pc' := 132) C (rc o 0) (rc (rc o 0) 0) (ly_9_0 ho).2 (ly_3_0 (ly_9_0 ho).2).1 d_Tk_interception_129 rfl rfl ?_
        refine q_iload_n (pc' := 133) C 7 d_Tk_interception_132 rfl rfl ?_
        refine q_bipush (pc' := 135) C d_Tk_interception_133 kb_8 rfl ?_
        refine q_callVr (fr' := 0) (lo' := 0) (pc' := 138) C FC_Tb_get lmC_Tk_99 d_Tk_interception_135 (rc (rc o 0) 0) (jCo (ly_3_0 (ly_9_0 ho).2).2) (ly_3_0 (ly_9_0 ho).2).2 cC_8 [.int x1, .int (8 : Int32)] [] rfl rfl (Nat.le_of_ble_eq_true rfl) ⟨rfl, rfl⟩ (fun x h => cC_Tb_get _ g hi σ (rc (rc o 0) 0) (ly_3_0 (ly_9_0 ho).2).2 x1 (8 : Int32) x h) rfl (fun x18 hx18 => ?_)
        refine q_i2l (pc' := 139) C d_Tk_interception_138 rfl ?_
        refine q_aload_n (pc' := 140) C 8 d_Tk_interception_139 rfl rfl ?_
        refine gC_Tk_18 (pc' := 143) C o ho d_Tk_interception_140 rfl rfl ?_
        refine q_i2l (pc' := 144) C d_Tk_interception_143 rfl ?_
        refine q_lsub (pc' := 145) C d_Tk_interception_144 rfl ?_
        refine q_let (fun x19 e19 => ?_)
        refine q_topl e19 ?_
        refine q_lstore (pc' := 147) (lv' := [(15, .long x19), (13, .long x17), (11, .long x15), (9, .long x13), (7, .long x11), (5, .long x9), (4, .int x7), (3, .int x6), (2, .int x1), (0, .ref (g.1 o)), (1, .int p1)]) C d_Tk_interception_145 (by decide) rfl rfl ?_
        refine q_lload (pc' := 149) C 5 d_Tk_interception_147 rfl rfl ?_
        refine q_lload (pc' := 151) C 2 d_Tk_interception_149 rfl rfl ?_
        refine q_lmul (pc' := 152) C d_Tk_interception_151 rfl ?_
        refine q_lload (pc' := 154) C 4 d_Tk_interception_152 rfl rfl ?_
        refine q_lload (pc' := 156) C 3 d_Tk_interception_154 rfl rfl ?_
        refine q_lmul (pc' := 157) C d_Tk_interception_156 rfl ?_
        refine q_lsub (pc' := 158) C d_Tk_interception_157 rfl ?_
        refine q_let (fun x20 e20 => ?_)
        refine q_topl e20 ?_
        refine q_lstore (pc' := 160) (lv' := [(17, .long x20), (15, .long x19), (13, .long x17), (11, .long x15), (9, .long x13), (7, .long x11), (5, .long x9), (4, .int x7), (3, .int x6), (2, .int x1), (0, .ref (g.1 o)), (1, .int p1)]) C d_Tk_interception_158 (by decide) rfl rfl ?_
        refine q_lload (pc' := 162) C 0 d_Tk_interception_160 rfl rfl ?_
        refine q_lconst (pc' := 163) C d_Tk_interception_162 kl_0 rfl ?_
        refine q_lcmp_ne (tgt := 169) (pc' := 167) C d_Tk_interception_163 d_Tk_interception_164 rfl rfl ?_ ?_
        · refine q_lload (pc' := 171) C 2 d_Tk_interception_169 rfl rfl ?_
          refine q_lload (pc' := 173) C 3 d_Tk_interception_171 rfl rfl ?_
          refine q_lmul (pc' := 174) C d_Tk_interception_173 rfl ?_
          refine q_lload (pc' := 176) C 1 d_Tk_interception_174 rfl rfl ?_
          refine q_lload (pc' := 178) C 4 d_Tk_interception_176 rfl rfl ?_
          refine q_lmul (pc' := 179) C d_Tk_interception_178 rfl ?_
          refine q_lsub (pc' := 180) C d_Tk_interception_179 rfl ?_
          refine q_ldc2 (pc' := 183) C lLC_Tk_155 d_Tk_interception_180 rfl ?_
          refine q_lmul (pc' := 184) C d_Tk_interception_183 rfl ?_
          refine q_lload (pc' := 186) C 0 d_Tk_interception_184 rfl rfl ?_
          refine q_guard (fun gx21 => ?_)
          refine q_ldiv (pc' := 187) C gx21 d_Tk_interception_186 rfl ?_
          refine q_let (fun x22 e22 => ?_)
          refine q_topl e22 ?_
          refine q_lstore (pc' := 189) (lv' := [(19, .long x22), (17, .long x20), (15, .long x19), (13, .long x17), (11, .long x15), (9, .long x13), (7, .long x11), (5, .long x9), (4, .int x7), (3, .int x6), (2, .int x1), (0, .ref (g.1 o)), (1, .int p1)]) C d_Tk_interception_187 (by decide) rfl rfl ?_
          refine q_lload (pc' := 191) C 2 d_Tk_interception_189 rfl rfl ?_
          refine q_lload (pc' := 193) C 7 d_Tk_interception_191 rfl rfl ?_
          refine q_lmul (pc' := 194) C d_Tk_interception_193 rfl ?_
          refine q_lload (pc' := 196) C 3 d_Tk_interception_194 rfl rfl ?_
          refine q_lload (pc' := 198) C 6 d_Tk_interception_196 rfl rfl ?_
          refine q_lmul (pc' := 199) C d_Tk_interception_198 rfl ?_
          refine q_lsub (pc' := 200) C d_Tk_interception_199 rfl ?_
          refine q_ldc2 (pc' := 203) C lLC_Tk_155 d_Tk_interception_200 rfl ?_
          refine q_lmul (pc' := 204) C d_Tk_interception_203 rfl ?_
          refine q_lload (pc' := 206) C 1 d_Tk_interception_204 rfl rfl ?_
          refine q_guard (fun gx23 => ?_)
          refine q_ldiv (pc' := 207) C gx23 d_Tk_interception_206 rfl ?_
          refine q_let (fun x24 e24 => ?_)
          refine q_topl e24 ?_
          refine q_lstore (pc' := 209) (lv' := [(21, .long x24), (19, .long x22), (17, .long x20), (15, .long x19), (13, .long x17), (11, .long x15), (9, .long x13), (7, .long x11), (5, .long x9), (4, .int x7), (3, .int x6), (2, .int x1), (0, .ref (g.1 o)), (1, .int p1)]) C d_Tk_interception_207 (by decide) rfl rfl ?_
          refine q_lload (pc' := 211) C 1 d_Tk_interception_209 rfl rfl ?_
          refine q_lconst (pc' := 212) C d_Tk_interception_211 kl_1 rfl ?_
          refine q_join (fun J26 : Int32 → Option (Int32) => ∀ (x25 : Int32), Rt z qC_Tk_interception wC g (o_r σ) 239 [] [.int x25] σ (J26 x25)) (fun x25 => ?_) (fun J26 hJ26 => ?_)
          · exact q_iret C rfl d_Tk_interception_239 rfl
          refine q_join (fun J27 : Unit → Option (Int32) => ∀ (_ : Unit), Rt z qC_Tk_interception wC g (o_r σ) 238 [] [] σ (J27 ())) (fun _ => ?_) (fun J27 hJ27 => ?_)
          · refine q_iconst (pc' := 239) C d_Tk_interception_238 ki_0 rfl ?_
            exact Rt.sub [] rfl (hJ26 (0 : Int32))
          refine q_lcmp_lt (tgt := 238) (pc' := 216) C d_Tk_interception_212 d_Tk_interception_213 rfl rfl ?_ ?_
          · exact Rt.sub [] rfl (hJ27 ())
          · refine q_lload (pc' := 218) C 1 d_Tk_interception_216 rfl rfl ?_
            refine q_ldc2 (pc' := 221) C lLC_Tk_157 d_Tk_interception_218 rfl ?_
            refine q_lcmp_gt (tgt := 238) (pc' := 225) C d_Tk_interception_221 d_Tk_interception_222 rfl rfl ?_ ?_
            · exact Rt.sub [] rfl (hJ27 ())
            · refine q_lload (pc' := 227) C 0 d_Tk_interception_225 rfl rfl ?_
              refine q_lconst (pc' := 228) C d_Tk_interception_227 kl_0 rfl ?_
              refine q_lcmp_lt (tgt := 238) (pc' := 232) C d_Tk_interception_228 d_Tk_interception_229 rfl rfl ?_ ?_
              · exact Rt.sub [] rfl (hJ27 ())
              · refine q_lload (pc' := 234) C 1 d_Tk_interception_232 rfl rfl ?_
                refine q_l2i (pc' := 235) C d_Tk_interception_234 rfl ?_
                refine q_goto (tgt := 239) C d_Tk_interception_235 rfl ?_
                exact Rt.sub [] rfl (hJ26 (Int64.toInt32 x22))
        · refine q_iconst (pc' := 168) C d_Tk_interception_167 ki_0 rfl ?_
          exact q_iret C rfl d_Tk_interception_168 rfl
      · exact Rt.sub [] rfl (hJ3 ())
theorem d_Tk_followToInterception_0 : decode qC_Tk_followToInterception.1 0 = .ok (.aload_n 0, 1) := by decide +kernel
theorem d_Tk_followToInterception_1 : decode qC_Tk_followToInterception.1 1 = .ok (.iload_n 1, 1) := by decide +kernel
theorem d_Tk_followToInterception_2 : decode qC_Tk_followToInterception.1 2 = .ok (.invokevirtual 143, 3) := by decide +kernel
theorem d_Tk_followToInterception_5 : decode qC_Tk_followToInterception.1 5 = .ok (.istore_n 2, 1) := by decide +kernel
theorem d_Tk_followToInterception_6 : decode qC_Tk_followToInterception.1 6 = .ok (.iload_n 2, 1) := by decide +kernel
theorem d_Tk_followToInterception_7 : decode qC_Tk_followToInterception.1 7 = .ok (.ifCond .ne 11, 3) := by decide +kernel
theorem d_Tk_followToInterception_10 : decode qC_Tk_followToInterception.1 10 = .ok (.aload_n 0, 1) := by decide +kernel
theorem d_Tk_followToInterception_11 : decode qC_Tk_followToInterception.1 11 = .ok (.iload_n 1, 1) := by decide +kernel
theorem d_Tk_followToInterception_12 : decode qC_Tk_followToInterception.1 12 = .ok (.bipush 100, 2) := by decide +kernel
theorem d_Tk_followToInterception_14 : decode qC_Tk_followToInterception.1 14 = .ok (.invokevirtual 95, 3) := by decide +kernel
theorem d_Tk_followToInterception_17 : decode qC_Tk_followToInterception.1 17 = .ok (.return_, 1) := by decide +kernel
theorem d_Tk_followToInterception_18 : decode qC_Tk_followToInterception.1 18 = .ok (.aload_n 0, 1) := by decide +kernel
theorem d_Tk_followToInterception_19 : decode qC_Tk_followToInterception.1 19 = .ok (.iload_n 1, 1) := by decide +kernel
theorem d_Tk_followToInterception_20 : decode qC_Tk_followToInterception.1 20 = .ok (.iload_n 2, 1) := by decide +kernel
theorem d_Tk_followToInterception_21 : decode qC_Tk_followToInterception.1 21 = .ok (.invokevirtual 95, 3) := by decide +kernel
theorem d_Tk_followToInterception_24 : decode qC_Tk_followToInterception.1 24 = .ok (.aload_n 0, 1) := by decide +kernel
theorem d_Tk_followToInterception_25 : decode qC_Tk_followToInterception.1 25 = .ok (.iload_n 1, 1) := by decide +kernel
theorem d_Tk_followToInterception_26 : decode qC_Tk_followToInterception.1 26 = .ok (.invokevirtual 106, 3) := by decide +kernel
theorem d_Tk_followToInterception_29 : decode qC_Tk_followToInterception.1 29 = .ok (.return_, 1) := by decide +kernel
set_option maxRecDepth 100000 in
def f_Tk_followToInterception (σ : St) (o : Nat) (p1 : Int32) : Option (St) :=
  Option.bind (f_Tk_interception σ o p1) fun x1 =>
  if (x1 : Int32) = 0 then (
  Option.bind (f_Tk_runOn σ o p1 (100 : Int32)) fun x4 =>
  some x4
  ) else (
  Option.bind (f_Tk_runOn σ o p1 x1) fun x2 =>
  Option.bind (f_Tk_endHere x2 o p1) fun x3 =>
  some x3
  )
set_option maxHeartbeats 4000000 in
set_option maxRecDepth 100000 in
theorem cC_Tk_followToInterception (l : Launch) (g : Ge) (hi : injB wC.2 g) (σ : St) (o : Nat) (ho : wC.2.2.1 o = .inr (9, 12)) (p1 : Int32) (x : St) (h : f_Tk_followToInterception σ o p1 = some x) : Ct l wC g yC_Tk_followToInterception qC_Tk_followToInterception 3 85 [.ref (g.1 o), .int p1] σ (none, x) := by
  refine Ct.of (out := o_v) FC_Tk_followToInterception rfl hi rfl h (fun z hz C => ?_)
  clear h
  subst hz
  unfold f_Tk_followToInterception
  show Rt z qC_Tk_followToInterception wC g o_v 0 [(0, .ref (g.1 o)), (1, .int p1)] [] σ _
  refine q_aload_n (pc' := 1) C 0 d_Tk_followToInterception_0 rfl rfl ?_
  refine q_iload_n (pc' := 2) C 1 d_Tk_followToInterception_1 rfl rfl ?_
  refine q_callVr (fr' := 2) (lo' := 43) (pc' := 5) C FC_Tk_interception lmC_Tk_143 d_Tk_followToInterception_2 o (jCo ho) ho cC_9 [.int p1] [] rfl rfl (Nat.le_of_ble_eq_true rfl) ⟨rfl, rfl⟩ (fun x h => cC_Tk_interception _ g hi σ o ho p1 x h) rfl (fun x1 hx1 => ?_)
  refine q_istore_n (pc' := 6) (lv' := [(2, .int x1), (0, .ref (g.1 o)), (1, .int p1)]) C d_Tk_followToInterception_5 (by decide) rfl rfl ?_
  refine q_iload_n (pc' := 7) C 0 d_Tk_followToInterception_6 rfl rfl ?_
  refine q_if_ne (tgt := 18) (pc' := 10) C d_Tk_followToInterception_7 rfl rfl ?_ ?_
  · refine q_aload_n (pc' := 19) C 1 d_Tk_followToInterception_18 rfl rfl ?_
    refine q_iload_n (pc' := 20) C 2 d_Tk_followToInterception_19 rfl rfl ?_
    refine q_iload_n (pc' := 21) C 0 d_Tk_followToInterception_20 rfl rfl ?_
    refine q_callVv (fr' := 2) (lo' := 48) (pc' := 24) C FC_Tk_runOn lmC_Tk_95 d_Tk_followToInterception_21 o (jCo ho) ho cC_9 [.int p1, .int x1] [] rfl rfl (Nat.le_of_ble_eq_true rfl) ⟨rfl, rfl⟩ (fun x h => cC_Tk_runOn _ g hi σ o ho p1 x1 x h) rfl (fun x2 hx2 => ?_)
    refine q_aload_n (pc' := 25) C 1 d_Tk_followToInterception_24 rfl rfl ?_
    refine q_iload_n (pc' := 26) C 2 d_Tk_followToInterception_25 rfl rfl ?_
    refine q_callVv (fr' := 1) (lo' := 23) (pc' := 29) C FC_Tk_endHere lmC_Tk_106 d_Tk_followToInterception_26 o (jCo ho) ho cC_9 [.int p1] [] rfl rfl (Nat.le_of_ble_eq_true rfl) ⟨rfl, rfl⟩ (fun x h => cC_Tk_endHere _ g hi x2 o ho p1 x h) rfl (fun x3 hx3 => ?_)
    exact q_vret C rfl d_Tk_followToInterception_29 rfl
  · refine q_aload_n (pc' := 11) C 1 d_Tk_followToInterception_10 rfl rfl ?_
    refine q_iload_n (pc' := 12) C 2 d_Tk_followToInterception_11 rfl rfl ?_
    refine q_bipush (pc' := 14) C d_Tk_followToInterception_12 kb_100 rfl ?_
    refine q_callVv (fr' := 2) (lo' := 48) (pc' := 17) C FC_Tk_runOn lmC_Tk_95 d_Tk_followToInterception_14 o (jCo ho) ho cC_9 [.int p1, .int (100 : Int32)] [] rfl rfl (Nat.le_of_ble_eq_true rfl) ⟨rfl, rfl⟩ (fun x h => cC_Tk_runOn _ g hi σ o ho p1 (100 : Int32) x h) rfl (fun x4 hx4 => ?_)
    exact q_vret C rfl d_Tk_followToInterception_17 rfl
theorem d_Tk_hold_0 : decode qC_Tk_hold.1 0 = .ok (.aload_n 0, 1) := by decide +kernel
theorem d_Tk_hold_1 : decode qC_Tk_hold.1 1 = .ok (.getfield 37, 3) := by decide +kernel
theorem d_Tk_hold_4 : decode qC_Tk_hold.1 4 = .ok (.getfield 98, 3) := by decide +kernel
theorem d_Tk_hold_7 : decode qC_Tk_hold.1 7 = .ok (.iload_n 1, 1) := by decide +kernel
theorem d_Tk_hold_8 : decode qC_Tk_hold.1 8 = .ok (.iconst 2, 1) := by decide +kernel
theorem d_Tk_hold_9 : decode qC_Tk_hold.1 9 = .ok (.invokevirtual 99, 3) := by decide +kernel
theorem d_Tk_hold_12 : decode qC_Tk_hold.1 12 = .ok (.istore_n 2, 1) := by decide +kernel
theorem d_Tk_hold_13 : decode qC_Tk_hold.1 13 = .ok (.aload_n 0, 1) := by decide +kernel
theorem d_Tk_hold_14 : decode qC_Tk_hold.1 14 = .ok (.getfield 37, 3) := by decide +kernel
theorem d_Tk_hold_17 : decode qC_Tk_hold.1 17 = .ok (.getfield 98, 3) := by decide +kernel
theorem d_Tk_hold_20 : decode qC_Tk_hold.1 20 = .ok (.iload_n 1, 1) := by decide +kernel
theorem d_Tk_hold_21 : decode qC_Tk_hold.1 21 = .ok (.iconst 4, 1) := by decide +kernel
theorem d_Tk_hold_22 : decode qC_Tk_hold.1 22 = .ok (.invokevirtual 99, 3) := by decide +kernel
theorem d_Tk_hold_25 : decode qC_Tk_hold.1 25 = .ok (.iconst 1, 1) := by decide +kernel
theorem d_Tk_hold_26 : decode qC_Tk_hold.1 26 = .ok (.if_icmp .ne 7, 3) := by decide +kernel
theorem d_Tk_hold_29 : decode qC_Tk_hold.1 29 = .ok (.iconst 1, 1) := by decide +kernel
theorem d_Tk_hold_30 : decode qC_Tk_hold.1 30 = .ok (.goto 4, 3) := by decide +kernel
theorem d_Tk_hold_33 : decode qC_Tk_hold.1 33 = .ok (.iconst 0, 1) := by decide +kernel
theorem d_Tk_hold_34 : decode qC_Tk_hold.1 34 = .ok (.istore_n 3, 1) := by decide +kernel
theorem d_Tk_hold_35 : decode qC_Tk_hold.1 35 = .ok (.aload_n 0, 1) := by decide +kernel
theorem d_Tk_hold_36 : decode qC_Tk_hold.1 36 = .ok (.getfield 45, 3) := by decide +kernel
theorem d_Tk_hold_39 : decode qC_Tk_hold.1 39 = .ok (.iload_n 1, 1) := by decide +kernel
theorem d_Tk_hold_40 : decode qC_Tk_hold.1 40 = .ok (.bipush 8, 2) := by decide +kernel
theorem d_Tk_hold_42 : decode qC_Tk_hold.1 42 = .ok (.aload_n 0, 1) := by decide +kernel
theorem d_Tk_hold_43 : decode qC_Tk_hold.1 43 = .ok (.getfield 21, 3) := by decide +kernel
theorem d_Tk_hold_46 : decode qC_Tk_hold.1 46 = .ok (.iconst (-1), 1) := by decide +kernel
theorem d_Tk_hold_47 : decode qC_Tk_hold.1 47 = .ok (.if_icmp .ne 7, 3) := by decide +kernel
theorem d_Tk_hold_50 : decode qC_Tk_hold.1 50 = .ok (.iconst 0, 1) := by decide +kernel
theorem d_Tk_hold_51 : decode qC_Tk_hold.1 51 = .ok (.goto 12, 3) := by decide +kernel
theorem d_Tk_hold_54 : decode qC_Tk_hold.1 54 = .ok (.aload_n 0, 1) := by decide +kernel
theorem d_Tk_hold_55 : decode qC_Tk_hold.1 55 = .ok (.getfield 24, 3) := by decide +kernel
theorem d_Tk_hold_58 : decode qC_Tk_hold.1 58 = .ok (.iload_n 2, 1) := by decide +kernel
theorem d_Tk_hold_59 : decode qC_Tk_hold.1 59 = .ok (.iload_n 3, 1) := by decide +kernel
theorem d_Tk_hold_60 : decode qC_Tk_hold.1 60 = .ok (.invokestatic 162, 3) := by decide +kernel
theorem d_Tk_hold_63 : decode qC_Tk_hold.1 63 = .ok (.invokevirtual 68, 3) := by decide +kernel
theorem d_Tk_hold_66 : decode qC_Tk_hold.1 66 = .ok (.aload_n 0, 1) := by decide +kernel
theorem d_Tk_hold_67 : decode qC_Tk_hold.1 67 = .ok (.iload_n 1, 1) := by decide +kernel
theorem d_Tk_hold_68 : decode qC_Tk_hold.1 68 = .ok (.iload_n 2, 1) := by decide +kernel
theorem d_Tk_hold_69 : decode qC_Tk_hold.1 69 = .ok (.aload_n 0, 1) := by decide +kernel
theorem d_Tk_hold_70 : decode qC_Tk_hold.1 70 = .ok (.getfield 37, 3) := by decide +kernel
theorem d_Tk_hold_73 : decode qC_Tk_hold.1 73 = .ok (.getfield 98, 3) := by decide +kernel
theorem d_Tk_hold_76 : decode qC_Tk_hold.1 76 = .ok (.iload_n 1, 1) := by decide +kernel
theorem d_Tk_hold_77 : decode qC_Tk_hold.1 77 = .ok (.iconst 5, 1) := by decide +kernel
theorem d_Tk_hold_78 : decode qC_Tk_hold.1 78 = .ok (.invokevirtual 99, 3) := by decide +kernel
theorem d_Tk_hold_81 : decode qC_Tk_hold.1 81 = .ok (.invokevirtual 112, 3) := by decide +kernel
theorem d_Tk_hold_84 : decode qC_Tk_hold.1 84 = .ok (.aload_n 0, 1) := by decide +kernel
theorem d_Tk_hold_85 : decode qC_Tk_hold.1 85 = .ok (.iconst 0, 1) := by decide +kernel
theorem d_Tk_hold_86 : decode qC_Tk_hold.1 86 = .ok (.putfield 30, 3) := by decide +kernel
theorem d_Tk_hold_89 : decode qC_Tk_hold.1 89 = .ok (.return_, 1) := by decide +kernel
set_option maxRecDepth 100000 in
def f_Tk_hold (σ : St) (o : Nat) (p1 : Int32) : Option (St) :=
  Option.bind (f_Tb_get σ (rc (rc o 0) 0) p1 (2 : Int32)) fun x1 =>
  Option.bind (f_Tb_get σ (rc (rc o 0) 0) p1 (4 : Int32)) fun x2 =>
  Jn (fun (x3 : Int32) =>
  Jn (fun (x5 : Int32) =>
  Option.bind (f_Tb_put σ (rc o 2) p1 (8 : Int32) x5) fun x7 =>
  Option.bind (f_Tb_get x7 (rc (rc o 0) 0) p1 (5 : Int32)) fun x8 =>
  Option.bind (f_Tk_comeFrom x7 o p1 x1 x8) fun x9 =>
  Lt (s2 x9 o 10 (0 : Int32)) fun σ10 =>
  some σ10
  ) fun J6 =>
  if ((σ o 7) : Int32) = (-1 : Int32) then (
  J6 (0 : Int32)
  ) else (
  Option.bind (f_Cm_entry (σ o 8) x1 x3) fun x11 =>
  J6 x11
  )
  ) fun J4 =>
  if (x2 : Int32) = (1 : Int32) then (
  J4 (1 : Int32)
  ) else (
  J4 (0 : Int32)
  )
set_option maxHeartbeats 4000000 in
set_option maxRecDepth 100000 in
theorem cC_Tk_hold (l : Launch) (g : Ge) (hi : injB wC.2 g) (σ : St) (o : Nat) (ho : wC.2.2.1 o = .inr (9, 12)) (p1 : Int32) (x : St) (h : f_Tk_hold σ o p1 = some x) : Ct l wC g yC_Tk_hold qC_Tk_hold 2 43 [.ref (g.1 o), .int p1] σ (none, x) := by
  refine Ct.of (out := o_v) FC_Tk_hold rfl hi rfl h (fun z hz C => ?_)
  clear h
  subst hz
  unfold f_Tk_hold
  show Rt z qC_Tk_hold wC g o_v 0 [(0, .ref (g.1 o)), (1, .int p1)] [] σ _
  refine q_aload_n (pc' := 1) C 0 d_Tk_hold_0 rfl rfl ?_
  refine gC_Tk_37 (pc' := 4) C o (rc o 0) ho (ly_9_0 ho).1 d_Tk_hold_1 rfl rfl ?_
  refine gC_Tk_98 (pc' := 7) C (rc o 0) (rc (rc o 0) 0) (ly_9_0 ho).2 (ly_3_0 (ly_9_0 ho).2).1 d_Tk_hold_4 rfl rfl ?_
  refine q_iload_n (pc' := 8) C 1 d_Tk_hold_7 rfl rfl ?_
  refine q_iconst (pc' := 9) C d_Tk_hold_8 ki_2 rfl ?_
  refine q_callVr (fr' := 0) (lo' := 0) (pc' := 12) C FC_Tb_get lmC_Tk_99 d_Tk_hold_9 (rc (rc o 0) 0) (jCo (ly_3_0 (ly_9_0 ho).2).2) (ly_3_0 (ly_9_0 ho).2).2 cC_8 [.int p1, .int (2 : Int32)] [] rfl rfl (Nat.le_of_ble_eq_true rfl) ⟨rfl, rfl⟩ (fun x h => cC_Tb_get _ g hi σ (rc (rc o 0) 0) (ly_3_0 (ly_9_0 ho).2).2 p1 (2 : Int32) x h) rfl (fun x1 hx1 => ?_)
  refine q_istore_n (pc' := 13) (lv' := [(2, .int x1), (0, .ref (g.1 o)), (1, .int p1)]) C d_Tk_hold_12 (by decide) rfl rfl ?_
  refine q_aload_n (pc' := 14) C 1 d_Tk_hold_13 rfl rfl ?_
  refine gC_Tk_37 (pc' := 17) C o (rc o 0) ho (ly_9_0 ho).1 d_Tk_hold_14 rfl rfl ?_
  refine gC_Tk_98 (pc' := 20) C (rc o 0) (rc (rc o 0) 0) (ly_9_0 ho).2 (ly_3_0 (ly_9_0 ho).2).1 d_Tk_hold_17 rfl rfl ?_
  refine q_iload_n (pc' := 21) C 2 d_Tk_hold_20 rfl rfl ?_
  refine q_iconst (pc' := 22) C d_Tk_hold_21 ki_4 rfl ?_
  refine q_callVr (fr' := 0) (lo' := 0) (pc' := 25) C FC_Tb_get lmC_Tk_99 d_Tk_hold_22 (rc (rc o 0) 0) (jCo (ly_3_0 (ly_9_0 ho).2).2) (ly_3_0 (ly_9_0 ho).2).2 cC_8 [.int p1, .int (4 : Int32)] [] rfl rfl (Nat.le_of_ble_eq_true rfl) ⟨rfl, rfl⟩ (fun x h => cC_Tb_get _ g hi σ (rc (rc o 0) 0) (ly_3_0 (ly_9_0 ho).2).2 p1 (4 : Int32) x h) rfl (fun x2 hx2 => ?_)
  refine q_iconst (pc' := 26) C d_Tk_hold_25 ki_1 rfl ?_
  refine q_join (fun J4 : Int32 → Option (St) => ∀ (x3 : Int32), Rt z qC_Tk_hold wC g o_v 34 [(0, .ref (g.1 o)), (1, .int p1), (2, .int x1)] [.int x3] σ (J4 x3)) (fun x3 => ?_) (fun J4 hJ4 => ?_)
  · refine q_istore_n (pc' := 35) (lv' := [(3, .int x3), (0, .ref (g.1 o)), (1, .int p1), (2, .int x1)]) C d_Tk_hold_34 (by decide) rfl rfl ?_
    refine q_aload_n (pc' := 36) C 1 d_Tk_hold_35 rfl rfl ?_
    refine gC_Tk_45 (pc' := 39) C o (rc o 2) ho (ly_9_2 ho).1 d_Tk_hold_36 rfl rfl ?_
    refine q_iload_n (pc' := 40) C 2 d_Tk_hold_39 rfl rfl ?_
    refine q_bipush (pc' := 42) C d_Tk_hold_40 kb_8 rfl ?_
    refine q_aload_n (pc' := 43) C 1 d_Tk_hold_42 rfl rfl ?_
    refine gC_Tk_21 (pc' := 46) C o ho d_Tk_hold_43 rfl rfl ?_
    refine q_iconst (pc' := 47) C d_Tk_hold_46 ki_m1 rfl ?_
    refine q_join (fun J6 : Int32 → Option (St) => ∀ (x5 : Int32), Rt z qC_Tk_hold wC g o_v 63 [(0, .ref (g.1 o)), (1, .int p1), (2, .int x1)] [.int x5, .int (8 : Int32), .int p1, .ref (g.1 (rc o 2))] σ (J6 x5)) (fun x5 => ?_) (fun J6 hJ6 => ?_)
    · refine q_callVv (fr' := 0) (lo' := 0) (pc' := 66) C FC_Tb_put lmC_Tk_68 d_Tk_hold_63 (rc o 2) (jCo (ly_9_2 ho).2) (ly_9_2 ho).2 cC_8 [.int p1, .int (8 : Int32), .int x5] [] rfl rfl (Nat.le_of_ble_eq_true rfl) ⟨rfl, rfl⟩ (fun x h => cC_Tb_put _ g hi σ (rc o 2) (ly_9_2 ho).2 p1 (8 : Int32) x5 x h) rfl (fun x7 hx7 => ?_)
      refine q_aload_n (pc' := 67) C 0 d_Tk_hold_66 rfl rfl ?_
      refine q_iload_n (pc' := 68) C 1 d_Tk_hold_67 rfl rfl ?_
      refine q_iload_n (pc' := 69) C 2 d_Tk_hold_68 rfl rfl ?_
      refine q_aload_n (pc' := 70) C 0 d_Tk_hold_69 rfl rfl ?_
      refine gC_Tk_37 (pc' := 73) C o (rc o 0) ho (ly_9_0 ho).1 d_Tk_hold_70 rfl rfl ?_
      refine gC_Tk_98 (pc' := 76) C (rc o 0) (rc (rc o 0) 0) (ly_9_0 ho).2 (ly_3_0 (ly_9_0 ho).2).1 d_Tk_hold_73 rfl rfl ?_
      refine q_iload_n (pc' := 77) C 1 d_Tk_hold_76 rfl rfl ?_
      refine q_iconst (pc' := 78) C d_Tk_hold_77 ki_5 rfl ?_
      refine q_callVr (fr' := 0) (lo' := 0) (pc' := 81) C FC_Tb_get lmC_Tk_99 d_Tk_hold_78 (rc (rc o 0) 0) (jCo (ly_3_0 (ly_9_0 ho).2).2) (ly_3_0 (ly_9_0 ho).2).2 cC_8 [.int p1, .int (5 : Int32)] [.int x1, .int p1, .ref (g.1 o)] rfl rfl (Nat.le_of_ble_eq_true rfl) ⟨rfl, rfl⟩ (fun x h => cC_Tb_get _ g hi x7 (rc (rc o 0) 0) (ly_3_0 (ly_9_0 ho).2).2 p1 (5 : Int32) x h) rfl (fun x8 hx8 => ?_)
      refine q_callVv (fr' := 0) (lo' := 0) (pc' := 84) C FC_Tk_comeFrom lmC_Tk_112 d_Tk_hold_81 o (jCo ho) ho cC_9 [.int p1, .int x1, .int x8] [] rfl rfl (Nat.le_of_ble_eq_true rfl) ⟨rfl, rfl⟩ (fun x h => cC_Tk_comeFrom _ g hi x7 o ho p1 x1 x8 x h) rfl (fun x9 hx9 => ?_)
      refine q_aload_n (pc' := 85) C 0 d_Tk_hold_84 rfl rfl ?_
      refine q_iconst (pc' := 86) C d_Tk_hold_85 ki_0 rfl ?_
      refine pC_Tk_30 (pc' := 89) C o ho d_Tk_hold_86 (by decide) rfl rfl ?_
      refine q_let (fun σ10 e10 => ?_)
      refine q_state e10 ?_
      exact q_vret C rfl d_Tk_hold_89 rfl
    refine q_icmp_ne (tgt := 54) (pc' := 50) C d_Tk_hold_47 rfl rfl ?_ ?_
    · refine q_aload_n (pc' := 55) C 1 d_Tk_hold_54 rfl rfl ?_
      refine gC_Tk_24 (pc' := 58) C o ho d_Tk_hold_55 rfl rfl ?_
      refine q_iload_n (pc' := 59) C 3 d_Tk_hold_58 rfl rfl ?_
      refine q_iload_n (pc' := 60) C 0 d_Tk_hold_59 rfl rfl ?_
      refine q_callSr (fr' := 1) (lo' := 20) (pc' := 63) C FC_Cm_entry lmC_Tk_162 d_Tk_hold_60 [.int (σ o 8), .int x1, .int x3] [.int (8 : Int32), .int p1, .ref (g.1 (rc o 2))] rfl rfl (Nat.le_of_ble_eq_true rfl) ⟨rfl, rfl⟩ (fun x h => cC_Cm_entry _ g hi σ (σ o 8) x1 x3 x h) rfl (fun x11 hx11 => ?_)
      exact Rt.sub [1, 2, 3] rfl (hJ6 x11)
    · refine q_iconst (pc' := 51) C d_Tk_hold_50 ki_0 rfl ?_
      refine q_goto (tgt := 63) C d_Tk_hold_51 rfl ?_
      exact Rt.sub [1, 2, 3] rfl (hJ6 (0 : Int32))
  refine q_icmp_ne (tgt := 33) (pc' := 29) C d_Tk_hold_26 rfl rfl ?_ ?_
  · refine q_iconst (pc' := 34) C d_Tk_hold_33 ki_0 rfl ?_
    exact Rt.sub [1, 2, 0] rfl (hJ4 (0 : Int32))
  · refine q_iconst (pc' := 30) C d_Tk_hold_29 ki_1 rfl ?_
    refine q_goto (tgt := 34) C d_Tk_hold_30 rfl ?_
    exact Rt.sub [1, 2, 0] rfl (hJ4 (1 : Int32))
