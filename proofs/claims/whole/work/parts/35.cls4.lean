/-! the methods of the program, 4 -/
theorem d_Pc_endLeg_0 : decode qC_Pc_endLeg.1 0 = .ok (.aload_n 0, 1) := by decide +kernel
theorem d_Pc_endLeg_1 : decode qC_Pc_endLeg.1 1 = .ok (.getfield 30, 3) := by decide +kernel
theorem d_Pc_endLeg_4 : decode qC_Pc_endLeg.1 4 = .ok (.iload_n 1, 1) := by decide +kernel
theorem d_Pc_endLeg_5 : decode qC_Pc_endLeg.1 5 = .ok (.invokevirtual 67, 3) := by decide +kernel
theorem d_Pc_endLeg_8 : decode qC_Pc_endLeg.1 8 = .ok (.bipush 7, 2) := by decide +kernel
theorem d_Pc_endLeg_10 : decode qC_Pc_endLeg.1 10 = .ok (.if_icmp .ne 8, 3) := by decide +kernel
theorem d_Pc_endLeg_13 : decode qC_Pc_endLeg.1 13 = .ok (.aload_n 0, 1) := by decide +kernel
theorem d_Pc_endLeg_14 : decode qC_Pc_endLeg.1 14 = .ok (.iload_n 1, 1) := by decide +kernel
theorem d_Pc_endLeg_15 : decode qC_Pc_endLeg.1 15 = .ok (.invokevirtual 92, 3) := by decide +kernel
theorem d_Pc_endLeg_18 : decode qC_Pc_endLeg.1 18 = .ok (.aload_n 0, 1) := by decide +kernel
theorem d_Pc_endLeg_19 : decode qC_Pc_endLeg.1 19 = .ok (.getfield 15, 3) := by decide +kernel
theorem d_Pc_endLeg_22 : decode qC_Pc_endLeg.1 22 = .ok (.istore_n 2, 1) := by decide +kernel
theorem d_Pc_endLeg_23 : decode qC_Pc_endLeg.1 23 = .ok (.iload_n 2, 1) := by decide +kernel
theorem d_Pc_endLeg_24 : decode qC_Pc_endLeg.1 24 = .ok (.aload_n 0, 1) := by decide +kernel
theorem d_Pc_endLeg_25 : decode qC_Pc_endLeg.1 25 = .ok (.getfield 9, 3) := by decide +kernel
theorem d_Pc_endLeg_28 : decode qC_Pc_endLeg.1 28 = .ok (.if_icmp .ge 15, 3) := by decide +kernel
theorem d_Pc_endLeg_31 : decode qC_Pc_endLeg.1 31 = .ok (.aload_n 0, 1) := by decide +kernel
theorem d_Pc_endLeg_32 : decode qC_Pc_endLeg.1 32 = .ok (.iload_n 1, 1) := by decide +kernel
theorem d_Pc_endLeg_33 : decode qC_Pc_endLeg.1 33 = .ok (.iload_n 2, 1) := by decide +kernel
theorem d_Pc_endLeg_34 : decode qC_Pc_endLeg.1 34 = .ok (.invokevirtual 95, 3) := by decide +kernel
theorem d_Pc_endLeg_37 : decode qC_Pc_endLeg.1 37 = .ok (.iinc 2 1, 3) := by decide +kernel
theorem d_Pc_endLeg_40 : decode qC_Pc_endLeg.1 40 = .ok (.goto (-17), 3) := by decide +kernel
theorem d_Pc_endLeg_43 : decode qC_Pc_endLeg.1 43 = .ok (.return_, 1) := by decide +kernel
set_option maxRecDepth 100000 in
def lb_f_Pc_endLeg_23 (o : Nat) (p1 : Int32) (J6 : St → Option (St)) (ih8 : Int32 × St → Option (St)) (a7 : Int32 × St) : Option (St) :=
  if ((a7.2 o 5) : Int32) ≤ a7.1 then (
  J6 a7.2
  ) else (
  Option.bind (f_Pc_addToLeg a7.2 o p1 a7.1) fun x9 =>
  Lt (a7.1 + (1 : Int32) : Int32) fun x10 =>
  ih8 (x10, x9)
  )
set_option maxRecDepth 100000 in
def f_Pc_endLeg (σ : St) (o : Nat) (p1 : Int32) : Option (St) :=
  Option.bind (f_Pl_kind σ (rc o 0) p1) fun x1 =>
  Jn (fun (σ2 : St) =>
  Lt ((σ2 o 6) : Int32) fun x4 =>
  Jn (fun (σ5 : St) =>
  some σ5
  ) fun J6 =>
  lp (lb_f_Pc_endLeg_23 o p1 J6) 4000 (x4, σ2)
  ) fun J3 =>
  if (x1 : Int32) = (7 : Int32) then (
  Option.bind (f_Pc_drawPattern σ o p1) fun x11 =>
  J3 x11
  ) else (
  J3 σ
  )
set_option maxHeartbeats 4000000 in
set_option maxRecDepth 100000 in
theorem cC_Pc_endLeg (l : Launch) (g : Ge) (hi : injB wC.2 g) (σ : St) (o : Nat) (ho : wC.2.2.1 o = .inr (2, 11)) (p1 : Int32) (x : St) (h : f_Pc_endLeg σ o p1 = some x) : Ct l wC g yC_Pc_endLeg qC_Pc_endLeg 4 92 [.ref (g.1 o), .int p1] σ (none, x) := by
  refine Ct.of (out := o_v) FC_Pc_endLeg rfl hi rfl h (fun z hz C => ?_)
  clear h
  subst hz
  unfold f_Pc_endLeg
  show Rt z qC_Pc_endLeg wC g o_v 0 [(0, .ref (g.1 o)), (1, .int p1)] [] σ _
  refine q_aload_n (pc' := 1) C 0 d_Pc_endLeg_0 rfl rfl ?_
  refine gC_Pc_30 (pc' := 4) C o (rc o 0) ho (ly_2_0 ho).1 d_Pc_endLeg_1 rfl rfl ?_
  refine q_iload_n (pc' := 5) C 1 d_Pc_endLeg_4 rfl rfl ?_
  refine q_callVr (fr' := 1) (lo' := 22) (pc' := 8) C FC_Pl_kind lmC_Pc_67 d_Pc_endLeg_5 (rc o 0) (jCo (ly_2_0 ho).2) (ly_2_0 ho).2 cC_3 [.int p1] [] rfl rfl (Nat.le_of_ble_eq_true rfl) ⟨rfl, rfl⟩ (fun x h => cC_Pl_kind _ g hi σ (rc o 0) (ly_2_0 ho).2 p1 x h) rfl (fun x1 hx1 => ?_)
  refine q_bipush (pc' := 10) C d_Pc_endLeg_8 kb_7 rfl ?_
  refine q_join (fun J3 : St → Option (St) => ∀ (σ2 : St), Rt z qC_Pc_endLeg wC g o_v 18 [(0, .ref (g.1 o)), (1, .int p1)] [] σ2 (J3 σ2)) (fun σ2 => ?_) (fun J3 hJ3 => ?_)
  · refine q_aload_n (pc' := 19) C 0 d_Pc_endLeg_18 rfl rfl ?_
    refine gC_Pc_15 (pc' := 22) C o ho d_Pc_endLeg_19 rfl rfl ?_
    refine q_let (fun x4 e4 => ?_)
    refine q_topi e4 ?_
    refine q_istore_n (pc' := 23) (lv' := [(2, .int x4), (0, .ref (g.1 o)), (1, .int p1)]) C d_Pc_endLeg_22 (by decide) rfl rfl ?_
    refine q_join (fun J6 : St → Option (St) => ∀ (σ5 : St), Rt z qC_Pc_endLeg wC g o_v 43 [] [] σ5 (J6 σ5)) (fun σ5 => ?_) (fun J6 hJ6 => ?_)
    · exact q_vret C rfl d_Pc_endLeg_43 rfl
    refine Rt.sub [1, 2, 0] rfl (q_lp (fun a7 : Int32 × St => [(0, .ref (g.1 o)), (1, .int p1), (2, .int a7.1)]) (fun a7 => []) (fun a7 => a7.2) (fun ih8 hih8 a7 => ?_) 4000 (x4, σ2))
    unfold lb_f_Pc_endLeg_23
    refine q_iload_n (pc' := 24) C 2 d_Pc_endLeg_23 rfl rfl ?_
    refine q_aload_n (pc' := 25) C 0 d_Pc_endLeg_24 rfl rfl ?_
    refine gC_Pc_9 (pc' := 28) C o ho d_Pc_endLeg_25 rfl rfl ?_
    refine q_icmp_ge (tgt := 43) (pc' := 31) C d_Pc_endLeg_28 rfl rfl ?_ ?_
    · exact Rt.sub [] rfl (hJ6 a7.2)
    · refine q_aload_n (pc' := 32) C 0 d_Pc_endLeg_31 rfl rfl ?_
      refine q_iload_n (pc' := 33) C 1 d_Pc_endLeg_32 rfl rfl ?_
      refine q_iload_n (pc' := 34) C 2 d_Pc_endLeg_33 rfl rfl ?_
      refine q_callVv (fr' := 3) (lo' := 65) (pc' := 37) C FC_Pc_addToLeg lmC_Pc_95 d_Pc_endLeg_34 o (jCo ho) ho cC_2 [.int p1, .int a7.1] [] rfl rfl (Nat.le_of_ble_eq_true rfl) ⟨rfl, rfl⟩ (fun x h => cC_Pc_addToLeg _ g hi a7.2 o ho p1 a7.1 x h) rfl (fun x9 hx9 => ?_)
      refine q_let (fun x10 e10 => ?_)
      refine q_iinc (pc' := 40) (lv' := [(2, .int x10), (0, .ref (g.1 o)), (1, .int p1)]) C 2 d_Pc_endLeg_37 rfl (by rw [e10, ki_1]) (by decide) rfl rfl ?_
      refine q_goto (tgt := 23) C d_Pc_endLeg_40 rfl ?_
      exact Rt.sub [1, 2, 0] rfl (hih8 (x10, x9))
  refine q_icmp_ne (tgt := 18) (pc' := 13) C d_Pc_endLeg_10 rfl rfl ?_ ?_
  · exact Rt.sub [0, 1] rfl (hJ3 σ)
  · refine q_aload_n (pc' := 14) C 0 d_Pc_endLeg_13 rfl rfl ?_
    refine q_iload_n (pc' := 15) C 1 d_Pc_endLeg_14 rfl rfl ?_
    refine q_callVv (fr' := 2) (lo' := 49) (pc' := 18) C FC_Pc_drawPattern lmC_Pc_92 d_Pc_endLeg_15 o (jCo ho) ho cC_2 [.int p1] [] rfl rfl (Nat.le_of_ble_eq_true rfl) ⟨rfl, rfl⟩ (fun x h => cC_Pc_drawPattern _ g hi σ o ho p1 x h) rfl (fun x11 hx11 => ?_)
    exact Rt.sub [0, 1] rfl (hJ3 x11)
theorem d_Sg_changeOver_0 : decode qC_Sg_changeOver.1 0 = .ok (.iload_n 0, 1) := by decide +kernel
theorem d_Sg_changeOver_1 : decode qC_Sg_changeOver.1 1 = .ok (.i2l, 1) := by decide +kernel
theorem d_Sg_changeOver_2 : decode qC_Sg_changeOver.1 2 = .ok (.iload_n 1, 1) := by decide +kernel
theorem d_Sg_changeOver_3 : decode qC_Sg_changeOver.1 3 = .ok (.i2l, 1) := by decide +kernel
theorem d_Sg_changeOver_4 : decode qC_Sg_changeOver.1 4 = .ok (.lmul, 1) := by decide +kernel
theorem d_Sg_changeOver_5 : decode qC_Sg_changeOver.1 5 = .ok (.ldc2_w 72, 3) := by decide +kernel
theorem d_Sg_changeOver_8 : decode qC_Sg_changeOver.1 8 = .ok (.ldiv, 1) := by decide +kernel
theorem d_Sg_changeOver_9 : decode qC_Sg_changeOver.1 9 = .ok (.l2i, 1) := by decide +kernel
theorem d_Sg_changeOver_10 : decode qC_Sg_changeOver.1 10 = .ok (.ireturn, 1) := by decide +kernel
set_option maxRecDepth 100000 in
def f_Sg_changeOver (p0 : Int32) (p1 : Int32) : Option (Int32) :=
  some (Int64.toInt32 (((Int32.toInt64 p0) * (Int32.toInt64 p1)) / (1000 : Int64)))
set_option maxHeartbeats 4000000 in
set_option maxRecDepth 100000 in
theorem cC_Sg_changeOver (l : Launch) (g : Ge) (hi : injB wC.2 g) (σ : St) (p0 : Int32) (p1 : Int32) (x : Int32) (h : f_Sg_changeOver p0 p1 = some x) : Ct l wC g yC_Sg_changeOver qC_Sg_changeOver 0 0 [.int p0, .int p1] σ (some (.int x), σ) := by
  refine Ct.of (out := (o_r σ)) FC_Sg_changeOver rfl hi rfl h (fun z hz C => ?_)
  clear h
  subst hz
  unfold f_Sg_changeOver
  show Rt z qC_Sg_changeOver wC g (o_r σ) 0 [(0, .int p0), (1, .int p1)] [] σ _
  refine q_iload_n (pc' := 1) C 0 d_Sg_changeOver_0 rfl rfl ?_
  refine q_i2l (pc' := 2) C d_Sg_changeOver_1 rfl ?_
  refine q_iload_n (pc' := 3) C 1 d_Sg_changeOver_2 rfl rfl ?_
  refine q_i2l (pc' := 4) C d_Sg_changeOver_3 rfl ?_
  refine q_lmul (pc' := 5) C d_Sg_changeOver_4 rfl ?_
  refine q_ldc2 (pc' := 8) C lLC_Sg_72 d_Sg_changeOver_5 rfl ?_
  refine q_ldiv (pc' := 9) C (by decide) d_Sg_changeOver_8 rfl ?_
  refine q_l2i (pc' := 10) C d_Sg_changeOver_9 rfl ?_
  exact q_iret C rfl d_Sg_changeOver_10 rfl
theorem d_Pf_heightBefore_0 : decode qC_Pf_heightBefore.1 0 = .ok (.iload_n 1, 1) := by decide +kernel
theorem d_Pf_heightBefore_1 : decode qC_Pf_heightBefore.1 1 = .ok (.ifCond .ne 13, 3) := by decide +kernel
theorem d_Pf_heightBefore_4 : decode qC_Pf_heightBefore.1 4 = .ok (.aload_n 0, 1) := by decide +kernel
theorem d_Pf_heightBefore_5 : decode qC_Pf_heightBefore.1 5 = .ok (.getfield 15, 3) := by decide +kernel
theorem d_Pf_heightBefore_8 : decode qC_Pf_heightBefore.1 8 = .ok (.getfield 57, 3) := by decide +kernel
theorem d_Pf_heightBefore_11 : decode qC_Pf_heightBefore.1 11 = .ok (.goto 14, 3) := by decide +kernel
theorem d_Pf_heightBefore_14 : decode qC_Pf_heightBefore.1 14 = .ok (.aload_n 0, 1) := by decide +kernel
theorem d_Pf_heightBefore_15 : decode qC_Pf_heightBefore.1 15 = .ok (.getfield 19, 3) := by decide +kernel
theorem d_Pf_heightBefore_18 : decode qC_Pf_heightBefore.1 18 = .ok (.iload_n 1, 1) := by decide +kernel
theorem d_Pf_heightBefore_19 : decode qC_Pf_heightBefore.1 19 = .ok (.iconst 1, 1) := by decide +kernel
theorem d_Pf_heightBefore_20 : decode qC_Pf_heightBefore.1 20 = .ok (.isub, 1) := by decide +kernel
theorem d_Pf_heightBefore_21 : decode qC_Pf_heightBefore.1 21 = .ok (.iload_n 2, 1) := by decide +kernel
theorem d_Pf_heightBefore_22 : decode qC_Pf_heightBefore.1 22 = .ok (.invokevirtual 38, 3) := by decide +kernel
theorem d_Pf_heightBefore_25 : decode qC_Pf_heightBefore.1 25 = .ok (.ireturn, 1) := by decide +kernel
set_option maxRecDepth 100000 in
def f_Pf_heightBefore (σ : St) (o : Nat) (p1 : Int32) (p2 : Int32) : Option (Int32) :=
  Jn (fun (x1 : Int32) =>
  some x1
  ) fun J2 =>
  if (p1 : Int32) = 0 then (
  J2 (σ (rc o 1) 9)
  ) else (
  Option.bind (f_Tb_get σ (rc o 2) (p1 - (1 : Int32)) p2) fun x3 =>
  J2 x3
  )
set_option maxHeartbeats 4000000 in
set_option maxRecDepth 100000 in
theorem cC_Pf_heightBefore (l : Launch) (g : Ge) (hi : injB wC.2 g) (σ : St) (o : Nat) (ho : wC.2.2.1 o = .inr (4, 3)) (p1 : Int32) (p2 : Int32) (x : Int32) (h : f_Pf_heightBefore σ o p1 p2 = some x) : Ct l wC g yC_Pf_heightBefore qC_Pf_heightBefore 1 22 [.ref (g.1 o), .int p1, .int p2] σ (some (.int x), σ) := by
  refine Ct.of (out := (o_r σ)) FC_Pf_heightBefore rfl hi rfl h (fun z hz C => ?_)
  clear h
  subst hz
  unfold f_Pf_heightBefore
  show Rt z qC_Pf_heightBefore wC g (o_r σ) 0 [(0, .ref (g.1 o)), (1, .int p1), (2, .int p2)] [] σ _
  refine q_iload_n (pc' := 1) C 1 d_Pf_heightBefore_0 rfl rfl ?_
  refine q_join (fun J2 : Int32 → Option (Int32) => ∀ (x1 : Int32), Rt z qC_Pf_heightBefore wC g (o_r σ) 25 [] [.int x1] σ (J2 x1)) (fun x1 => ?_) (fun J2 hJ2 => ?_)
  · exact q_iret C rfl d_Pf_heightBefore_25 rfl
  refine q_if_ne (tgt := 14) (pc' := 4) C d_Pf_heightBefore_1 rfl rfl ?_ ?_
  · refine q_aload_n (pc' := 15) C 0 d_Pf_heightBefore_14 rfl rfl ?_
    refine gC_Pf_19 (pc' := 18) C o (rc o 2) ho (ly_4_2 ho).1 d_Pf_heightBefore_15 rfl rfl ?_
    refine q_iload_n (pc' := 19) C 1 d_Pf_heightBefore_18 rfl rfl ?_
    refine q_iconst (pc' := 20) C d_Pf_heightBefore_19 ki_1 rfl ?_
    refine q_isub (pc' := 21) C d_Pf_heightBefore_20 rfl ?_
    refine q_iload_n (pc' := 22) C 2 d_Pf_heightBefore_21 rfl rfl ?_
    refine q_callVr (fr' := 0) (lo' := 0) (pc' := 25) C FC_Tb_get lmC_Pf_38 d_Pf_heightBefore_22 (rc o 2) (jCo (ly_4_2 ho).2) (ly_4_2 ho).2 cC_8 [.int (p1 - (1 : Int32)), .int p2] [] rfl rfl (Nat.le_of_ble_eq_true rfl) ⟨rfl, rfl⟩ (fun x h => cC_Tb_get _ g hi σ (rc o 2) (ly_4_2 ho).2 (p1 - (1 : Int32)) p2 x h) rfl (fun x3 hx3 => ?_)
    exact Rt.sub [] rfl (hJ2 x3)
  · refine q_aload_n (pc' := 5) C 0 d_Pf_heightBefore_4 rfl rfl ?_
    refine gC_Pf_15 (pc' := 8) C o (rc o 1) ho (ly_4_1 ho).1 d_Pf_heightBefore_5 rfl rfl ?_
    refine gC_Pf_57 (pc' := 11) C (rc o 1) (ly_4_1 ho).2 d_Pf_heightBefore_8 rfl rfl ?_
    refine q_goto (tgt := 25) C d_Pf_heightBefore_11 rfl ?_
    exact Rt.sub [] rfl (hJ2 (σ (rc o 1) 9))
theorem d_Pf_climb_0 : decode qC_Pf_climb.1 0 = .ok (.aload_n 0, 1) := by decide +kernel
theorem d_Pf_climb_1 : decode qC_Pf_climb.1 1 = .ok (.getfield 19, 3) := by decide +kernel
theorem d_Pf_climb_4 : decode qC_Pf_climb.1 4 = .ok (.iload_n 1, 1) := by decide +kernel
theorem d_Pf_climb_5 : decode qC_Pf_climb.1 5 = .ok (.bipush 9, 2) := by decide +kernel
theorem d_Pf_climb_7 : decode qC_Pf_climb.1 7 = .ok (.invokevirtual 38, 3) := by decide +kernel
theorem d_Pf_climb_10 : decode qC_Pf_climb.1 10 = .ok (.aload_n 0, 1) := by decide +kernel
theorem d_Pf_climb_11 : decode qC_Pf_climb.1 11 = .ok (.getfield 15, 3) := by decide +kernel
theorem d_Pf_climb_14 : decode qC_Pf_climb.1 14 = .ok (.getfield 62, 3) := by decide +kernel
theorem d_Pf_climb_17 : decode qC_Pf_climb.1 17 = .ok (.invokestatic 65, 3) := by decide +kernel
theorem d_Pf_climb_20 : decode qC_Pf_climb.1 20 = .ok (.istore_n 2, 1) := by decide +kernel
theorem d_Pf_climb_21 : decode qC_Pf_climb.1 21 = .ok (.aload_n 0, 1) := by decide +kernel
theorem d_Pf_climb_22 : decode qC_Pf_climb.1 22 = .ok (.iload_n 1, 1) := by decide +kernel
theorem d_Pf_climb_23 : decode qC_Pf_climb.1 23 = .ok (.bipush 12, 2) := by decide +kernel
theorem d_Pf_climb_25 : decode qC_Pf_climb.1 25 = .ok (.invokevirtual 68, 3) := by decide +kernel
theorem d_Pf_climb_28 : decode qC_Pf_climb.1 28 = .ok (.iload_n 2, 1) := by decide +kernel
theorem d_Pf_climb_29 : decode qC_Pf_climb.1 29 = .ok (.iadd, 1) := by decide +kernel
theorem d_Pf_climb_30 : decode qC_Pf_climb.1 30 = .ok (.istore_n 3, 1) := by decide +kernel
theorem d_Pf_climb_31 : decode qC_Pf_climb.1 31 = .ok (.aload_n 0, 1) := by decide +kernel
theorem d_Pf_climb_32 : decode qC_Pf_climb.1 32 = .ok (.getfield 15, 3) := by decide +kernel
theorem d_Pf_climb_35 : decode qC_Pf_climb.1 35 = .ok (.getfield 71, 3) := by decide +kernel
theorem d_Pf_climb_38 : decode qC_Pf_climb.1 38 = .ok (.aload_n 0, 1) := by decide +kernel
theorem d_Pf_climb_39 : decode qC_Pf_climb.1 39 = .ok (.getfield 9, 3) := by decide +kernel
theorem d_Pf_climb_42 : decode qC_Pf_climb.1 42 = .ok (.getfield 74, 3) := by decide +kernel
theorem d_Pf_climb_45 : decode qC_Pf_climb.1 45 = .ok (.iload_n 1, 1) := by decide +kernel
theorem d_Pf_climb_46 : decode qC_Pf_climb.1 46 = .ok (.bipush 10, 2) := by decide +kernel
theorem d_Pf_climb_48 : decode qC_Pf_climb.1 48 = .ok (.invokevirtual 38, 3) := by decide +kernel
theorem d_Pf_climb_51 : decode qC_Pf_climb.1 51 = .ok (.invokestatic 44, 3) := by decide +kernel
theorem d_Pf_climb_54 : decode qC_Pf_climb.1 54 = .ok (.istore 4, 2) := by decide +kernel
theorem d_Pf_climb_56 : decode qC_Pf_climb.1 56 = .ok (.aload_n 0, 1) := by decide +kernel
theorem d_Pf_climb_57 : decode qC_Pf_climb.1 57 = .ok (.getfield 19, 3) := by decide +kernel
theorem d_Pf_climb_60 : decode qC_Pf_climb.1 60 = .ok (.iload_n 1, 1) := by decide +kernel
theorem d_Pf_climb_61 : decode qC_Pf_climb.1 61 = .ok (.bipush 12, 2) := by decide +kernel
theorem d_Pf_climb_63 : decode qC_Pf_climb.1 63 = .ok (.iload 4, 2) := by decide +kernel
theorem d_Pf_climb_65 : decode qC_Pf_climb.1 65 = .ok (.iload_n 3, 1) := by decide +kernel
theorem d_Pf_climb_66 : decode qC_Pf_climb.1 66 = .ok (.invokestatic 44, 3) := by decide +kernel
theorem d_Pf_climb_69 : decode qC_Pf_climb.1 69 = .ok (.invokevirtual 49, 3) := by decide +kernel
theorem d_Pf_climb_72 : decode qC_Pf_climb.1 72 = .ok (.return_, 1) := by decide +kernel
set_option maxRecDepth 100000 in
def f_Pf_climb (σ : St) (o : Nat) (p1 : Int32) : Option (St) :=
  Option.bind (f_Tb_get σ (rc o 2) p1 (9 : Int32)) fun x1 =>
  Option.bind (f_Sg_changeOver x1 (σ (rc o 1) 6)) fun x2 =>
  Option.bind (f_Pf_heightBefore σ o p1 (12 : Int32)) fun x3 =>
  Lt ((x3 + x2) : Int32) fun x4 =>
  Option.bind (f_Tb_get σ (rc (rc o 0) 0) p1 (10 : Int32)) fun x5 =>
  Lt ((imin (σ (rc o 1) 4) x5) : Int32) fun x6 =>
  Option.bind (f_Tb_put σ (rc o 2) p1 (12 : Int32) (imin x6 x4)) fun x7 =>
  some x7
set_option maxHeartbeats 4000000 in
set_option maxRecDepth 100000 in
theorem cC_Pf_climb (l : Launch) (g : Ge) (hi : injB wC.2 g) (σ : St) (o : Nat) (ho : wC.2.2.1 o = .inr (4, 3)) (p1 : Int32) (x : St) (h : f_Pf_climb σ o p1 = some x) : Ct l wC g yC_Pf_climb qC_Pf_climb 2 44 [.ref (g.1 o), .int p1] σ (none, x) := by
  refine Ct.of (out := o_v) FC_Pf_climb rfl hi rfl h (fun z hz C => ?_)
  clear h
  subst hz
  unfold f_Pf_climb
  show Rt z qC_Pf_climb wC g o_v 0 [(0, .ref (g.1 o)), (1, .int p1)] [] σ _
  refine q_aload_n (pc' := 1) C 0 d_Pf_climb_0 rfl rfl ?_
  refine gC_Pf_19 (pc' := 4) C o (rc o 2) ho (ly_4_2 ho).1 d_Pf_climb_1 rfl rfl ?_
  refine q_iload_n (pc' := 5) C 1 d_Pf_climb_4 rfl rfl ?_
  refine q_bipush (pc' := 7) C d_Pf_climb_5 kb_9 rfl ?_
  refine q_callVr (fr' := 0) (lo' := 0) (pc' := 10) C FC_Tb_get lmC_Pf_38 d_Pf_climb_7 (rc o 2) (jCo (ly_4_2 ho).2) (ly_4_2 ho).2 cC_8 [.int p1, .int (9 : Int32)] [] rfl rfl (Nat.le_of_ble_eq_true rfl) ⟨rfl, rfl⟩ (fun x h => cC_Tb_get _ g hi σ (rc o 2) (ly_4_2 ho).2 p1 (9 : Int32) x h) rfl (fun x1 hx1 => ?_)
  refine q_aload_n (pc' := 11) C 0 d_Pf_climb_10 rfl rfl ?_
  refine gC_Pf_15 (pc' := 14) C o (rc o 1) ho (ly_4_1 ho).1 d_Pf_climb_11 rfl rfl ?_
  refine gC_Pf_62 (pc' := 17) C (rc o 1) (ly_4_1 ho).2 d_Pf_climb_14 rfl rfl ?_
  refine q_callSr (fr' := 0) (lo' := 0) (pc' := 20) C FC_Sg_changeOver lmC_Pf_65 d_Pf_climb_17 [.int x1, .int (σ (rc o 1) 6)] [] rfl rfl (Nat.le_of_ble_eq_true rfl) ⟨rfl, rfl⟩ (fun x h => cC_Sg_changeOver _ g hi σ x1 (σ (rc o 1) 6) x h) rfl (fun x2 hx2 => ?_)
  refine q_istore_n (pc' := 21) (lv' := [(2, .int x2), (0, .ref (g.1 o)), (1, .int p1)]) C d_Pf_climb_20 (by decide) rfl rfl ?_
  refine q_aload_n (pc' := 22) C 1 d_Pf_climb_21 rfl rfl ?_
  refine q_iload_n (pc' := 23) C 2 d_Pf_climb_22 rfl rfl ?_
  refine q_bipush (pc' := 25) C d_Pf_climb_23 kb_12 rfl ?_
  refine q_callVr (fr' := 1) (lo' := 22) (pc' := 28) C FC_Pf_heightBefore lmC_Pf_68 d_Pf_climb_25 o (jCo ho) ho cC_4 [.int p1, .int (12 : Int32)] [] rfl rfl (Nat.le_of_ble_eq_true rfl) ⟨rfl, rfl⟩ (fun x h => cC_Pf_heightBefore _ g hi σ o ho p1 (12 : Int32) x h) rfl (fun x3 hx3 => ?_)
  refine q_iload_n (pc' := 29) C 0 d_Pf_climb_28 rfl rfl ?_
  refine q_iadd (pc' := 30) C d_Pf_climb_29 rfl ?_
  refine q_let (fun x4 e4 => ?_)
  refine q_topi e4 ?_
  refine q_istore_n (pc' := 31) (lv' := [(3, .int x4), (2, .int x2), (0, .ref (g.1 o)), (1, .int p1)]) C d_Pf_climb_30 (by decide) rfl rfl ?_
  refine q_aload_n (pc' := 32) C 2 d_Pf_climb_31 rfl rfl ?_
  refine gC_Pf_15 (pc' := 35) C o (rc o 1) ho (ly_4_1 ho).1 d_Pf_climb_32 rfl rfl ?_
  refine gC_Pf_71 (pc' := 38) C (rc o 1) (ly_4_1 ho).2 d_Pf_climb_35 rfl rfl ?_
  refine q_aload_n (pc' := 39) C 2 d_Pf_climb_38 rfl rfl ?_
  refine gC_Pf_9 (pc' := 42) C o (rc o 0) ho (ly_4_0 ho).1 d_Pf_climb_39 rfl rfl ?_
  refine gC_Pf_74 (pc' := 45) C (rc o 0) (rc (rc o 0) 0) (ly_4_0 ho).2 (ly_3_0 (ly_4_0 ho).2).1 d_Pf_climb_42 rfl rfl ?_
  refine q_iload_n (pc' := 46) C 3 d_Pf_climb_45 rfl rfl ?_
  refine q_bipush (pc' := 48) C d_Pf_climb_46 kb_10 rfl ?_
  refine q_callVr (fr' := 0) (lo' := 0) (pc' := 51) C FC_Tb_get lmC_Pf_38 d_Pf_climb_48 (rc (rc o 0) 0) (jCo (ly_3_0 (ly_4_0 ho).2).2) (ly_3_0 (ly_4_0 ho).2).2 cC_8 [.int p1, .int (10 : Int32)] [.int (σ (rc o 1) 4)] rfl rfl (Nat.le_of_ble_eq_true rfl) ⟨rfl, rfl⟩ (fun x h => cC_Tb_get _ g hi σ (rc (rc o 0) 0) (ly_3_0 (ly_4_0 ho).2).2 p1 (10 : Int32) x h) rfl (fun x5 hx5 => ?_)
  refine q_mmin (pc' := 54) C lj_min_Pf_44 (Nat.le_of_ble_eq_true rfl) ⟨rfl, rfl⟩ d_Pf_climb_51 rfl ?_
  refine q_let (fun x6 e6 => ?_)
  refine q_topi e6 ?_
  refine q_istore (pc' := 56) (lv' := [(4, .int x6), (3, .int x4), (2, .int x2), (0, .ref (g.1 o)), (1, .int p1)]) C d_Pf_climb_54 (by decide) rfl rfl ?_
  refine q_aload_n (pc' := 57) C 3 d_Pf_climb_56 rfl rfl ?_
  refine gC_Pf_19 (pc' := 60) C o (rc o 2) ho (ly_4_2 ho).1 d_Pf_climb_57 rfl rfl ?_
  refine q_iload_n (pc' := 61) C 4 d_Pf_climb_60 rfl rfl ?_
  refine q_bipush (pc' := 63) C d_Pf_climb_61 kb_12 rfl ?_
  refine q_iload (pc' := 65) C 0 d_Pf_climb_63 rfl rfl ?_
  refine q_iload_n (pc' := 66) C 1 d_Pf_climb_65 rfl rfl ?_
  refine q_mmin (pc' := 69) C lj_min_Pf_44 (Nat.le_of_ble_eq_true rfl) ⟨rfl, rfl⟩ d_Pf_climb_66 rfl ?_
  refine q_callVv (fr' := 0) (lo' := 0) (pc' := 72) C FC_Tb_put lmC_Pf_49 d_Pf_climb_69 (rc o 2) (jCo (ly_4_2 ho).2) (ly_4_2 ho).2 cC_8 [.int p1, .int (12 : Int32), .int (imin x6 x4)] [] rfl rfl (Nat.le_of_ble_eq_true rfl) ⟨rfl, rfl⟩ (fun x h => cC_Tb_put _ g hi σ (rc o 2) (ly_4_2 ho).2 p1 (12 : Int32) (imin x6 x4) x h) rfl (fun x7 hx7 => ?_)
  exact q_vret C rfl d_Pf_climb_72 rfl
theorem d_Pf_descend_0 : decode qC_Pf_descend.1 0 = .ok (.aload_n 0, 1) := by decide +kernel
theorem d_Pf_descend_1 : decode qC_Pf_descend.1 1 = .ok (.getfield 9, 3) := by decide +kernel
theorem d_Pf_descend_4 : decode qC_Pf_descend.1 4 = .ok (.getfield 74, 3) := by decide +kernel
theorem d_Pf_descend_7 : decode qC_Pf_descend.1 7 = .ok (.iload_n 1, 1) := by decide +kernel
theorem d_Pf_descend_8 : decode qC_Pf_descend.1 8 = .ok (.bipush 9, 2) := by decide +kernel
theorem d_Pf_descend_10 : decode qC_Pf_descend.1 10 = .ok (.invokevirtual 38, 3) := by decide +kernel
theorem d_Pf_descend_13 : decode qC_Pf_descend.1 13 = .ok (.istore_n 2, 1) := by decide +kernel
theorem d_Pf_descend_14 : decode qC_Pf_descend.1 14 = .ok (.aload_n 0, 1) := by decide +kernel
theorem d_Pf_descend_15 : decode qC_Pf_descend.1 15 = .ok (.getfield 9, 3) := by decide +kernel
theorem d_Pf_descend_18 : decode qC_Pf_descend.1 18 = .ok (.getfield 74, 3) := by decide +kernel
theorem d_Pf_descend_21 : decode qC_Pf_descend.1 21 = .ok (.iload_n 1, 1) := by decide +kernel
theorem d_Pf_descend_22 : decode qC_Pf_descend.1 22 = .ok (.bipush 10, 2) := by decide +kernel
theorem d_Pf_descend_24 : decode qC_Pf_descend.1 24 = .ok (.invokevirtual 38, 3) := by decide +kernel
theorem d_Pf_descend_27 : decode qC_Pf_descend.1 27 = .ok (.istore_n 3, 1) := by decide +kernel
theorem d_Pf_descend_28 : decode qC_Pf_descend.1 28 = .ok (.iload_n 1, 1) := by decide +kernel
theorem d_Pf_descend_29 : decode qC_Pf_descend.1 29 = .ok (.aload_n 0, 1) := by decide +kernel
theorem d_Pf_descend_30 : decode qC_Pf_descend.1 30 = .ok (.getfield 9, 3) := by decide +kernel
theorem d_Pf_descend_33 : decode qC_Pf_descend.1 33 = .ok (.getfield 23, 3) := by decide +kernel
theorem d_Pf_descend_36 : decode qC_Pf_descend.1 36 = .ok (.iconst 1, 1) := by decide +kernel
theorem d_Pf_descend_37 : decode qC_Pf_descend.1 37 = .ok (.isub, 1) := by decide +kernel
theorem d_Pf_descend_38 : decode qC_Pf_descend.1 38 = .ok (.if_icmp .ne 29, 3) := by decide +kernel
theorem d_Pf_descend_41 : decode qC_Pf_descend.1 41 = .ok (.aload_n 0, 1) := by decide +kernel
theorem d_Pf_descend_42 : decode qC_Pf_descend.1 42 = .ok (.getfield 19, 3) := by decide +kernel
theorem d_Pf_descend_45 : decode qC_Pf_descend.1 45 = .ok (.iload_n 1, 1) := by decide +kernel
theorem d_Pf_descend_46 : decode qC_Pf_descend.1 46 = .ok (.bipush 13, 2) := by decide +kernel
theorem d_Pf_descend_48 : decode qC_Pf_descend.1 48 = .ok (.aload_n 0, 1) := by decide +kernel
theorem d_Pf_descend_49 : decode qC_Pf_descend.1 49 = .ok (.getfield 15, 3) := by decide +kernel
theorem d_Pf_descend_52 : decode qC_Pf_descend.1 52 = .ok (.getfield 75, 3) := by decide +kernel
theorem d_Pf_descend_55 : decode qC_Pf_descend.1 55 = .ok (.iload_n 2, 1) := by decide +kernel
theorem d_Pf_descend_56 : decode qC_Pf_descend.1 56 = .ok (.invokestatic 78, 3) := by decide +kernel
theorem d_Pf_descend_59 : decode qC_Pf_descend.1 59 = .ok (.iload_n 3, 1) := by decide +kernel
theorem d_Pf_descend_60 : decode qC_Pf_descend.1 60 = .ok (.invokestatic 44, 3) := by decide +kernel
theorem d_Pf_descend_63 : decode qC_Pf_descend.1 63 = .ok (.invokevirtual 49, 3) := by decide +kernel
theorem d_Pf_descend_66 : decode qC_Pf_descend.1 66 = .ok (.return_, 1) := by decide +kernel
theorem d_Pf_descend_67 : decode qC_Pf_descend.1 67 = .ok (.aload_n 0, 1) := by decide +kernel
theorem d_Pf_descend_68 : decode qC_Pf_descend.1 68 = .ok (.getfield 19, 3) := by decide +kernel
theorem d_Pf_descend_71 : decode qC_Pf_descend.1 71 = .ok (.iload_n 1, 1) := by decide +kernel
theorem d_Pf_descend_72 : decode qC_Pf_descend.1 72 = .ok (.iconst 1, 1) := by decide +kernel
theorem d_Pf_descend_73 : decode qC_Pf_descend.1 73 = .ok (.iadd, 1) := by decide +kernel
theorem d_Pf_descend_74 : decode qC_Pf_descend.1 74 = .ok (.bipush 9, 2) := by decide +kernel
theorem d_Pf_descend_76 : decode qC_Pf_descend.1 76 = .ok (.invokevirtual 38, 3) := by decide +kernel
theorem d_Pf_descend_79 : decode qC_Pf_descend.1 79 = .ok (.aload_n 0, 1) := by decide +kernel
theorem d_Pf_descend_80 : decode qC_Pf_descend.1 80 = .ok (.getfield 15, 3) := by decide +kernel
theorem d_Pf_descend_83 : decode qC_Pf_descend.1 83 = .ok (.getfield 81, 3) := by decide +kernel
theorem d_Pf_descend_86 : decode qC_Pf_descend.1 86 = .ok (.invokestatic 65, 3) := by decide +kernel
theorem d_Pf_descend_89 : decode qC_Pf_descend.1 89 = .ok (.istore 4, 2) := by decide +kernel
theorem d_Pf_descend_91 : decode qC_Pf_descend.1 91 = .ok (.aload_n 0, 1) := by decide +kernel
theorem d_Pf_descend_92 : decode qC_Pf_descend.1 92 = .ok (.getfield 19, 3) := by decide +kernel
theorem d_Pf_descend_95 : decode qC_Pf_descend.1 95 = .ok (.iload_n 1, 1) := by decide +kernel
theorem d_Pf_descend_96 : decode qC_Pf_descend.1 96 = .ok (.iconst 1, 1) := by decide +kernel
theorem d_Pf_descend_97 : decode qC_Pf_descend.1 97 = .ok (.iadd, 1) := by decide +kernel
theorem d_Pf_descend_98 : decode qC_Pf_descend.1 98 = .ok (.bipush 13, 2) := by decide +kernel
theorem d_Pf_descend_100 : decode qC_Pf_descend.1 100 = .ok (.invokevirtual 38, 3) := by decide +kernel
theorem d_Pf_descend_103 : decode qC_Pf_descend.1 103 = .ok (.iload 4, 2) := by decide +kernel
theorem d_Pf_descend_105 : decode qC_Pf_descend.1 105 = .ok (.iadd, 1) := by decide +kernel
theorem d_Pf_descend_106 : decode qC_Pf_descend.1 106 = .ok (.iload_n 2, 1) := by decide +kernel
theorem d_Pf_descend_107 : decode qC_Pf_descend.1 107 = .ok (.invokestatic 78, 3) := by decide +kernel
theorem d_Pf_descend_110 : decode qC_Pf_descend.1 110 = .ok (.istore 5, 2) := by decide +kernel
theorem d_Pf_descend_112 : decode qC_Pf_descend.1 112 = .ok (.aload_n 0, 1) := by decide +kernel
theorem d_Pf_descend_113 : decode qC_Pf_descend.1 113 = .ok (.getfield 19, 3) := by decide +kernel
theorem d_Pf_descend_116 : decode qC_Pf_descend.1 116 = .ok (.iload_n 1, 1) := by decide +kernel
theorem d_Pf_descend_117 : decode qC_Pf_descend.1 117 = .ok (.bipush 13, 2) := by decide +kernel
theorem d_Pf_descend_119 : decode qC_Pf_descend.1 119 = .ok (.iload 5, 2) := by decide +kernel
theorem d_Pf_descend_121 : decode qC_Pf_descend.1 121 = .ok (.iload_n 3, 1) := by decide +kernel
theorem d_Pf_descend_122 : decode qC_Pf_descend.1 122 = .ok (.invokestatic 44, 3) := by decide +kernel
theorem d_Pf_descend_125 : decode qC_Pf_descend.1 125 = .ok (.aload_n 0, 1) := by decide +kernel
theorem d_Pf_descend_126 : decode qC_Pf_descend.1 126 = .ok (.getfield 15, 3) := by decide +kernel
theorem d_Pf_descend_129 : decode qC_Pf_descend.1 129 = .ok (.getfield 71, 3) := by decide +kernel
theorem d_Pf_descend_132 : decode qC_Pf_descend.1 132 = .ok (.invokestatic 44, 3) := by decide +kernel
theorem d_Pf_descend_135 : decode qC_Pf_descend.1 135 = .ok (.invokevirtual 49, 3) := by decide +kernel
theorem d_Pf_descend_138 : decode qC_Pf_descend.1 138 = .ok (.return_, 1) := by decide +kernel
set_option maxRecDepth 100000 in
def f_Pf_descend (σ : St) (o : Nat) (p1 : Int32) : Option (St) :=
  Option.bind (f_Tb_get σ (rc (rc o 0) 0) p1 (9 : Int32)) fun x1 =>
  Option.bind (f_Tb_get σ (rc (rc o 0) 0) p1 (10 : Int32)) fun x2 =>
  if (p1 : Int32) = ((σ (rc o 0) 1) - (1 : Int32)) then (
  Option.bind (f_Tb_put σ (rc o 2) p1 (13 : Int32) (imin (imax (σ (rc o 1) 10) x1) x2)) fun x8 =>
  some x8
  ) else (
  Option.bind (f_Tb_get σ (rc o 2) (p1 + (1 : Int32)) (9 : Int32)) fun x3 =>
  Option.bind (f_Sg_changeOver x3 (σ (rc o 1) 7)) fun x4 =>
  Option.bind (f_Tb_get σ (rc o 2) (p1 + (1 : Int32)) (13 : Int32)) fun x5 =>
  Lt ((imax (x5 + x4) x1) : Int32) fun x6 =>
  Option.bind (f_Tb_put σ (rc o 2) p1 (13 : Int32) (imin (imin x6 x2) (σ (rc o 1) 4))) fun x7 =>
  some x7
  )
set_option maxHeartbeats 4000000 in
set_option maxRecDepth 100000 in
theorem cC_Pf_descend (l : Launch) (g : Ge) (hi : injB wC.2 g) (σ : St) (o : Nat) (ho : wC.2.2.1 o = .inr (4, 3)) (p1 : Int32) (x : St) (h : f_Pf_descend σ o p1 = some x) : Ct l wC g yC_Pf_descend qC_Pf_descend 1 23 [.ref (g.1 o), .int p1] σ (none, x) := by
  refine Ct.of (out := o_v) FC_Pf_descend rfl hi rfl h (fun z hz C => ?_)
  clear h
  subst hz
  unfold f_Pf_descend
  show Rt z qC_Pf_descend wC g o_v 0 [(0, .ref (g.1 o)), (1, .int p1)] [] σ _
  refine q_aload_n (pc' := 1) C 0 d_Pf_descend_0 rfl rfl ?_
  refine gC_Pf_9 (pc' := 4) C o (rc o 0) ho (ly_4_0 ho).1 d_Pf_descend_1 rfl rfl ?_
  refine gC_Pf_74 (pc' := 7) C (rc o 0) (rc (rc o 0) 0) (ly_4_0 ho).2 (ly_3_0 (ly_4_0 ho).2).1 d_Pf_descend_4 rfl rfl ?_
  refine q_iload_n (pc' := 8) C 1 d_Pf_descend_7 rfl rfl ?_
  refine q_bipush (pc' := 10) C d_Pf_descend_8 kb_9 rfl ?_
  refine q_callVr (fr' := 0) (lo' := 0) (pc' := 13) C FC_Tb_get lmC_Pf_38 d_Pf_descend_10 (rc (rc o 0) 0) (jCo (ly_3_0 (ly_4_0 ho).2).2) (ly_3_0 (ly_4_0 ho).2).2 cC_8 [.int p1, .int (9 : Int32)] [] rfl rfl (Nat.le_of_ble_eq_true rfl) ⟨rfl, rfl⟩ (fun x h => cC_Tb_get _ g hi σ (rc (rc o 0) 0) (ly_3_0 (ly_4_0 ho).2).2 p1 (9 : Int32) x h) rfl (fun x1 hx1 => ?_)
  refine q_istore_n (pc' := 14) (lv' := [(2, .int x1), (0, .ref (g.1 o)), (1, .int p1)]) C d_Pf_descend_13 (by decide) rfl rfl ?_
  refine q_aload_n (pc' := 15) C 1 d_Pf_descend_14 rfl rfl ?_
  refine gC_Pf_9 (pc' := 18) C o (rc o 0) ho (ly_4_0 ho).1 d_Pf_descend_15 rfl rfl ?_
  refine gC_Pf_74 (pc' := 21) C (rc o 0) (rc (rc o 0) 0) (ly_4_0 ho).2 (ly_3_0 (ly_4_0 ho).2).1 d_Pf_descend_18 rfl rfl ?_
  refine q_iload_n (pc' := 22) C 2 d_Pf_descend_21 rfl rfl ?_
  refine q_bipush (pc' := 24) C d_Pf_descend_22 kb_10 rfl ?_
  refine q_callVr (fr' := 0) (lo' := 0) (pc' := 27) C FC_Tb_get lmC_Pf_38 d_Pf_descend_24 (rc (rc o 0) 0) (jCo (ly_3_0 (ly_4_0 ho).2).2) (ly_3_0 (ly_4_0 ho).2).2 cC_8 [.int p1, .int (10 : Int32)] [] rfl rfl (Nat.le_of_ble_eq_true rfl) ⟨rfl, rfl⟩ (fun x h => cC_Tb_get _ g hi σ (rc (rc o 0) 0) (ly_3_0 (ly_4_0 ho).2).2 p1 (10 : Int32) x h) rfl (fun x2 hx2 => ?_)
  refine q_istore_n (pc' := 28) (lv' := [(3, .int x2), (2, .int x1), (0, .ref (g.1 o)), (1, .int p1)]) C d_Pf_descend_27 (by decide) rfl rfl ?_
  refine q_iload_n (pc' := 29) C 3 d_Pf_descend_28 rfl rfl ?_
  refine q_aload_n (pc' := 30) C 2 d_Pf_descend_29 rfl rfl ?_
  refine gC_Pf_9 (pc' := 33) C o (rc o 0) ho (ly_4_0 ho).1 d_Pf_descend_30 rfl rfl ?_
  refine gC_Pf_23 (pc' := 36) C (rc o 0) (ly_4_0 ho).2 d_Pf_descend_33 rfl rfl ?_
  refine q_iconst (pc' := 37) C d_Pf_descend_36 ki_1 rfl ?_
  refine q_isub (pc' := 38) C d_Pf_descend_37 rfl ?_
  refine q_icmp_ne (tgt := 67) (pc' := 41) C d_Pf_descend_38 rfl rfl ?_ ?_
  · refine q_aload_n (pc' := 68) C 2 d_Pf_descend_67 rfl rfl ?_
    refine gC_Pf_19 (pc' := 71) C o (rc o 2) ho (ly_4_2 ho).1 d_Pf_descend_68 rfl rfl ?_
    refine q_iload_n (pc' := 72) C 3 d_Pf_descend_71 rfl rfl ?_
    refine q_iconst (pc' := 73) C d_Pf_descend_72 ki_1 rfl ?_
    refine q_iadd (pc' := 74) C d_Pf_descend_73 rfl ?_
    refine q_bipush (pc' := 76) C d_Pf_descend_74 kb_9 rfl ?_
    refine q_callVr (fr' := 0) (lo' := 0) (pc' := 79) C FC_Tb_get lmC_Pf_38 d_Pf_descend_76 (rc o 2) (jCo (ly_4_2 ho).2) (ly_4_2 ho).2 cC_8 [.int (p1 + (1 : Int32)), .int (9 : Int32)] [] rfl rfl (Nat.le_of_ble_eq_true rfl) ⟨rfl, rfl⟩ (fun x h => cC_Tb_get _ g hi σ (rc o 2) (ly_4_2 ho).2 (p1 + (1 : Int32)) (9 : Int32) x h) rfl (fun x3 hx3 => ?_)
    refine q_aload_n (pc' := 80) C 2 d_Pf_descend_79 rfl rfl ?_
    refine gC_Pf_15 (pc' := 83) C o (rc o 1) ho (ly_4_1 ho).1 d_Pf_descend_80 rfl rfl ?_
    refine gC_Pf_81 (pc' := 86) C (rc o 1) (ly_4_1 ho).2 d_Pf_descend_83 rfl rfl ?_
    refine q_callSr (fr' := 0) (lo' := 0) (pc' := 89) C FC_Sg_changeOver lmC_Pf_65 d_Pf_descend_86 [.int x3, .int (σ (rc o 1) 7)] [] rfl rfl (Nat.le_of_ble_eq_true rfl) ⟨rfl, rfl⟩ (fun x h => cC_Sg_changeOver _ g hi σ x3 (σ (rc o 1) 7) x h) rfl (fun x4 hx4 => ?_)
    refine q_istore (pc' := 91) (lv' := [(4, .int x4), (3, .int x2), (2, .int x1), (0, .ref (g.1 o)), (1, .int p1)]) C d_Pf_descend_89 (by decide) rfl rfl ?_
    refine q_aload_n (pc' := 92) C 3 d_Pf_descend_91 rfl rfl ?_
    refine gC_Pf_19 (pc' := 95) C o (rc o 2) ho (ly_4_2 ho).1 d_Pf_descend_92 rfl rfl ?_
    refine q_iload_n (pc' := 96) C 4 d_Pf_descend_95 rfl rfl ?_
    refine q_iconst (pc' := 97) C d_Pf_descend_96 ki_1 rfl ?_
    refine q_iadd (pc' := 98) C d_Pf_descend_97 rfl ?_
    refine q_bipush (pc' := 100) C d_Pf_descend_98 kb_13 rfl ?_
    refine q_callVr (fr' := 0) (lo' := 0) (pc' := 103) C FC_Tb_get lmC_Pf_38 d_Pf_descend_100 (rc o 2) (jCo (ly_4_2 ho).2) (ly_4_2 ho).2 cC_8 [.int (p1 + (1 : Int32)), .int (13 : Int32)] [] rfl rfl (Nat.le_of_ble_eq_true rfl) ⟨rfl, rfl⟩ (fun x h => cC_Tb_get _ g hi σ (rc o 2) (ly_4_2 ho).2 (p1 + (1 : Int32)) (13 : Int32) x h) rfl (fun x5 hx5 => ?_)
    refine q_iload (pc' := 105) C 0 d_Pf_descend_103 rfl rfl ?_
    refine q_iadd (pc' := 106) C d_Pf_descend_105 rfl ?_
    refine q_iload_n (pc' := 107) C 2 d_Pf_descend_106 rfl rfl ?_
    refine q_mmax (pc' := 110) C lj_max_Pf_78 (Nat.le_of_ble_eq_true rfl) ⟨rfl, rfl⟩ d_Pf_descend_107 rfl ?_
    refine q_let (fun x6 e6 => ?_)
    refine q_topi e6 ?_
    refine q_istore (pc' := 112) (lv' := [(5, .int x6), (4, .int x4), (3, .int x2), (2, .int x1), (0, .ref (g.1 o)), (1, .int p1)]) C d_Pf_descend_110 (by decide) rfl rfl ?_
    refine q_aload_n (pc' := 113) C 4 d_Pf_descend_112 rfl rfl ?_
    refine gC_Pf_19 (pc' := 116) C o (rc o 2) ho (ly_4_2 ho).1 d_Pf_descend_113 rfl rfl ?_
    refine q_iload_n (pc' := 117) C 5 d_Pf_descend_116 rfl rfl ?_
    refine q_bipush (pc' := 119) C d_Pf_descend_117 kb_13 rfl ?_
    refine q_iload (pc' := 121) C 0 d_Pf_descend_119 rfl rfl ?_
    refine q_iload_n (pc' := 122) C 2 d_Pf_descend_121 rfl rfl ?_
    refine q_mmin (pc' := 125) C lj_min_Pf_44 (Nat.le_of_ble_eq_true rfl) ⟨rfl, rfl⟩ d_Pf_descend_122 rfl ?_
    refine q_aload_n (pc' := 126) C 4 d_Pf_descend_125 rfl rfl ?_
    refine gC_Pf_15 (pc' := 129) C o (rc o 1) ho (ly_4_1 ho).1 d_Pf_descend_126 rfl rfl ?_
    refine gC_Pf_71 (pc' := 132) C (rc o 1) (ly_4_1 ho).2 d_Pf_descend_129 rfl rfl ?_
    refine q_mmin (pc' := 135) C lj_min_Pf_44 (Nat.le_of_ble_eq_true rfl) ⟨rfl, rfl⟩ d_Pf_descend_132 rfl ?_
    refine q_callVv (fr' := 0) (lo' := 0) (pc' := 138) C FC_Tb_put lmC_Pf_49 d_Pf_descend_135 (rc o 2) (jCo (ly_4_2 ho).2) (ly_4_2 ho).2 cC_8 [.int p1, .int (13 : Int32), .int (imin (imin x6 x2) (σ (rc o 1) 4))] [] rfl rfl (Nat.le_of_ble_eq_true rfl) ⟨rfl, rfl⟩ (fun x h => cC_Tb_put _ g hi σ (rc o 2) (ly_4_2 ho).2 p1 (13 : Int32) (imin (imin x6 x2) (σ (rc o 1) 4)) x h) rfl (fun x7 hx7 => ?_)
    exact q_vret C rfl d_Pf_descend_138 rfl
  · refine q_aload_n (pc' := 42) C 2 d_Pf_descend_41 rfl rfl ?_
    refine gC_Pf_19 (pc' := 45) C o (rc o 2) ho (ly_4_2 ho).1 d_Pf_descend_42 rfl rfl ?_
    refine q_iload_n (pc' := 46) C 3 d_Pf_descend_45 rfl rfl ?_
    refine q_bipush (pc' := 48) C d_Pf_descend_46 kb_13 rfl ?_
    refine q_aload_n (pc' := 49) C 2 d_Pf_descend_48 rfl rfl ?_
    refine gC_Pf_15 (pc' := 52) C o (rc o 1) ho (ly_4_1 ho).1 d_Pf_descend_49 rfl rfl ?_
    refine gC_Pf_75 (pc' := 55) C (rc o 1) (ly_4_1 ho).2 d_Pf_descend_52 rfl rfl ?_
    refine q_iload_n (pc' := 56) C 1 d_Pf_descend_55 rfl rfl ?_
    refine q_mmax (pc' := 59) C lj_max_Pf_78 (Nat.le_of_ble_eq_true rfl) ⟨rfl, rfl⟩ d_Pf_descend_56 rfl ?_
    refine q_iload_n (pc' := 60) C 0 d_Pf_descend_59 rfl rfl ?_
    refine q_mmin (pc' := 63) C lj_min_Pf_44 (Nat.le_of_ble_eq_true rfl) ⟨rfl, rfl⟩ d_Pf_descend_60 rfl ?_
    refine q_callVv (fr' := 0) (lo' := 0) (pc' := 66) C FC_Tb_put lmC_Pf_49 d_Pf_descend_63 (rc o 2) (jCo (ly_4_2 ho).2) (ly_4_2 ho).2 cC_8 [.int p1, .int (13 : Int32), .int (imin (imax (σ (rc o 1) 10) x1) x2)] [] rfl rfl (Nat.le_of_ble_eq_true rfl) ⟨rfl, rfl⟩ (fun x h => cC_Tb_put _ g hi σ (rc o 2) (ly_4_2 ho).2 p1 (13 : Int32) (imin (imax (σ (rc o 1) 10) x1) x2) x h) rfl (fun x8 hx8 => ?_)
    exact q_vret C rfl d_Pf_descend_66 rfl
theorem d_Pf_violationOf_0 : decode qC_Pf_violationOf.1 0 = .ok (.aload_n 0, 1) := by decide +kernel
theorem d_Pf_violationOf_1 : decode qC_Pf_violationOf.1 1 = .ok (.getfield 19, 3) := by decide +kernel
theorem d_Pf_violationOf_4 : decode qC_Pf_violationOf.1 4 = .ok (.iload_n 1, 1) := by decide +kernel
theorem d_Pf_violationOf_5 : decode qC_Pf_violationOf.1 5 = .ok (.bipush 14, 2) := by decide +kernel
theorem d_Pf_violationOf_7 : decode qC_Pf_violationOf.1 7 = .ok (.invokevirtual 38, 3) := by decide +kernel
theorem d_Pf_violationOf_10 : decode qC_Pf_violationOf.1 10 = .ok (.istore_n 2, 1) := by decide +kernel
theorem d_Pf_violationOf_11 : decode qC_Pf_violationOf.1 11 = .ok (.aload_n 0, 1) := by decide +kernel
theorem d_Pf_violationOf_12 : decode qC_Pf_violationOf.1 12 = .ok (.iload_n 1, 1) := by decide +kernel
theorem d_Pf_violationOf_13 : decode qC_Pf_violationOf.1 13 = .ok (.bipush 14, 2) := by decide +kernel
theorem d_Pf_violationOf_15 : decode qC_Pf_violationOf.1 15 = .ok (.invokevirtual 68, 3) := by decide +kernel
theorem d_Pf_violationOf_18 : decode qC_Pf_violationOf.1 18 = .ok (.iload_n 2, 1) := by decide +kernel
theorem d_Pf_violationOf_19 : decode qC_Pf_violationOf.1 19 = .ok (.isub, 1) := by decide +kernel
theorem d_Pf_violationOf_20 : decode qC_Pf_violationOf.1 20 = .ok (.istore_n 3, 1) := by decide +kernel
theorem d_Pf_violationOf_21 : decode qC_Pf_violationOf.1 21 = .ok (.aload_n 0, 1) := by decide +kernel
theorem d_Pf_violationOf_22 : decode qC_Pf_violationOf.1 22 = .ok (.getfield 19, 3) := by decide +kernel
theorem d_Pf_violationOf_25 : decode qC_Pf_violationOf.1 25 = .ok (.iload_n 1, 1) := by decide +kernel
theorem d_Pf_violationOf_26 : decode qC_Pf_violationOf.1 26 = .ok (.bipush 9, 2) := by decide +kernel
theorem d_Pf_violationOf_28 : decode qC_Pf_violationOf.1 28 = .ok (.invokevirtual 38, 3) := by decide +kernel
theorem d_Pf_violationOf_31 : decode qC_Pf_violationOf.1 31 = .ok (.i2l, 1) := by decide +kernel
theorem d_Pf_violationOf_32 : decode qC_Pf_violationOf.1 32 = .ok (.aload_n 0, 1) := by decide +kernel
theorem d_Pf_violationOf_33 : decode qC_Pf_violationOf.1 33 = .ok (.getfield 15, 3) := by decide +kernel
theorem d_Pf_violationOf_36 : decode qC_Pf_violationOf.1 36 = .ok (.getfield 84, 3) := by decide +kernel
theorem d_Pf_violationOf_39 : decode qC_Pf_violationOf.1 39 = .ok (.i2l, 1) := by decide +kernel
theorem d_Pf_violationOf_40 : decode qC_Pf_violationOf.1 40 = .ok (.lmul, 1) := by decide +kernel
theorem d_Pf_violationOf_41 : decode qC_Pf_violationOf.1 41 = .ok (.lstore 4, 2) := by decide +kernel
theorem d_Pf_violationOf_43 : decode qC_Pf_violationOf.1 43 = .ok (.iload_n 2, 1) := by decide +kernel
theorem d_Pf_violationOf_44 : decode qC_Pf_violationOf.1 44 = .ok (.aload_n 0, 1) := by decide +kernel
theorem d_Pf_violationOf_45 : decode qC_Pf_violationOf.1 45 = .ok (.getfield 9, 3) := by decide +kernel
theorem d_Pf_violationOf_48 : decode qC_Pf_violationOf.1 48 = .ok (.getfield 74, 3) := by decide +kernel
theorem d_Pf_violationOf_51 : decode qC_Pf_violationOf.1 51 = .ok (.iload_n 1, 1) := by decide +kernel
theorem d_Pf_violationOf_52 : decode qC_Pf_violationOf.1 52 = .ok (.bipush 9, 2) := by decide +kernel
theorem d_Pf_violationOf_54 : decode qC_Pf_violationOf.1 54 = .ok (.invokevirtual 38, 3) := by decide +kernel
theorem d_Pf_violationOf_57 : decode qC_Pf_violationOf.1 57 = .ok (.if_icmp .ge 7, 3) := by decide +kernel
theorem d_Pf_violationOf_60 : decode qC_Pf_violationOf.1 60 = .ok (.iconst 1, 1) := by decide +kernel
theorem d_Pf_violationOf_61 : decode qC_Pf_violationOf.1 61 = .ok (.goto 4, 3) := by decide +kernel
theorem d_Pf_violationOf_64 : decode qC_Pf_violationOf.1 64 = .ok (.iconst 0, 1) := by decide +kernel
theorem d_Pf_violationOf_65 : decode qC_Pf_violationOf.1 65 = .ok (.istore 6, 2) := by decide +kernel
theorem d_Pf_violationOf_67 : decode qC_Pf_violationOf.1 67 = .ok (.iload_n 3, 1) := by decide +kernel
theorem d_Pf_violationOf_68 : decode qC_Pf_violationOf.1 68 = .ok (.i2l, 1) := by decide +kernel
theorem d_Pf_violationOf_69 : decode qC_Pf_violationOf.1 69 = .ok (.ldc2_w 87, 3) := by decide +kernel
theorem d_Pf_violationOf_72 : decode qC_Pf_violationOf.1 72 = .ok (.lmul, 1) := by decide +kernel
theorem d_Pf_violationOf_73 : decode qC_Pf_violationOf.1 73 = .ok (.lload 4, 2) := by decide +kernel
theorem d_Pf_violationOf_75 : decode qC_Pf_violationOf.1 75 = .ok (.lcmp, 1) := by decide +kernel
theorem d_Pf_violationOf_76 : decode qC_Pf_violationOf.1 76 = .ok (.ifCond .le 10, 3) := by decide +kernel
theorem d_Pf_violationOf_79 : decode qC_Pf_violationOf.1 79 = .ok (.iload 6, 2) := by decide +kernel
theorem d_Pf_violationOf_81 : decode qC_Pf_violationOf.1 81 = .ok (.iconst 2, 1) := by decide +kernel
theorem d_Pf_violationOf_82 : decode qC_Pf_violationOf.1 82 = .ok (.iadd, 1) := by decide +kernel
theorem d_Pf_violationOf_83 : decode qC_Pf_violationOf.1 83 = .ok (.goto 5, 3) := by decide +kernel
theorem d_Pf_violationOf_86 : decode qC_Pf_violationOf.1 86 = .ok (.iload 6, 2) := by decide +kernel
theorem d_Pf_violationOf_88 : decode qC_Pf_violationOf.1 88 = .ok (.ireturn, 1) := by decide +kernel
set_option maxRecDepth 100000 in
def f_Pf_violationOf (σ : St) (o : Nat) (p1 : Int32) : Option (Int32) :=
  Option.bind (f_Tb_get σ (rc o 2) p1 (14 : Int32)) fun x1 =>
  Option.bind (f_Pf_heightBefore σ o p1 (14 : Int32)) fun x2 =>
  Lt ((x2 - x1) : Int32) fun x3 =>
  Option.bind (f_Tb_get σ (rc o 2) p1 (9 : Int32)) fun x4 =>
  Lt (((Int32.toInt64 x4) * (Int32.toInt64 (σ (rc o 1) 8))) : Int64) fun x5 =>
  Option.bind (f_Tb_get σ (rc (rc o 0) 0) p1 (9 : Int32)) fun x6 =>
  Jn (fun (x7 : Int32) =>
  Jn (fun (x9 : Int32) =>
  some x9
  ) fun J10 =>
  if (((Int32.toInt64 x3) * (1000 : Int64)) : Int64) ≤ x5 then (
  J10 x7
  ) else (
  J10 (x7 + (2 : Int32))
  )
  ) fun J8 =>
  if (x6 : Int32) ≤ x1 then (
  J8 (0 : Int32)
  ) else (
  J8 (1 : Int32)
  )
set_option maxHeartbeats 4000000 in
set_option maxRecDepth 100000 in
theorem cC_Pf_violationOf (l : Launch) (g : Ge) (hi : injB wC.2 g) (σ : St) (o : Nat) (ho : wC.2.2.1 o = .inr (4, 3)) (p1 : Int32) (x : Int32) (h : f_Pf_violationOf σ o p1 = some x) : Ct l wC g yC_Pf_violationOf qC_Pf_violationOf 2 44 [.ref (g.1 o), .int p1] σ (some (.int x), σ) := by
  refine Ct.of (out := (o_r σ)) FC_Pf_violationOf rfl hi rfl h (fun z hz C => ?_)
  clear h
  subst hz
  unfold f_Pf_violationOf
  show Rt z qC_Pf_violationOf wC g (o_r σ) 0 [(0, .ref (g.1 o)), (1, .int p1)] [] σ _
  refine q_aload_n (pc' := 1) C 0 d_Pf_violationOf_0 rfl rfl ?_
  refine gC_Pf_19 (pc' := 4) C o (rc o 2) ho (ly_4_2 ho).1 d_Pf_violationOf_1 rfl rfl ?_
  refine q_iload_n (pc' := 5) C 1 d_Pf_violationOf_4 rfl rfl ?_
  refine q_bipush (pc' := 7) C d_Pf_violationOf_5 kb_14 rfl ?_
  refine q_callVr (fr' := 0) (lo' := 0) (pc' := 10) C FC_Tb_get lmC_Pf_38 d_Pf_violationOf_7 (rc o 2) (jCo (ly_4_2 ho).2) (ly_4_2 ho).2 cC_8 [.int p1, .int (14 : Int32)] [] rfl rfl (Nat.le_of_ble_eq_true rfl) ⟨rfl, rfl⟩ (fun x h => cC_Tb_get _ g hi σ (rc o 2) (ly_4_2 ho).2 p1 (14 : Int32) x h) rfl (fun x1 hx1 => ?_)
  refine q_istore_n (pc' := 11) (lv' := [(2, .int x1), (0, .ref (g.1 o)), (1, .int p1)]) C d_Pf_violationOf_10 (by decide) rfl rfl ?_
  refine q_aload_n (pc' := 12) C 1 d_Pf_violationOf_11 rfl rfl ?_
  refine q_iload_n (pc' := 13) C 2 d_Pf_violationOf_12 rfl rfl ?_
  refine q_bipush (pc' := 15) C d_Pf_violationOf_13 kb_14 rfl ?_
  refine q_callVr (fr' := 1) (lo' := 22) (pc' := 18) C FC_Pf_heightBefore lmC_Pf_68 d_Pf_violationOf_15 o (jCo ho) ho cC_4 [.int p1, .int (14 : Int32)] [] rfl rfl (Nat.le_of_ble_eq_true rfl) ⟨rfl, rfl⟩ (fun x h => cC_Pf_heightBefore _ g hi σ o ho p1 (14 : Int32) x h) rfl (fun x2 hx2 => ?_)
  refine q_iload_n (pc' := 19) C 0 d_Pf_violationOf_18 rfl rfl ?_
  refine q_isub (pc' := 20) C d_Pf_violationOf_19 rfl ?_
  refine q_let (fun x3 e3 => ?_)
  refine q_topi e3 ?_
  refine q_istore_n (pc' := 21) (lv' := [(3, .int x3), (2, .int x1), (0, .ref (g.1 o)), (1, .int p1)]) C d_Pf_violationOf_20 (by decide) rfl rfl ?_
  refine q_aload_n (pc' := 22) C 2 d_Pf_violationOf_21 rfl rfl ?_
  refine gC_Pf_19 (pc' := 25) C o (rc o 2) ho (ly_4_2 ho).1 d_Pf_violationOf_22 rfl rfl ?_
  refine q_iload_n (pc' := 26) C 3 d_Pf_violationOf_25 rfl rfl ?_
  refine q_bipush (pc' := 28) C d_Pf_violationOf_26 kb_9 rfl ?_
  refine q_callVr (fr' := 0) (lo' := 0) (pc' := 31) C FC_Tb_get lmC_Pf_38 d_Pf_violationOf_28 (rc o 2) (jCo (ly_4_2 ho).2) (ly_4_2 ho).2 cC_8 [.int p1, .int (9 : Int32)] [] rfl rfl (Nat.le_of_ble_eq_true rfl) ⟨rfl, rfl⟩ (fun x h => cC_Tb_get _ g hi σ (rc o 2) (ly_4_2 ho).2 p1 (9 : Int32) x h) rfl (fun x4 hx4 => ?_)
  refine q_i2l (pc' := 32) C d_Pf_violationOf_31 rfl ?_
  refine q_aload_n (pc' := 33) C 2 d_Pf_violationOf_32 rfl rfl ?_
  refine gC_Pf_15 (pc' := 36) C o (rc o 1) ho (ly_4_1 ho).1 d_Pf_violationOf_33 rfl rfl ?_
  refine gC_Pf_84 (pc' := 39) C (rc o 1) (ly_4_1 ho).2 d_Pf_violationOf_36 rfl rfl ?_
  refine q_i2l (pc' := 40) C d_Pf_violationOf_39 rfl ?_
  refine q_lmul (pc' := 41) C d_Pf_violationOf_40 rfl ?_
  refine q_let (fun x5 e5 => ?_)
  refine q_topl e5 ?_
  refine q_lstore (pc' := 43) (lv' := [(4, .long x5), (3, .int x3), (2, .int x1), (0, .ref (g.1 o)), (1, .int p1)]) C d_Pf_violationOf_41 (by decide) rfl rfl ?_
  refine q_iload_n (pc' := 44) C 2 d_Pf_violationOf_43 rfl rfl ?_
  refine q_aload_n (pc' := 45) C 3 d_Pf_violationOf_44 rfl rfl ?_
  refine gC_Pf_9 (pc' := 48) C o (rc o 0) ho (ly_4_0 ho).1 d_Pf_violationOf_45 rfl rfl ?_
  refine gC_Pf_74 (pc' := 51) C (rc o 0) (rc (rc o 0) 0) (ly_4_0 ho).2 (ly_3_0 (ly_4_0 ho).2).1 d_Pf_violationOf_48 rfl rfl ?_
  refine q_iload_n (pc' := 52) C 4 d_Pf_violationOf_51 rfl rfl ?_
  refine q_bipush (pc' := 54) C d_Pf_violationOf_52 kb_9 rfl ?_
  refine q_callVr (fr' := 0) (lo' := 0) (pc' := 57) C FC_Tb_get lmC_Pf_38 d_Pf_violationOf_54 (rc (rc o 0) 0) (jCo (ly_3_0 (ly_4_0 ho).2).2) (ly_3_0 (ly_4_0 ho).2).2 cC_8 [.int p1, .int (9 : Int32)] [.int x1] rfl rfl (Nat.le_of_ble_eq_true rfl) ⟨rfl, rfl⟩ (fun x h => cC_Tb_get _ g hi σ (rc (rc o 0) 0) (ly_3_0 (ly_4_0 ho).2).2 p1 (9 : Int32) x h) rfl (fun x6 hx6 => ?_)
  refine q_join (fun J8 : Int32 → Option (Int32) => ∀ (x7 : Int32), Rt z qC_Pf_violationOf wC g (o_r σ) 65 [(3, .int x3), (4, .long x5)] [.int x7] σ (J8 x7)) (fun x7 => ?_) (fun J8 hJ8 => ?_)
  · refine q_istore (pc' := 67) (lv' := [(6, .int x7), (3, .int x3), (4, .long x5)]) C d_Pf_violationOf_65 (by decide) rfl rfl ?_
    refine q_iload_n (pc' := 68) C 1 d_Pf_violationOf_67 rfl rfl ?_
    refine q_i2l (pc' := 69) C d_Pf_violationOf_68 rfl ?_
    refine q_ldc2 (pc' := 72) C lLC_Pf_87 d_Pf_violationOf_69 rfl ?_
    refine q_lmul (pc' := 73) C d_Pf_violationOf_72 rfl ?_
    refine q_lload (pc' := 75) C 2 d_Pf_violationOf_73 rfl rfl ?_
    refine q_join (fun J10 : Int32 → Option (Int32) => ∀ (x9 : Int32), Rt z qC_Pf_violationOf wC g (o_r σ) 88 [] [.int x9] σ (J10 x9)) (fun x9 => ?_) (fun J10 hJ10 => ?_)
    · exact q_iret C rfl d_Pf_violationOf_88 rfl
    refine q_lcmp_le (tgt := 86) (pc' := 79) C d_Pf_violationOf_75 d_Pf_violationOf_76 rfl rfl ?_ ?_
    · refine q_iload (pc' := 88) C 0 d_Pf_violationOf_86 rfl rfl ?_
      exact Rt.sub [] rfl (hJ10 x7)
    · refine q_iload (pc' := 81) C 0 d_Pf_violationOf_79 rfl rfl ?_
      refine q_iconst (pc' := 82) C d_Pf_violationOf_81 ki_2 rfl ?_
      refine q_iadd (pc' := 83) C d_Pf_violationOf_82 rfl ?_
      refine q_goto (tgt := 88) C d_Pf_violationOf_83 rfl ?_
      exact Rt.sub [] rfl (hJ10 (x7 + (2 : Int32)))
  refine q_icmp_ge (tgt := 64) (pc' := 60) C d_Pf_violationOf_57 rfl rfl ?_ ?_
  · refine q_iconst (pc' := 65) C d_Pf_violationOf_64 ki_0 rfl ?_
    exact Rt.sub [1, 0] rfl (hJ8 (0 : Int32))
  · refine q_iconst (pc' := 61) C d_Pf_violationOf_60 ki_1 rfl ?_
    refine q_goto (tgt := 65) C d_Pf_violationOf_61 rfl ?_
    exact Rt.sub [1, 0] rfl (hJ8 (1 : Int32))
theorem d_Pf_calculate_0 : decode qC_Pf_calculate.1 0 = .ok (.iconst 0, 1) := by decide +kernel
theorem d_Pf_calculate_1 : decode qC_Pf_calculate.1 1 = .ok (.istore_n 1, 1) := by decide +kernel
theorem d_Pf_calculate_2 : decode qC_Pf_calculate.1 2 = .ok (.iload_n 1, 1) := by decide +kernel
theorem d_Pf_calculate_3 : decode qC_Pf_calculate.1 3 = .ok (.aload_n 0, 1) := by decide +kernel
theorem d_Pf_calculate_4 : decode qC_Pf_calculate.1 4 = .ok (.getfield 9, 3) := by decide +kernel
theorem d_Pf_calculate_7 : decode qC_Pf_calculate.1 7 = .ok (.getfield 23, 3) := by decide +kernel
theorem d_Pf_calculate_10 : decode qC_Pf_calculate.1 10 = .ok (.if_icmp .ge 14, 3) := by decide +kernel
theorem d_Pf_calculate_13 : decode qC_Pf_calculate.1 13 = .ok (.aload_n 0, 1) := by decide +kernel
theorem d_Pf_calculate_14 : decode qC_Pf_calculate.1 14 = .ok (.iload_n 1, 1) := by decide +kernel
theorem d_Pf_calculate_15 : decode qC_Pf_calculate.1 15 = .ok (.invokevirtual 29, 3) := by decide +kernel
theorem d_Pf_calculate_18 : decode qC_Pf_calculate.1 18 = .ok (.iinc 1 1, 3) := by decide +kernel
theorem d_Pf_calculate_21 : decode qC_Pf_calculate.1 21 = .ok (.goto (-19), 3) := by decide +kernel
theorem d_Pf_calculate_24 : decode qC_Pf_calculate.1 24 = .ok (.aload_n 0, 1) := by decide +kernel
theorem d_Pf_calculate_25 : decode qC_Pf_calculate.1 25 = .ok (.getfield 9, 3) := by decide +kernel
theorem d_Pf_calculate_28 : decode qC_Pf_calculate.1 28 = .ok (.getfield 23, 3) := by decide +kernel
theorem d_Pf_calculate_31 : decode qC_Pf_calculate.1 31 = .ok (.iconst 1, 1) := by decide +kernel
theorem d_Pf_calculate_32 : decode qC_Pf_calculate.1 32 = .ok (.isub, 1) := by decide +kernel
theorem d_Pf_calculate_33 : decode qC_Pf_calculate.1 33 = .ok (.istore_n 1, 1) := by decide +kernel
theorem d_Pf_calculate_34 : decode qC_Pf_calculate.1 34 = .ok (.iload_n 1, 1) := by decide +kernel
theorem d_Pf_calculate_35 : decode qC_Pf_calculate.1 35 = .ok (.ifCond .lt 14, 3) := by decide +kernel
theorem d_Pf_calculate_38 : decode qC_Pf_calculate.1 38 = .ok (.aload_n 0, 1) := by decide +kernel
theorem d_Pf_calculate_39 : decode qC_Pf_calculate.1 39 = .ok (.iload_n 1, 1) := by decide +kernel
theorem d_Pf_calculate_40 : decode qC_Pf_calculate.1 40 = .ok (.invokevirtual 33, 3) := by decide +kernel
theorem d_Pf_calculate_43 : decode qC_Pf_calculate.1 43 = .ok (.iinc 1 (-1), 3) := by decide +kernel
theorem d_Pf_calculate_46 : decode qC_Pf_calculate.1 46 = .ok (.goto (-12), 3) := by decide +kernel
theorem d_Pf_calculate_49 : decode qC_Pf_calculate.1 49 = .ok (.iconst 0, 1) := by decide +kernel
theorem d_Pf_calculate_50 : decode qC_Pf_calculate.1 50 = .ok (.istore_n 1, 1) := by decide +kernel
theorem d_Pf_calculate_51 : decode qC_Pf_calculate.1 51 = .ok (.iload_n 1, 1) := by decide +kernel
theorem d_Pf_calculate_52 : decode qC_Pf_calculate.1 52 = .ok (.aload_n 0, 1) := by decide +kernel
theorem d_Pf_calculate_53 : decode qC_Pf_calculate.1 53 = .ok (.getfield 9, 3) := by decide +kernel
theorem d_Pf_calculate_56 : decode qC_Pf_calculate.1 56 = .ok (.getfield 23, 3) := by decide +kernel
theorem d_Pf_calculate_59 : decode qC_Pf_calculate.1 59 = .ok (.if_icmp .ge 57, 3) := by decide +kernel
theorem d_Pf_calculate_62 : decode qC_Pf_calculate.1 62 = .ok (.aload_n 0, 1) := by decide +kernel
theorem d_Pf_calculate_63 : decode qC_Pf_calculate.1 63 = .ok (.getfield 19, 3) := by decide +kernel
theorem d_Pf_calculate_66 : decode qC_Pf_calculate.1 66 = .ok (.iload_n 1, 1) := by decide +kernel
theorem d_Pf_calculate_67 : decode qC_Pf_calculate.1 67 = .ok (.bipush 14, 2) := by decide +kernel
theorem d_Pf_calculate_69 : decode qC_Pf_calculate.1 69 = .ok (.aload_n 0, 1) := by decide +kernel
theorem d_Pf_calculate_70 : decode qC_Pf_calculate.1 70 = .ok (.getfield 19, 3) := by decide +kernel
theorem d_Pf_calculate_73 : decode qC_Pf_calculate.1 73 = .ok (.iload_n 1, 1) := by decide +kernel
theorem d_Pf_calculate_74 : decode qC_Pf_calculate.1 74 = .ok (.bipush 12, 2) := by decide +kernel
theorem d_Pf_calculate_76 : decode qC_Pf_calculate.1 76 = .ok (.invokevirtual 38, 3) := by decide +kernel
theorem d_Pf_calculate_79 : decode qC_Pf_calculate.1 79 = .ok (.aload_n 0, 1) := by decide +kernel
theorem d_Pf_calculate_80 : decode qC_Pf_calculate.1 80 = .ok (.getfield 19, 3) := by decide +kernel
theorem d_Pf_calculate_83 : decode qC_Pf_calculate.1 83 = .ok (.iload_n 1, 1) := by decide +kernel
theorem d_Pf_calculate_84 : decode qC_Pf_calculate.1 84 = .ok (.bipush 13, 2) := by decide +kernel
theorem d_Pf_calculate_86 : decode qC_Pf_calculate.1 86 = .ok (.invokevirtual 38, 3) := by decide +kernel
theorem d_Pf_calculate_89 : decode qC_Pf_calculate.1 89 = .ok (.invokestatic 44, 3) := by decide +kernel
theorem d_Pf_calculate_92 : decode qC_Pf_calculate.1 92 = .ok (.invokevirtual 49, 3) := by decide +kernel
theorem d_Pf_calculate_95 : decode qC_Pf_calculate.1 95 = .ok (.aload_n 0, 1) := by decide +kernel
theorem d_Pf_calculate_96 : decode qC_Pf_calculate.1 96 = .ok (.getfield 19, 3) := by decide +kernel
theorem d_Pf_calculate_99 : decode qC_Pf_calculate.1 99 = .ok (.iload_n 1, 1) := by decide +kernel
theorem d_Pf_calculate_100 : decode qC_Pf_calculate.1 100 = .ok (.bipush 15, 2) := by decide +kernel
theorem d_Pf_calculate_102 : decode qC_Pf_calculate.1 102 = .ok (.aload_n 0, 1) := by decide +kernel
theorem d_Pf_calculate_103 : decode qC_Pf_calculate.1 103 = .ok (.iload_n 1, 1) := by decide +kernel
theorem d_Pf_calculate_104 : decode qC_Pf_calculate.1 104 = .ok (.invokevirtual 53, 3) := by decide +kernel
theorem d_Pf_calculate_107 : decode qC_Pf_calculate.1 107 = .ok (.invokevirtual 49, 3) := by decide +kernel
theorem d_Pf_calculate_110 : decode qC_Pf_calculate.1 110 = .ok (.iinc 1 1, 3) := by decide +kernel
theorem d_Pf_calculate_113 : decode qC_Pf_calculate.1 113 = .ok (.goto (-62), 3) := by decide +kernel
theorem d_Pf_calculate_116 : decode qC_Pf_calculate.1 116 = .ok (.return_, 1) := by decide +kernel
set_option maxRecDepth 100000 in
def lb_f_Pf_calculate_51 (o : Nat) (J7 : St → Option (St)) (ih9 : Int32 × St → Option (St)) (a8 : Int32 × St) : Option (St) :=
  if ((a8.2 (rc o 0) 1) : Int32) ≤ a8.1 then (
  J7 a8.2
  ) else (
  Option.bind (f_Tb_get a8.2 (rc o 2) a8.1 (12 : Int32)) fun x10 =>
  Option.bind (f_Tb_get a8.2 (rc o 2) a8.1 (13 : Int32)) fun x11 =>
  Option.bind (f_Tb_put a8.2 (rc o 2) a8.1 (14 : Int32) (imin x10 x11)) fun x12 =>
  Option.bind (f_Pf_violationOf x12 o a8.1) fun x13 =>
  Option.bind (f_Tb_put x12 (rc o 2) a8.1 (15 : Int32) x13) fun x14 =>
  Lt (a8.1 + (1 : Int32) : Int32) fun x15 =>
  ih9 (x15, x14)
  )
set_option maxRecDepth 100000 in
def lb_f_Pf_calculate_34 (o : Nat) (J5 : St → Option (St)) (ih17 : Int32 × St → Option (St)) (a16 : Int32 × St) : Option (St) :=
  if (a16.1 : Int32) < 0 then (
  J5 a16.2
  ) else (
  Option.bind (f_Pf_descend a16.2 o a16.1) fun x18 =>
  Lt (a16.1 + (-1 : Int32) : Int32) fun x19 =>
  ih17 (x19, x18)
  )
set_option maxRecDepth 100000 in
def lb_f_Pf_calculate_2 (o : Nat) (J2 : St → Option (St)) (ih21 : Int32 × St → Option (St)) (a20 : Int32 × St) : Option (St) :=
  if ((a20.2 (rc o 0) 1) : Int32) ≤ a20.1 then (
  J2 a20.2
  ) else (
  Option.bind (f_Pf_climb a20.2 o a20.1) fun x22 =>
  Lt (a20.1 + (1 : Int32) : Int32) fun x23 =>
  ih21 (x23, x22)
  )
set_option maxRecDepth 100000 in
def f_Pf_calculate (σ : St) (o : Nat) : Option (St) :=
  Jn (fun (σ1 : St) =>
  Lt (((σ1 (rc o 0) 1) - (1 : Int32)) : Int32) fun x3 =>
  Jn (fun (σ4 : St) =>
  Jn (fun (σ6 : St) =>
  some σ6
  ) fun J7 =>
  lp (lb_f_Pf_calculate_51 o J7) 4000 ((0 : Int32), σ4)
  ) fun J5 =>
  lp (lb_f_Pf_calculate_34 o J5) 4000 (x3, σ1)
  ) fun J2 =>
  lp (lb_f_Pf_calculate_2 o J2) 4000 ((0 : Int32), σ)
set_option maxHeartbeats 4000000 in
set_option maxRecDepth 100000 in
theorem cC_Pf_calculate (l : Launch) (g : Ge) (hi : injB wC.2 g) (σ : St) (o : Nat) (ho : wC.2.2.1 o = .inr (4, 3)) (x : St) (h : f_Pf_calculate σ o = some x) : Ct l wC g yC_Pf_calculate qC_Pf_calculate 3 70 [.ref (g.1 o)] σ (none, x) := by
  refine Ct.of (out := o_v) FC_Pf_calculate rfl hi rfl h (fun z hz C => ?_)
  clear h
  subst hz
  unfold f_Pf_calculate
  show Rt z qC_Pf_calculate wC g o_v 0 [(0, .ref (g.1 o))] [] σ _
  refine q_iconst (pc' := 1) C d_Pf_calculate_0 ki_0 rfl ?_
  refine q_istore_n (pc' := 2) (lv' := [(1, .int (0 : Int32)), (0, .ref (g.1 o))]) C d_Pf_calculate_1 (by decide) rfl rfl ?_
  refine q_join (fun J2 : St → Option (St) => ∀ (σ1 : St), Rt z qC_Pf_calculate wC g o_v 24 [(0, .ref (g.1 o))] [] σ1 (J2 σ1)) (fun σ1 => ?_) (fun J2 hJ2 => ?_)
  · refine q_aload_n (pc' := 25) C 0 d_Pf_calculate_24 rfl rfl ?_
    refine gC_Pf_9 (pc' := 28) C o (rc o 0) ho (ly_4_0 ho).1 d_Pf_calculate_25 rfl rfl ?_
    refine gC_Pf_23 (pc' := 31) C (rc o 0) (ly_4_0 ho).2 d_Pf_calculate_28 rfl rfl ?_
    refine q_iconst (pc' := 32) C d_Pf_calculate_31 ki_1 rfl ?_
    refine q_isub (pc' := 33) C d_Pf_calculate_32 rfl ?_
    refine q_let (fun x3 e3 => ?_)
    refine q_topi e3 ?_
    refine q_istore_n (pc' := 34) (lv' := [(1, .int x3), (0, .ref (g.1 o))]) C d_Pf_calculate_33 (by decide) rfl rfl ?_
    refine q_join (fun J5 : St → Option (St) => ∀ (σ4 : St), Rt z qC_Pf_calculate wC g o_v 49 [(0, .ref (g.1 o))] [] σ4 (J5 σ4)) (fun σ4 => ?_) (fun J5 hJ5 => ?_)
    · refine q_iconst (pc' := 50) C d_Pf_calculate_49 ki_0 rfl ?_
      refine q_istore_n (pc' := 51) (lv' := [(1, .int (0 : Int32)), (0, .ref (g.1 o))]) C d_Pf_calculate_50 (by decide) rfl rfl ?_
      refine q_join (fun J7 : St → Option (St) => ∀ (σ6 : St), Rt z qC_Pf_calculate wC g o_v 116 [] [] σ6 (J7 σ6)) (fun σ6 => ?_) (fun J7 hJ7 => ?_)
      · exact q_vret C rfl d_Pf_calculate_116 rfl
      refine Rt.sub [1, 0] rfl (q_lp (fun a8 : Int32 × St => [(0, .ref (g.1 o)), (1, .int a8.1)]) (fun a8 => []) (fun a8 => a8.2) (fun ih9 hih9 a8 => ?_) 4000 ((0 : Int32), σ4))
      unfold lb_f_Pf_calculate_51
      refine q_iload_n (pc' := 52) C 1 d_Pf_calculate_51 rfl rfl ?_
      refine q_aload_n (pc' := 53) C 0 d_Pf_calculate_52 rfl rfl ?_
      refine gC_Pf_9 (pc' := 56) C o (rc o 0) ho (ly_4_0 ho).1 d_Pf_calculate_53 rfl rfl ?_
      refine gC_Pf_23 (pc' := 59) C (rc o 0) (ly_4_0 ho).2 d_Pf_calculate_56 rfl rfl ?_
      refine q_icmp_ge (tgt := 116) (pc' := 62) C d_Pf_calculate_59 rfl rfl ?_ ?_
      · exact Rt.sub [] rfl (hJ7 a8.2)
      · refine q_aload_n (pc' := 63) C 0 d_Pf_calculate_62 rfl rfl ?_
        refine gC_Pf_19 (pc' := 66) C o (rc o 2) ho (ly_4_2 ho).1 d_Pf_calculate_63 rfl rfl ?_
        refine q_iload_n (pc' := 67) C 1 d_Pf_calculate_66 rfl rfl ?_
        refine q_bipush (pc' := 69) C d_Pf_calculate_67 kb_14 rfl ?_
        refine q_aload_n (pc' := 70) C 0 d_Pf_calculate_69 rfl rfl ?_
        refine gC_Pf_19 (pc' := 73) C o (rc o 2) ho (ly_4_2 ho).1 d_Pf_calculate_70 rfl rfl ?_
        refine q_iload_n (pc' := 74) C 1 d_Pf_calculate_73 rfl rfl ?_
        refine q_bipush (pc' := 76) C d_Pf_calculate_74 kb_12 rfl ?_
        refine q_callVr (fr' := 0) (lo' := 0) (pc' := 79) C FC_Tb_get lmC_Pf_38 d_Pf_calculate_76 (rc o 2) (jCo (ly_4_2 ho).2) (ly_4_2 ho).2 cC_8 [.int a8.1, .int (12 : Int32)] [.int (14 : Int32), .int a8.1, .ref (g.1 (rc o 2))] rfl rfl (Nat.le_of_ble_eq_true rfl) ⟨rfl, rfl⟩ (fun x h => cC_Tb_get _ g hi a8.2 (rc o 2) (ly_4_2 ho).2 a8.1 (12 : Int32) x h) rfl (fun x10 hx10 => ?_)
        refine q_aload_n (pc' := 80) C 0 d_Pf_calculate_79 rfl rfl ?_
        refine gC_Pf_19 (pc' := 83) C o (rc o 2) ho (ly_4_2 ho).1 d_Pf_calculate_80 rfl rfl ?_
        refine q_iload_n (pc' := 84) C 1 d_Pf_calculate_83 rfl rfl ?_
        refine q_bipush (pc' := 86) C d_Pf_calculate_84 kb_13 rfl ?_
        refine q_callVr (fr' := 0) (lo' := 0) (pc' := 89) C FC_Tb_get lmC_Pf_38 d_Pf_calculate_86 (rc o 2) (jCo (ly_4_2 ho).2) (ly_4_2 ho).2 cC_8 [.int a8.1, .int (13 : Int32)] [.int x10, .int (14 : Int32), .int a8.1, .ref (g.1 (rc o 2))] rfl rfl (Nat.le_of_ble_eq_true rfl) ⟨rfl, rfl⟩ (fun x h => cC_Tb_get _ g hi a8.2 (rc o 2) (ly_4_2 ho).2 a8.1 (13 : Int32) x h) rfl (fun x11 hx11 => ?_)
        refine q_mmin (pc' := 92) C lj_min_Pf_44 (Nat.le_of_ble_eq_true rfl) ⟨rfl, rfl⟩ d_Pf_calculate_89 rfl ?_
        refine q_callVv (fr' := 0) (lo' := 0) (pc' := 95) C FC_Tb_put lmC_Pf_49 d_Pf_calculate_92 (rc o 2) (jCo (ly_4_2 ho).2) (ly_4_2 ho).2 cC_8 [.int a8.1, .int (14 : Int32), .int (imin x10 x11)] [] rfl rfl (Nat.le_of_ble_eq_true rfl) ⟨rfl, rfl⟩ (fun x h => cC_Tb_put _ g hi a8.2 (rc o 2) (ly_4_2 ho).2 a8.1 (14 : Int32) (imin x10 x11) x h) rfl (fun x12 hx12 => ?_)
        refine q_aload_n (pc' := 96) C 0 d_Pf_calculate_95 rfl rfl ?_
        refine gC_Pf_19 (pc' := 99) C o (rc o 2) ho (ly_4_2 ho).1 d_Pf_calculate_96 rfl rfl ?_
        refine q_iload_n (pc' := 100) C 1 d_Pf_calculate_99 rfl rfl ?_
        refine q_bipush (pc' := 102) C d_Pf_calculate_100 kb_15 rfl ?_
        refine q_aload_n (pc' := 103) C 0 d_Pf_calculate_102 rfl rfl ?_
        refine q_iload_n (pc' := 104) C 1 d_Pf_calculate_103 rfl rfl ?_
        refine q_callVr (fr' := 2) (lo' := 44) (pc' := 107) C FC_Pf_violationOf lmC_Pf_53 d_Pf_calculate_104 o (jCo ho) ho cC_4 [.int a8.1] [.int (15 : Int32), .int a8.1, .ref (g.1 (rc o 2))] rfl rfl (Nat.le_of_ble_eq_true rfl) ⟨rfl, rfl⟩ (fun x h => cC_Pf_violationOf _ g hi x12 o ho a8.1 x h) rfl (fun x13 hx13 => ?_)
        refine q_callVv (fr' := 0) (lo' := 0) (pc' := 110) C FC_Tb_put lmC_Pf_49 d_Pf_calculate_107 (rc o 2) (jCo (ly_4_2 ho).2) (ly_4_2 ho).2 cC_8 [.int a8.1, .int (15 : Int32), .int x13] [] rfl rfl (Nat.le_of_ble_eq_true rfl) ⟨rfl, rfl⟩ (fun x h => cC_Tb_put _ g hi x12 (rc o 2) (ly_4_2 ho).2 a8.1 (15 : Int32) x13 x h) rfl (fun x14 hx14 => ?_)
        refine q_let (fun x15 e15 => ?_)
        refine q_iinc (pc' := 113) (lv' := [(1, .int x15), (0, .ref (g.1 o))]) C 1 d_Pf_calculate_110 rfl (by rw [e15, ki_1]) (by decide) rfl rfl ?_
        refine q_goto (tgt := 51) C d_Pf_calculate_113 rfl ?_
        exact Rt.sub [1, 0] rfl (hih9 (x15, x14))
    refine Rt.sub [1, 0] rfl (q_lp (fun a16 : Int32 × St => [(0, .ref (g.1 o)), (1, .int a16.1)]) (fun a16 => []) (fun a16 => a16.2) (fun ih17 hih17 a16 => ?_) 4000 (x3, σ1))
    unfold lb_f_Pf_calculate_34
    refine q_iload_n (pc' := 35) C 1 d_Pf_calculate_34 rfl rfl ?_
    refine q_if_lt (tgt := 49) (pc' := 38) C d_Pf_calculate_35 rfl rfl ?_ ?_
    · exact Rt.sub [0] rfl (hJ5 a16.2)
    · refine q_aload_n (pc' := 39) C 0 d_Pf_calculate_38 rfl rfl ?_
      refine q_iload_n (pc' := 40) C 1 d_Pf_calculate_39 rfl rfl ?_
      refine q_callVv (fr' := 1) (lo' := 23) (pc' := 43) C FC_Pf_descend lmC_Pf_33 d_Pf_calculate_40 o (jCo ho) ho cC_4 [.int a16.1] [] rfl rfl (Nat.le_of_ble_eq_true rfl) ⟨rfl, rfl⟩ (fun x h => cC_Pf_descend _ g hi a16.2 o ho a16.1 x h) rfl (fun x18 hx18 => ?_)
      refine q_let (fun x19 e19 => ?_)
      refine q_iinc (pc' := 46) (lv' := [(1, .int x19), (0, .ref (g.1 o))]) C 1 d_Pf_calculate_43 rfl (by rw [e19, ki_m1]) (by decide) rfl rfl ?_
      refine q_goto (tgt := 34) C d_Pf_calculate_46 rfl ?_
      exact Rt.sub [1, 0] rfl (hih17 (x19, x18))
  refine Rt.sub [1, 0] rfl (q_lp (fun a20 : Int32 × St => [(0, .ref (g.1 o)), (1, .int a20.1)]) (fun a20 => []) (fun a20 => a20.2) (fun ih21 hih21 a20 => ?_) 4000 ((0 : Int32), σ))
  unfold lb_f_Pf_calculate_2
  refine q_iload_n (pc' := 3) C 1 d_Pf_calculate_2 rfl rfl ?_
  refine q_aload_n (pc' := 4) C 0 d_Pf_calculate_3 rfl rfl ?_
  refine gC_Pf_9 (pc' := 7) C o (rc o 0) ho (ly_4_0 ho).1 d_Pf_calculate_4 rfl rfl ?_
  refine gC_Pf_23 (pc' := 10) C (rc o 0) (ly_4_0 ho).2 d_Pf_calculate_7 rfl rfl ?_
  refine q_icmp_ge (tgt := 24) (pc' := 13) C d_Pf_calculate_10 rfl rfl ?_ ?_
  · exact Rt.sub [0] rfl (hJ2 a20.2)
  · refine q_aload_n (pc' := 14) C 0 d_Pf_calculate_13 rfl rfl ?_
    refine q_iload_n (pc' := 15) C 1 d_Pf_calculate_14 rfl rfl ?_
    refine q_callVv (fr' := 2) (lo' := 44) (pc' := 18) C FC_Pf_climb lmC_Pf_29 d_Pf_calculate_15 o (jCo ho) ho cC_4 [.int a20.1] [] rfl rfl (Nat.le_of_ble_eq_true rfl) ⟨rfl, rfl⟩ (fun x h => cC_Pf_climb _ g hi a20.2 o ho a20.1 x h) rfl (fun x22 hx22 => ?_)
    refine q_let (fun x23 e23 => ?_)
    refine q_iinc (pc' := 21) (lv' := [(1, .int x23), (0, .ref (g.1 o))]) C 1 d_Pf_calculate_18 rfl (by rw [e23, ki_1]) (by decide) rfl rfl ?_
    refine q_goto (tgt := 2) C d_Pf_calculate_21 rfl ?_
    exact Rt.sub [1, 0] rfl (hih21 (x23, x22))
theorem d_Pa_refresh_0 : decode qC_Pa_refresh.1 0 = .ok (.aload_n 0, 1) := by decide +kernel
theorem d_Pa_refresh_1 : decode qC_Pa_refresh.1 1 = .ok (.getfield 9, 3) := by decide +kernel
theorem d_Pa_refresh_4 : decode qC_Pa_refresh.1 4 = .ok (.ifCond .ne 4, 3) := by decide +kernel
theorem d_Pa_refresh_7 : decode qC_Pa_refresh.1 7 = .ok (.return_, 1) := by decide +kernel
theorem d_Pa_refresh_8 : decode qC_Pa_refresh.1 8 = .ok (.aload_n 0, 1) := by decide +kernel
theorem d_Pa_refresh_9 : decode qC_Pa_refresh.1 9 = .ok (.iconst 0, 1) := by decide +kernel
theorem d_Pa_refresh_10 : decode qC_Pa_refresh.1 10 = .ok (.putfield 9, 3) := by decide +kernel
theorem d_Pa_refresh_13 : decode qC_Pa_refresh.1 13 = .ok (.aload_n 0, 1) := by decide +kernel
theorem d_Pa_refresh_14 : decode qC_Pa_refresh.1 14 = .ok (.getfield 33, 3) := by decide +kernel
theorem d_Pa_refresh_17 : decode qC_Pa_refresh.1 17 = .ok (.invokevirtual 55, 3) := by decide +kernel
theorem d_Pa_refresh_20 : decode qC_Pa_refresh.1 20 = .ok (.iconst 0, 1) := by decide +kernel
theorem d_Pa_refresh_21 : decode qC_Pa_refresh.1 21 = .ok (.istore_n 1, 1) := by decide +kernel
theorem d_Pa_refresh_22 : decode qC_Pa_refresh.1 22 = .ok (.iload_n 1, 1) := by decide +kernel
theorem d_Pa_refresh_23 : decode qC_Pa_refresh.1 23 = .ok (.aload_n 0, 1) := by decide +kernel
theorem d_Pa_refresh_24 : decode qC_Pa_refresh.1 24 = .ok (.getfield 15, 3) := by decide +kernel
theorem d_Pa_refresh_27 : decode qC_Pa_refresh.1 27 = .ok (.getfield 58, 3) := by decide +kernel
theorem d_Pa_refresh_30 : decode qC_Pa_refresh.1 30 = .ok (.if_icmp .ge 17, 3) := by decide +kernel
theorem d_Pa_refresh_33 : decode qC_Pa_refresh.1 33 = .ok (.aload_n 0, 1) := by decide +kernel
theorem d_Pa_refresh_34 : decode qC_Pa_refresh.1 34 = .ok (.getfield 33, 3) := by decide +kernel
theorem d_Pa_refresh_37 : decode qC_Pa_refresh.1 37 = .ok (.iload_n 1, 1) := by decide +kernel
theorem d_Pa_refresh_38 : decode qC_Pa_refresh.1 38 = .ok (.invokevirtual 64, 3) := by decide +kernel
theorem d_Pa_refresh_41 : decode qC_Pa_refresh.1 41 = .ok (.iinc 1 1, 3) := by decide +kernel
theorem d_Pa_refresh_44 : decode qC_Pa_refresh.1 44 = .ok (.goto (-22), 3) := by decide +kernel
theorem d_Pa_refresh_47 : decode qC_Pa_refresh.1 47 = .ok (.iconst 0, 1) := by decide +kernel
theorem d_Pa_refresh_48 : decode qC_Pa_refresh.1 48 = .ok (.istore_n 1, 1) := by decide +kernel
theorem d_Pa_refresh_49 : decode qC_Pa_refresh.1 49 = .ok (.iload_n 1, 1) := by decide +kernel
theorem d_Pa_refresh_50 : decode qC_Pa_refresh.1 50 = .ok (.aload_n 0, 1) := by decide +kernel
theorem d_Pa_refresh_51 : decode qC_Pa_refresh.1 51 = .ok (.getfield 33, 3) := by decide +kernel
theorem d_Pa_refresh_54 : decode qC_Pa_refresh.1 54 = .ok (.getfield 68, 3) := by decide +kernel
theorem d_Pa_refresh_57 : decode qC_Pa_refresh.1 57 = .ok (.if_icmp .ge 17, 3) := by decide +kernel
theorem d_Pa_refresh_60 : decode qC_Pa_refresh.1 60 = .ok (.aload_n 0, 1) := by decide +kernel
theorem d_Pa_refresh_61 : decode qC_Pa_refresh.1 61 = .ok (.getfield 33, 3) := by decide +kernel
theorem d_Pa_refresh_64 : decode qC_Pa_refresh.1 64 = .ok (.iload_n 1, 1) := by decide +kernel
theorem d_Pa_refresh_65 : decode qC_Pa_refresh.1 65 = .ok (.invokevirtual 69, 3) := by decide +kernel
theorem d_Pa_refresh_68 : decode qC_Pa_refresh.1 68 = .ok (.iinc 1 1, 3) := by decide +kernel
theorem d_Pa_refresh_71 : decode qC_Pa_refresh.1 71 = .ok (.goto (-22), 3) := by decide +kernel
theorem d_Pa_refresh_74 : decode qC_Pa_refresh.1 74 = .ok (.aload_n 0, 1) := by decide +kernel
theorem d_Pa_refresh_75 : decode qC_Pa_refresh.1 75 = .ok (.getfield 42, 3) := by decide +kernel
theorem d_Pa_refresh_78 : decode qC_Pa_refresh.1 78 = .ok (.invokevirtual 72, 3) := by decide +kernel
theorem d_Pa_refresh_81 : decode qC_Pa_refresh.1 81 = .ok (.iconst 0, 1) := by decide +kernel
theorem d_Pa_refresh_82 : decode qC_Pa_refresh.1 82 = .ok (.istore_n 1, 1) := by decide +kernel
theorem d_Pa_refresh_83 : decode qC_Pa_refresh.1 83 = .ok (.iconst 0, 1) := by decide +kernel
theorem d_Pa_refresh_84 : decode qC_Pa_refresh.1 84 = .ok (.istore_n 2, 1) := by decide +kernel
theorem d_Pa_refresh_85 : decode qC_Pa_refresh.1 85 = .ok (.iload_n 2, 1) := by decide +kernel
theorem d_Pa_refresh_86 : decode qC_Pa_refresh.1 86 = .ok (.aload_n 0, 1) := by decide +kernel
theorem d_Pa_refresh_87 : decode qC_Pa_refresh.1 87 = .ok (.getfield 15, 3) := by decide +kernel
theorem d_Pa_refresh_90 : decode qC_Pa_refresh.1 90 = .ok (.getfield 58, 3) := by decide +kernel
theorem d_Pa_refresh_93 : decode qC_Pa_refresh.1 93 = .ok (.if_icmp .ge 66, 3) := by decide +kernel
theorem d_Pa_refresh_96 : decode qC_Pa_refresh.1 96 = .ok (.aload_n 0, 1) := by decide +kernel
theorem d_Pa_refresh_97 : decode qC_Pa_refresh.1 97 = .ok (.getfield 42, 3) := by decide +kernel
theorem d_Pa_refresh_100 : decode qC_Pa_refresh.1 100 = .ok (.iload_n 2, 1) := by decide +kernel
theorem d_Pa_refresh_101 : decode qC_Pa_refresh.1 101 = .ok (.invokevirtual 73, 3) := by decide +kernel
theorem d_Pa_refresh_104 : decode qC_Pa_refresh.1 104 = .ok (.iload_n 1, 1) := by decide +kernel
theorem d_Pa_refresh_105 : decode qC_Pa_refresh.1 105 = .ok (.aload_n 0, 1) := by decide +kernel
theorem d_Pa_refresh_106 : decode qC_Pa_refresh.1 106 = .ok (.getfield 33, 3) := by decide +kernel
theorem d_Pa_refresh_109 : decode qC_Pa_refresh.1 109 = .ok (.getfield 68, 3) := by decide +kernel
theorem d_Pa_refresh_112 : decode qC_Pa_refresh.1 112 = .ok (.if_icmp .ge 33, 3) := by decide +kernel
theorem d_Pa_refresh_115 : decode qC_Pa_refresh.1 115 = .ok (.aload_n 0, 1) := by decide +kernel
theorem d_Pa_refresh_116 : decode qC_Pa_refresh.1 116 = .ok (.getfield 33, 3) := by decide +kernel
theorem d_Pa_refresh_119 : decode qC_Pa_refresh.1 119 = .ok (.getfield 76, 3) := by decide +kernel
theorem d_Pa_refresh_122 : decode qC_Pa_refresh.1 122 = .ok (.iload_n 1, 1) := by decide +kernel
theorem d_Pa_refresh_123 : decode qC_Pa_refresh.1 123 = .ok (.iconst 0, 1) := by decide +kernel
theorem d_Pa_refresh_124 : decode qC_Pa_refresh.1 124 = .ok (.invokevirtual 79, 3) := by decide +kernel
theorem d_Pa_refresh_127 : decode qC_Pa_refresh.1 127 = .ok (.iload_n 2, 1) := by decide +kernel
theorem d_Pa_refresh_128 : decode qC_Pa_refresh.1 128 = .ok (.if_icmp .ne 17, 3) := by decide +kernel
theorem d_Pa_refresh_131 : decode qC_Pa_refresh.1 131 = .ok (.aload_n 0, 1) := by decide +kernel
theorem d_Pa_refresh_132 : decode qC_Pa_refresh.1 132 = .ok (.getfield 42, 3) := by decide +kernel
theorem d_Pa_refresh_135 : decode qC_Pa_refresh.1 135 = .ok (.iload_n 1, 1) := by decide +kernel
theorem d_Pa_refresh_136 : decode qC_Pa_refresh.1 136 = .ok (.invokevirtual 83, 3) := by decide +kernel
theorem d_Pa_refresh_139 : decode qC_Pa_refresh.1 139 = .ok (.iinc 1 1, 3) := by decide +kernel
theorem d_Pa_refresh_142 : decode qC_Pa_refresh.1 142 = .ok (.goto (-38), 3) := by decide +kernel
theorem d_Pa_refresh_145 : decode qC_Pa_refresh.1 145 = .ok (.aload_n 0, 1) := by decide +kernel
theorem d_Pa_refresh_146 : decode qC_Pa_refresh.1 146 = .ok (.getfield 42, 3) := by decide +kernel
theorem d_Pa_refresh_149 : decode qC_Pa_refresh.1 149 = .ok (.iload_n 2, 1) := by decide +kernel
theorem d_Pa_refresh_150 : decode qC_Pa_refresh.1 150 = .ok (.invokevirtual 86, 3) := by decide +kernel
theorem d_Pa_refresh_153 : decode qC_Pa_refresh.1 153 = .ok (.iinc 2 1, 3) := by decide +kernel
theorem d_Pa_refresh_156 : decode qC_Pa_refresh.1 156 = .ok (.goto (-71), 3) := by decide +kernel
theorem d_Pa_refresh_159 : decode qC_Pa_refresh.1 159 = .ok (.aload_n 0, 1) := by decide +kernel
theorem d_Pa_refresh_160 : decode qC_Pa_refresh.1 160 = .ok (.getfield 51, 3) := by decide +kernel
theorem d_Pa_refresh_163 : decode qC_Pa_refresh.1 163 = .ok (.invokevirtual 89, 3) := by decide +kernel
theorem d_Pa_refresh_166 : decode qC_Pa_refresh.1 166 = .ok (.return_, 1) := by decide +kernel
set_option maxRecDepth 100000 in
def lb_f_Pa_refresh_104 (o : Nat) (a11 : Int32 × Int32 × St) (J16 : Int32 → St → Option (St)) (ih20 : Int32 × St → Option (St)) (a19 : Int32 × St) : Option (St) :=
  if ((a19.2 (rc o 2) 4) : Int32) ≤ a19.1 then (
  J16 a19.1 a19.2
  ) else (
  Option.bind (f_Tb_get a19.2 (rc (rc o 2) 3) a19.1 (0 : Int32)) fun x21 =>
  if (x21 : Int32) = a11.2.1 then (
  Option.bind (f_Pc_drawSegment a19.2 (rc o 3) a19.1) fun x22 =>
  Lt (a19.1 + (1 : Int32) : Int32) fun x23 =>
  ih20 (x23, x22)
  ) else (
  J16 a19.1 a19.2
  )
  )
set_option maxRecDepth 100000 in
def lb_f_Pa_refresh_85 (o : Nat) (J9 : St → Option (St)) (ih12 : Int32 × Int32 × St → Option (St)) (a11 : Int32 × Int32 × St) : Option (St) :=
  if ((a11.2.2 (rc o 0) 1) : Int32) ≤ a11.2.1 then (
  J9 a11.2.2
  ) else (
  Option.bind (f_Pc_beginLeg a11.2.2 (rc o 3) a11.2.1) fun x13 =>
  Jn (fun (x14 : Int32) (σ15 : St) =>
  Option.bind (f_Pc_endLeg σ15 (rc o 3) a11.2.1) fun x17 =>
  Lt (a11.2.1 + (1 : Int32) : Int32) fun x18 =>
  ih12 (x14, x18, x17)
  ) fun J16 =>
  lp (lb_f_Pa_refresh_104 o a11 J16) 4000 (a11.1, x13)
  )
set_option maxRecDepth 100000 in
def lb_f_Pa_refresh_49 (o : Nat) (J6 : St → Option (St)) (ih25 : Int32 × St → Option (St)) (a24 : Int32 × St) : Option (St) :=
  if ((a24.2 (rc o 2) 4) : Int32) ≤ a24.1 then (
  J6 a24.2
  ) else (
  Option.bind (f_Tk_turnInto a24.2 (rc o 2) a24.1) fun x26 =>
  Lt (a24.1 + (1 : Int32) : Int32) fun x27 =>
  ih25 (x27, x26)
  )
set_option maxRecDepth 100000 in
def lb_f_Pa_refresh_22 (o : Nat) (J4 : St → Option (St)) (ih29 : Int32 × St → Option (St)) (a28 : Int32 × St) : Option (St) :=
  if ((a28.2 (rc o 0) 1) : Int32) ≤ a28.1 then (
  J4 a28.2
  ) else (
  Option.bind (f_Tk_layLeg a28.2 (rc o 2) a28.1) fun x30 =>
  Lt (a28.1 + (1 : Int32) : Int32) fun x31 =>
  ih29 (x31, x30)
  )
set_option maxRecDepth 100000 in
def f_Pa_refresh (σ : St) (o : Nat) : Option (St) :=
  if ((σ o 5) : Int32) = 0 then (
  some σ
  ) else (
  Lt (s2 σ o 5 (0 : Int32)) fun σ1 =>
  Option.bind (f_Tk_clear σ1 (rc o 2)) fun x2 =>
  Jn (fun (σ3 : St) =>
  Jn (fun (σ5 : St) =>
  Option.bind (f_Pc_clear σ5 (rc o 3)) fun x7 =>
  Jn (fun (σ8 : St) =>
  Option.bind (f_Pf_calculate σ8 (rc o 4)) fun x10 =>
  some x10
  ) fun J9 =>
  lp (lb_f_Pa_refresh_85 o J9) 4000 ((0 : Int32), (0 : Int32), x7)
  ) fun J6 =>
  lp (lb_f_Pa_refresh_49 o J6) 4000 ((0 : Int32), σ3)
  ) fun J4 =>
  lp (lb_f_Pa_refresh_22 o J4) 4000 ((0 : Int32), x2)
  )
set_option maxHeartbeats 4000000 in
set_option maxRecDepth 100000 in
theorem cC_Pa_refresh (l : Launch) (g : Ge) (hi : injB wC.2 g) (σ : St) (o : Nat) (ho : wC.2.2.1 o = .inr (1, 6)) (x : St) (h : f_Pa_refresh σ o = some x) : Ct l wC g yC_Pa_refresh qC_Pa_refresh 5 129 [.ref (g.1 o)] σ (none, x) := by
  refine Ct.of (out := o_v) FC_Pa_refresh rfl hi rfl h (fun z hz C => ?_)
  clear h
  subst hz
  unfold f_Pa_refresh
  show Rt z qC_Pa_refresh wC g o_v 0 [(0, .ref (g.1 o))] [] σ _
  refine q_aload_n (pc' := 1) C 0 d_Pa_refresh_0 rfl rfl ?_
  refine gC_Pa_9 (pc' := 4) C o ho d_Pa_refresh_1 rfl rfl ?_
  refine q_if_ne (tgt := 8) (pc' := 7) C d_Pa_refresh_4 rfl rfl ?_ ?_
  · refine q_aload_n (pc' := 9) C 0 d_Pa_refresh_8 rfl rfl ?_
    refine q_iconst (pc' := 10) C d_Pa_refresh_9 ki_0 rfl ?_
    refine pC_Pa_9 (pc' := 13) C o ho d_Pa_refresh_10 (by decide) rfl rfl ?_
    refine q_let (fun σ1 e1 => ?_)
    refine q_state e1 ?_
    refine q_aload_n (pc' := 14) C 0 d_Pa_refresh_13 rfl rfl ?_
    refine gC_Pa_33 (pc' := 17) C o (rc o 2) ho (ly_1_2 ho).1 d_Pa_refresh_14 rfl rfl ?_
    refine q_callVv (fr' := 2) (lo' := 43) (pc' := 20) C FC_Tk_clear lmC_Pa_55 d_Pa_refresh_17 (rc o 2) (jCo (ly_1_2 ho).2) (ly_1_2 ho).2 cC_9 [] [] rfl rfl (Nat.le_of_ble_eq_true rfl) ⟨rfl, rfl⟩ (fun x h => cC_Tk_clear _ g hi σ1 (rc o 2) (ly_1_2 ho).2 x h) rfl (fun x2 hx2 => ?_)
    refine q_iconst (pc' := 21) C d_Pa_refresh_20 ki_0 rfl ?_
    refine q_istore_n (pc' := 22) (lv' := [(1, .int (0 : Int32)), (0, .ref (g.1 o))]) C d_Pa_refresh_21 (by decide) rfl rfl ?_
    refine q_join (fun J4 : St → Option (St) => ∀ (σ3 : St), Rt z qC_Pa_refresh wC g o_v 47 [(0, .ref (g.1 o))] [] σ3 (J4 σ3)) (fun σ3 => ?_) (fun J4 hJ4 => ?_)
    · refine q_iconst (pc' := 48) C d_Pa_refresh_47 ki_0 rfl ?_
      refine q_istore_n (pc' := 49) (lv' := [(1, .int (0 : Int32)), (0, .ref (g.1 o))]) C d_Pa_refresh_48 (by decide) rfl rfl ?_
      refine q_join (fun J6 : St → Option (St) => ∀ (σ5 : St), Rt z qC_Pa_refresh wC g o_v 74 [(0, .ref (g.1 o))] [] σ5 (J6 σ5)) (fun σ5 => ?_) (fun J6 hJ6 => ?_)
      · refine q_aload_n (pc' := 75) C 0 d_Pa_refresh_74 rfl rfl ?_
        refine gC_Pa_42 (pc' := 78) C o (rc o 3) ho (ly_1_3 ho).1 d_Pa_refresh_75 rfl rfl ?_
        refine q_callVv (fr' := 0) (lo' := 0) (pc' := 81) C FC_Pc_clear lmC_Pa_72 d_Pa_refresh_78 (rc o 3) (jCo (ly_1_3 ho).2) (ly_1_3 ho).2 cC_2 [] [] rfl rfl (Nat.le_of_ble_eq_true rfl) ⟨rfl, rfl⟩ (fun x h => cC_Pc_clear _ g hi σ5 (rc o 3) (ly_1_3 ho).2 x h) rfl (fun x7 hx7 => ?_)
        refine q_iconst (pc' := 82) C d_Pa_refresh_81 ki_0 rfl ?_
        refine q_istore_n (pc' := 83) (lv' := [(1, .int (0 : Int32)), (0, .ref (g.1 o))]) C d_Pa_refresh_82 (by decide) rfl rfl ?_
        refine q_iconst (pc' := 84) C d_Pa_refresh_83 ki_0 rfl ?_
        refine q_istore_n (pc' := 85) (lv' := [(2, .int (0 : Int32)), (1, .int (0 : Int32)), (0, .ref (g.1 o))]) C d_Pa_refresh_84 (by decide) rfl rfl ?_
        refine q_join (fun J9 : St → Option (St) => ∀ (σ8 : St), Rt z qC_Pa_refresh wC g o_v 159 [(0, .ref (g.1 o))] [] σ8 (J9 σ8)) (fun σ8 => ?_) (fun J9 hJ9 => ?_)
        · refine q_aload_n (pc' := 160) C 0 d_Pa_refresh_159 rfl rfl ?_
          refine gC_Pa_51 (pc' := 163) C o (rc o 4) ho (ly_1_4 ho).1 d_Pa_refresh_160 rfl rfl ?_
          refine q_callVv (fr' := 3) (lo' := 70) (pc' := 166) C FC_Pf_calculate lmC_Pa_89 d_Pa_refresh_163 (rc o 4) (jCo (ly_1_4 ho).2) (ly_1_4 ho).2 cC_4 [] [] rfl rfl (Nat.le_of_ble_eq_true rfl) ⟨rfl, rfl⟩ (fun x h => cC_Pf_calculate _ g hi σ8 (rc o 4) (ly_1_4 ho).2 x h) rfl (fun x10 hx10 => ?_)
          exact q_vret C rfl d_Pa_refresh_166 rfl
        refine Rt.sub [2, 1, 0] rfl (q_lp (fun a11 : Int32 × Int32 × St => [(0, .ref (g.1 o)), (1, .int a11.1), (2, .int a11.2.1)]) (fun a11 => []) (fun a11 => a11.2.2) (fun ih12 hih12 a11 => ?_) 4000 ((0 : Int32), (0 : Int32), x7))
        unfold lb_f_Pa_refresh_85
        refine q_iload_n (pc' := 86) C 2 d_Pa_refresh_85 rfl rfl ?_
        refine q_aload_n (pc' := 87) C 0 d_Pa_refresh_86 rfl rfl ?_
        refine gC_Pa_15 (pc' := 90) C o (rc o 0) ho (ly_1_0 ho).1 d_Pa_refresh_87 rfl rfl ?_
        refine gC_Pa_58 (pc' := 93) C (rc o 0) (ly_1_0 ho).2 d_Pa_refresh_90 rfl rfl ?_
        refine q_icmp_ge (tgt := 159) (pc' := 96) C d_Pa_refresh_93 rfl rfl ?_ ?_
        · exact Rt.sub [0] rfl (hJ9 a11.2.2)
        · refine q_aload_n (pc' := 97) C 0 d_Pa_refresh_96 rfl rfl ?_
          refine gC_Pa_42 (pc' := 100) C o (rc o 3) ho (ly_1_3 ho).1 d_Pa_refresh_97 rfl rfl ?_
          refine q_iload_n (pc' := 101) C 2 d_Pa_refresh_100 rfl rfl ?_
          refine q_callVv (fr' := 1) (lo' := 22) (pc' := 104) C FC_Pc_beginLeg lmC_Pa_73 d_Pa_refresh_101 (rc o 3) (jCo (ly_1_3 ho).2) (ly_1_3 ho).2 cC_2 [.int a11.2.1] [] rfl rfl (Nat.le_of_ble_eq_true rfl) ⟨rfl, rfl⟩ (fun x h => cC_Pc_beginLeg _ g hi a11.2.2 (rc o 3) (ly_1_3 ho).2 a11.2.1 x h) rfl (fun x13 hx13 => ?_)
          refine q_join (fun J16 : Int32 → St → Option (St) => ∀ (x14 : Int32) (σ15 : St), Rt z qC_Pa_refresh wC g o_v 145 [(0, .ref (g.1 o)), (1, .int x14), (2, .int a11.2.1)] [] σ15 (J16 x14 σ15)) (fun x14 σ15 => ?_) (fun J16 hJ16 => ?_)
          · refine q_aload_n (pc' := 146) C 0 d_Pa_refresh_145 rfl rfl ?_
            refine gC_Pa_42 (pc' := 149) C o (rc o 3) ho (ly_1_3 ho).1 d_Pa_refresh_146 rfl rfl ?_
            refine q_iload_n (pc' := 150) C 2 d_Pa_refresh_149 rfl rfl ?_
            refine q_callVv (fr' := 4) (lo' := 92) (pc' := 153) C FC_Pc_endLeg lmC_Pa_86 d_Pa_refresh_150 (rc o 3) (jCo (ly_1_3 ho).2) (ly_1_3 ho).2 cC_2 [.int a11.2.1] [] rfl rfl (Nat.le_of_ble_eq_true rfl) ⟨rfl, rfl⟩ (fun x h => cC_Pc_endLeg _ g hi σ15 (rc o 3) (ly_1_3 ho).2 a11.2.1 x h) rfl (fun x17 hx17 => ?_)
            refine q_let (fun x18 e18 => ?_)
            refine q_iinc (pc' := 156) (lv' := [(2, .int x18), (0, .ref (g.1 o)), (1, .int x14)]) C 2 d_Pa_refresh_153 rfl (by rw [e18, ki_1]) (by decide) rfl rfl ?_
            refine q_goto (tgt := 85) C d_Pa_refresh_156 rfl ?_
            exact Rt.sub [1, 2, 0] rfl (hih12 (x14, x18, x17))
          refine Rt.sub [0, 1, 2] rfl (q_lp (fun a19 : Int32 × St => [(0, .ref (g.1 o)), (1, .int a19.1), (2, .int a11.2.1)]) (fun a19 => []) (fun a19 => a19.2) (fun ih20 hih20 a19 => ?_) 4000 (a11.1, x13))
          unfold lb_f_Pa_refresh_104
          refine q_iload_n (pc' := 105) C 1 d_Pa_refresh_104 rfl rfl ?_
          refine q_aload_n (pc' := 106) C 0 d_Pa_refresh_105 rfl rfl ?_
          refine gC_Pa_33 (pc' := 109) C o (rc o 2) ho (ly_1_2 ho).1 d_Pa_refresh_106 rfl rfl ?_
          refine gC_Pa_68 (pc' := 112) C (rc o 2) (ly_1_2 ho).2 d_Pa_refresh_109 rfl rfl ?_
          refine q_icmp_ge (tgt := 145) (pc' := 115) C d_Pa_refresh_112 rfl rfl ?_ ?_
          · exact Rt.sub [0, 1, 2] rfl (hJ16 a19.1 a19.2)
          · refine q_aload_n (pc' := 116) C 0 d_Pa_refresh_115 rfl rfl ?_
            refine gC_Pa_33 (pc' := 119) C o (rc o 2) ho (ly_1_2 ho).1 d_Pa_refresh_116 rfl rfl ?_
            refine gC_Pa_76 (pc' := 122) C (rc o 2) (rc (rc o 2) 3) (ly_1_2 ho).2 (ly_9_3 (ly_1_2 ho).2).1 d_Pa_refresh_119 rfl rfl ?_
            refine q_iload_n (pc' := 123) C 1 d_Pa_refresh_122 rfl rfl ?_
            refine q_iconst (pc' := 124) C d_Pa_refresh_123 ki_0 rfl ?_
            refine q_callVr (fr' := 0) (lo' := 0) (pc' := 127) C FC_Tb_get lmC_Pa_79 d_Pa_refresh_124 (rc (rc o 2) 3) (jCo (ly_9_3 (ly_1_2 ho).2).2) (ly_9_3 (ly_1_2 ho).2).2 cC_8 [.int a19.1, .int (0 : Int32)] [] rfl rfl (Nat.le_of_ble_eq_true rfl) ⟨rfl, rfl⟩ (fun x h => cC_Tb_get _ g hi a19.2 (rc (rc o 2) 3) (ly_9_3 (ly_1_2 ho).2).2 a19.1 (0 : Int32) x h) rfl (fun x21 hx21 => ?_)
            refine q_iload_n (pc' := 128) C 2 d_Pa_refresh_127 rfl rfl ?_
            refine q_icmp_ne (tgt := 145) (pc' := 131) C d_Pa_refresh_128 rfl rfl ?_ ?_
            · exact Rt.sub [0, 1, 2] rfl (hJ16 a19.1 a19.2)
            · refine q_aload_n (pc' := 132) C 0 d_Pa_refresh_131 rfl rfl ?_
              refine gC_Pa_42 (pc' := 135) C o (rc o 3) ho (ly_1_3 ho).1 d_Pa_refresh_132 rfl rfl ?_
              refine q_iload_n (pc' := 136) C 1 d_Pa_refresh_135 rfl rfl ?_
              refine q_callVv (fr' := 4) (lo' := 102) (pc' := 139) C FC_Pc_drawSegment lmC_Pa_83 d_Pa_refresh_136 (rc o 3) (jCo (ly_1_3 ho).2) (ly_1_3 ho).2 cC_2 [.int a19.1] [] rfl rfl (Nat.le_of_ble_eq_true rfl) ⟨rfl, rfl⟩ (fun x h => cC_Pc_drawSegment _ g hi a19.2 (rc o 3) (ly_1_3 ho).2 a19.1 x h) rfl (fun x22 hx22 => ?_)
              refine q_let (fun x23 e23 => ?_)
              refine q_iinc (pc' := 142) (lv' := [(1, .int x23), (0, .ref (g.1 o)), (2, .int a11.2.1)]) C 1 d_Pa_refresh_139 rfl (by rw [e23, ki_1]) (by decide) rfl rfl ?_
              refine q_goto (tgt := 104) C d_Pa_refresh_142 rfl ?_
              exact Rt.sub [1, 0, 2] rfl (hih20 (x23, x22))
      refine Rt.sub [1, 0] rfl (q_lp (fun a24 : Int32 × St => [(0, .ref (g.1 o)), (1, .int a24.1)]) (fun a24 => []) (fun a24 => a24.2) (fun ih25 hih25 a24 => ?_) 4000 ((0 : Int32), σ3))
      unfold lb_f_Pa_refresh_49
      refine q_iload_n (pc' := 50) C 1 d_Pa_refresh_49 rfl rfl ?_
      refine q_aload_n (pc' := 51) C 0 d_Pa_refresh_50 rfl rfl ?_
      refine gC_Pa_33 (pc' := 54) C o (rc o 2) ho (ly_1_2 ho).1 d_Pa_refresh_51 rfl rfl ?_
      refine gC_Pa_68 (pc' := 57) C (rc o 2) (ly_1_2 ho).2 d_Pa_refresh_54 rfl rfl ?_
      refine q_icmp_ge (tgt := 74) (pc' := 60) C d_Pa_refresh_57 rfl rfl ?_ ?_
      · exact Rt.sub [0] rfl (hJ6 a24.2)
      · refine q_aload_n (pc' := 61) C 0 d_Pa_refresh_60 rfl rfl ?_
        refine gC_Pa_33 (pc' := 64) C o (rc o 2) ho (ly_1_2 ho).1 d_Pa_refresh_61 rfl rfl ?_
        refine q_iload_n (pc' := 65) C 1 d_Pa_refresh_64 rfl rfl ?_
        refine q_callVNv (fr' := 4) (lo' := 88) (pc' := 68) C FC_Tk_turnInto (C.2.2.2.2.2.2.2.2.2.2 rfl).2.2.2.2.2.2.2.2.1 d_Pa_refresh_65 (rc o 2) (jCo (ly_1_2 ho).2) (ly_1_2 ho).2 cC_9 [.int a24.1] [] rfl rfl (Nat.le_of_ble_eq_true rfl) ⟨rfl, rfl⟩ (fun x h => cC_Tk_turnInto _ g hi a24.2 (rc o 2) (ly_1_2 ho).2 a24.1 x h) rfl (fun x26 hx26 => ?_)
        refine q_let (fun x27 e27 => ?_)
        refine q_iinc (pc' := 71) (lv' := [(1, .int x27), (0, .ref (g.1 o))]) C 1 d_Pa_refresh_68 rfl (by rw [e27, ki_1]) (by decide) rfl rfl ?_
        refine q_goto (tgt := 49) C d_Pa_refresh_71 rfl ?_
        exact Rt.sub [1, 0] rfl (hih25 (x27, x26))
    refine Rt.sub [1, 0] rfl (q_lp (fun a28 : Int32 × St => [(0, .ref (g.1 o)), (1, .int a28.1)]) (fun a28 => []) (fun a28 => a28.2) (fun ih29 hih29 a28 => ?_) 4000 ((0 : Int32), x2))
    unfold lb_f_Pa_refresh_22
    refine q_iload_n (pc' := 23) C 1 d_Pa_refresh_22 rfl rfl ?_
    refine q_aload_n (pc' := 24) C 0 d_Pa_refresh_23 rfl rfl ?_
    refine gC_Pa_15 (pc' := 27) C o (rc o 0) ho (ly_1_0 ho).1 d_Pa_refresh_24 rfl rfl ?_
    refine gC_Pa_58 (pc' := 30) C (rc o 0) (ly_1_0 ho).2 d_Pa_refresh_27 rfl rfl ?_
    refine q_icmp_ge (tgt := 47) (pc' := 33) C d_Pa_refresh_30 rfl rfl ?_ ?_
    · exact Rt.sub [0] rfl (hJ4 a28.2)
    · refine q_aload_n (pc' := 34) C 0 d_Pa_refresh_33 rfl rfl ?_
      refine gC_Pa_33 (pc' := 37) C o (rc o 2) ho (ly_1_2 ho).1 d_Pa_refresh_34 rfl rfl ?_
      refine q_iload_n (pc' := 38) C 1 d_Pa_refresh_37 rfl rfl ?_
      refine q_callVv (fr' := 4) (lo' := 107) (pc' := 41) C FC_Tk_layLeg lmC_Pa_64 d_Pa_refresh_38 (rc o 2) (jCo (ly_1_2 ho).2) (ly_1_2 ho).2 cC_9 [.int a28.1] [] rfl rfl (Nat.le_of_ble_eq_true rfl) ⟨rfl, rfl⟩ (fun x h => cC_Tk_layLeg _ g hi a28.2 (rc o 2) (ly_1_2 ho).2 a28.1 x h) rfl (fun x30 hx30 => ?_)
      refine q_let (fun x31 e31 => ?_)
      refine q_iinc (pc' := 44) (lv' := [(1, .int x31), (0, .ref (g.1 o))]) C 1 d_Pa_refresh_41 rfl (by rw [e31, ki_1]) (by decide) rfl rfl ?_
      refine q_goto (tgt := 22) C d_Pa_refresh_44 rfl ?_
      exact Rt.sub [1, 0] rfl (hih29 (x31, x30))
  · exact q_vret C rfl d_Pa_refresh_7 rfl
theorem d_Pa_gapBefore_0 : decode qC_Pa_gapBefore.1 0 = .ok (.iload_n 1, 1) := by decide +kernel
theorem d_Pa_gapBefore_1 : decode qC_Pa_gapBefore.1 1 = .ok (.ifCond .eq 20, 3) := by decide +kernel
theorem d_Pa_gapBefore_4 : decode qC_Pa_gapBefore.1 4 = .ok (.aload_n 0, 1) := by decide +kernel
theorem d_Pa_gapBefore_5 : decode qC_Pa_gapBefore.1 5 = .ok (.getfield 24, 3) := by decide +kernel
theorem d_Pa_gapBefore_8 : decode qC_Pa_gapBefore.1 8 = .ok (.iload_n 1, 1) := by decide +kernel
theorem d_Pa_gapBefore_9 : decode qC_Pa_gapBefore.1 9 = .ok (.iconst 0, 1) := by decide +kernel
theorem d_Pa_gapBefore_10 : decode qC_Pa_gapBefore.1 10 = .ok (.invokevirtual 79, 3) := by decide +kernel
theorem d_Pa_gapBefore_13 : decode qC_Pa_gapBefore.1 13 = .ok (.iconst 1, 1) := by decide +kernel
theorem d_Pa_gapBefore_14 : decode qC_Pa_gapBefore.1 14 = .ok (.if_icmp .ne 7, 3) := by decide +kernel
theorem d_Pa_gapBefore_17 : decode qC_Pa_gapBefore.1 17 = .ok (.iconst 1, 1) := by decide +kernel
theorem d_Pa_gapBefore_18 : decode qC_Pa_gapBefore.1 18 = .ok (.goto 4, 3) := by decide +kernel
theorem d_Pa_gapBefore_21 : decode qC_Pa_gapBefore.1 21 = .ok (.iconst 0, 1) := by decide +kernel
theorem d_Pa_gapBefore_22 : decode qC_Pa_gapBefore.1 22 = .ok (.ireturn, 1) := by decide +kernel
set_option maxRecDepth 100000 in
def f_Pa_gapBefore (σ : St) (o : Nat) (p1 : Int32) : Option (Int32) :=
  Jn (fun (x1 : Int32) =>
  Gd ((x1 : Int32) &&& 1 = x1) <|
  some x1
  ) fun J2 =>
  Jn (fun (_ : Unit) =>
  J2 (0 : Int32)
  ) fun J4 =>
  if (p1 : Int32) = 0 then (
  J4 ()
  ) else (
  Option.bind (f_Tb_get σ (rc o 1) p1 (0 : Int32)) fun x5 =>
  if (x5 : Int32) = (1 : Int32) then (
  J2 (1 : Int32)
  ) else (
  J4 ()
  )
  )
set_option maxHeartbeats 4000000 in
set_option maxRecDepth 100000 in
theorem cC_Pa_gapBefore (l : Launch) (g : Ge) (hi : injB wC.2 g) (σ : St) (o : Nat) (ho : wC.2.2.1 o = .inr (1, 6)) (p1 : Int32) (x : Int32) (h : f_Pa_gapBefore σ o p1 = some x) : Ct l wC g yC_Pa_gapBefore qC_Pa_gapBefore 1 22 [.ref (g.1 o), .int p1] σ (some (.int x), σ) := by
  refine Ct.of (out := (o_r σ)) FC_Pa_gapBefore rfl hi rfl h (fun z hz C => ?_)
  clear h
  subst hz
  unfold f_Pa_gapBefore
  show Rt z qC_Pa_gapBefore wC g (o_r σ) 0 [(0, .ref (g.1 o)), (1, .int p1)] [] σ _
  refine q_iload_n (pc' := 1) C 1 d_Pa_gapBefore_0 rfl rfl ?_
  refine q_join (fun J2 : Int32 → Option (Int32) => ∀ (x1 : Int32), Rt z qC_Pa_gapBefore wC g (o_r σ) 22 [] [.int x1] σ (J2 x1)) (fun x1 => ?_) (fun J2 hJ2 => ?_)
  · refine q_guard (fun gx3 => ?_)
    exact q_zret C rfl gx3 d_Pa_gapBefore_22 rfl
  refine q_join (fun J4 : Unit → Option (Int32) => ∀ (_ : Unit), Rt z qC_Pa_gapBefore wC g (o_r σ) 21 [] [] σ (J4 ())) (fun _ => ?_) (fun J4 hJ4 => ?_)
  · refine q_iconst (pc' := 22) C d_Pa_gapBefore_21 ki_0 rfl ?_
    exact Rt.sub [] rfl (hJ2 (0 : Int32))
  refine q_if_eq (tgt := 21) (pc' := 4) C d_Pa_gapBefore_1 rfl rfl ?_ ?_
  · exact Rt.sub [] rfl (hJ4 ())
  · refine q_aload_n (pc' := 5) C 0 d_Pa_gapBefore_4 rfl rfl ?_
    refine gC_Pa_24 (pc' := 8) C o (rc o 1) ho (ly_1_1 ho).1 d_Pa_gapBefore_5 rfl rfl ?_
    refine q_iload_n (pc' := 9) C 1 d_Pa_gapBefore_8 rfl rfl ?_
    refine q_iconst (pc' := 10) C d_Pa_gapBefore_9 ki_0 rfl ?_
    refine q_callVr (fr' := 0) (lo' := 0) (pc' := 13) C FC_Tb_get lmC_Pa_79 d_Pa_gapBefore_10 (rc o 1) (jCo (ly_1_1 ho).2) (ly_1_1 ho).2 cC_8 [.int p1, .int (0 : Int32)] [] rfl rfl (Nat.le_of_ble_eq_true rfl) ⟨rfl, rfl⟩ (fun x h => cC_Tb_get _ g hi σ (rc o 1) (ly_1_1 ho).2 p1 (0 : Int32) x h) rfl (fun x5 hx5 => ?_)
    refine q_iconst (pc' := 14) C d_Pa_gapBefore_13 ki_1 rfl ?_
    refine q_icmp_ne (tgt := 21) (pc' := 17) C d_Pa_gapBefore_14 rfl rfl ?_ ?_
    · exact Rt.sub [] rfl (hJ4 ())
    · refine q_iconst (pc' := 18) C d_Pa_gapBefore_17 ki_1 rfl ?_
      refine q_goto (tgt := 22) C d_Pa_gapBefore_18 rfl ?_
      exact Rt.sub [] rfl (hJ2 (1 : Int32))
theorem d_Pa_gaps_0 : decode qC_Pa_gaps.1 0 = .ok (.iconst 0, 1) := by decide +kernel
theorem d_Pa_gaps_1 : decode qC_Pa_gaps.1 1 = .ok (.istore_n 1, 1) := by decide +kernel
theorem d_Pa_gaps_2 : decode qC_Pa_gaps.1 2 = .ok (.iconst 0, 1) := by decide +kernel
theorem d_Pa_gaps_3 : decode qC_Pa_gaps.1 3 = .ok (.istore_n 2, 1) := by decide +kernel
theorem d_Pa_gaps_4 : decode qC_Pa_gaps.1 4 = .ok (.iload_n 2, 1) := by decide +kernel
theorem d_Pa_gaps_5 : decode qC_Pa_gaps.1 5 = .ok (.aload_n 0, 1) := by decide +kernel
theorem d_Pa_gaps_6 : decode qC_Pa_gaps.1 6 = .ok (.getfield 15, 3) := by decide +kernel
theorem d_Pa_gaps_9 : decode qC_Pa_gaps.1 9 = .ok (.getfield 58, 3) := by decide +kernel
theorem d_Pa_gaps_12 : decode qC_Pa_gaps.1 12 = .ok (.if_icmp .ge 20, 3) := by decide +kernel
theorem d_Pa_gaps_15 : decode qC_Pa_gaps.1 15 = .ok (.aload_n 0, 1) := by decide +kernel
theorem d_Pa_gaps_16 : decode qC_Pa_gaps.1 16 = .ok (.iload_n 2, 1) := by decide +kernel
theorem d_Pa_gaps_17 : decode qC_Pa_gaps.1 17 = .ok (.invokevirtual 92, 3) := by decide +kernel
theorem d_Pa_gaps_20 : decode qC_Pa_gaps.1 20 = .ok (.ifCond .eq 6, 3) := by decide +kernel
theorem d_Pa_gaps_23 : decode qC_Pa_gaps.1 23 = .ok (.iinc 1 1, 3) := by decide +kernel
theorem d_Pa_gaps_26 : decode qC_Pa_gaps.1 26 = .ok (.iinc 2 1, 3) := by decide +kernel
theorem d_Pa_gaps_29 : decode qC_Pa_gaps.1 29 = .ok (.goto (-25), 3) := by decide +kernel
theorem d_Pa_gaps_32 : decode qC_Pa_gaps.1 32 = .ok (.iload_n 1, 1) := by decide +kernel
theorem d_Pa_gaps_33 : decode qC_Pa_gaps.1 33 = .ok (.ireturn, 1) := by decide +kernel
set_option maxRecDepth 100000 in
def lb_f_Pa_gaps_4 (σ : St) (o : Nat) (J2 : Int32 → Option (Int32)) (ih4 : Int32 × Int32 → Option (Int32)) (a3 : Int32 × Int32) : Option (Int32) :=
  if ((σ (rc o 0) 1) : Int32) ≤ a3.2 then (
  J2 a3.1
  ) else (
  Option.bind (f_Pa_gapBefore σ o a3.2) fun x5 =>
  Jn (fun (x6 : Int32) =>
  Lt (a3.2 + (1 : Int32) : Int32) fun x8 =>
  ih4 (x6, x8)
  ) fun J7 =>
  if (x5 : Int32) = 0 then (
  J7 a3.1
  ) else (
  Lt (a3.1 + (1 : Int32) : Int32) fun x9 =>
  J7 x9
  )
  )
set_option maxRecDepth 100000 in
def f_Pa_gaps (σ : St) (o : Nat) : Option (Int32) :=
  Jn (fun (x1 : Int32) =>
  some x1
  ) fun J2 =>
  lp (lb_f_Pa_gaps_4 σ o J2) 4000 ((0 : Int32), (0 : Int32))
set_option maxHeartbeats 4000000 in
set_option maxRecDepth 100000 in
theorem cC_Pa_gaps (l : Launch) (g : Ge) (hi : injB wC.2 g) (σ : St) (o : Nat) (ho : wC.2.2.1 o = .inr (1, 6)) (x : Int32) (h : f_Pa_gaps σ o = some x) : Ct l wC g yC_Pa_gaps qC_Pa_gaps 2 43 [.ref (g.1 o)] σ (some (.int x), σ) := by
  refine Ct.of (out := (o_r σ)) FC_Pa_gaps rfl hi rfl h (fun z hz C => ?_)
  clear h
  subst hz
  unfold f_Pa_gaps
  show Rt z qC_Pa_gaps wC g (o_r σ) 0 [(0, .ref (g.1 o))] [] σ _
  refine q_iconst (pc' := 1) C d_Pa_gaps_0 ki_0 rfl ?_
  refine q_istore_n (pc' := 2) (lv' := [(1, .int (0 : Int32)), (0, .ref (g.1 o))]) C d_Pa_gaps_1 (by decide) rfl rfl ?_
  refine q_iconst (pc' := 3) C d_Pa_gaps_2 ki_0 rfl ?_
  refine q_istore_n (pc' := 4) (lv' := [(2, .int (0 : Int32)), (1, .int (0 : Int32)), (0, .ref (g.1 o))]) C d_Pa_gaps_3 (by decide) rfl rfl ?_
  refine q_join (fun J2 : Int32 → Option (Int32) => ∀ (x1 : Int32), Rt z qC_Pa_gaps wC g (o_r σ) 32 [(1, .int x1)] [] σ (J2 x1)) (fun x1 => ?_) (fun J2 hJ2 => ?_)
  · refine q_iload_n (pc' := 33) C 0 d_Pa_gaps_32 rfl rfl ?_
    exact q_iret C rfl d_Pa_gaps_33 rfl
  refine Rt.sub [2, 1, 0] rfl (q_lp (fun a3 : Int32 × Int32 => [(0, .ref (g.1 o)), (1, .int a3.1), (2, .int a3.2)]) (fun a3 => []) (fun a3 => σ) (fun ih4 hih4 a3 => ?_) 4000 ((0 : Int32), (0 : Int32)))
  unfold lb_f_Pa_gaps_4
  refine q_iload_n (pc' := 5) C 2 d_Pa_gaps_4 rfl rfl ?_
  refine q_aload_n (pc' := 6) C 0 d_Pa_gaps_5 rfl rfl ?_
  refine gC_Pa_15 (pc' := 9) C o (rc o 0) ho (ly_1_0 ho).1 d_Pa_gaps_6 rfl rfl ?_
  refine gC_Pa_58 (pc' := 12) C (rc o 0) (ly_1_0 ho).2 d_Pa_gaps_9 rfl rfl ?_
  refine q_icmp_ge (tgt := 32) (pc' := 15) C d_Pa_gaps_12 rfl rfl ?_ ?_
  · exact Rt.sub [1] rfl (hJ2 a3.1)
  · refine q_aload_n (pc' := 16) C 0 d_Pa_gaps_15 rfl rfl ?_
    refine q_iload_n (pc' := 17) C 2 d_Pa_gaps_16 rfl rfl ?_
    refine q_callVr (fr' := 1) (lo' := 22) (pc' := 20) C FC_Pa_gapBefore lmC_Pa_92 d_Pa_gaps_17 o (jCo ho) ho cC_1 [.int a3.2] [] rfl rfl (Nat.le_of_ble_eq_true rfl) ⟨rfl, rfl⟩ (fun x h => cC_Pa_gapBefore _ g hi σ o ho a3.2 x h) rfl (fun x5 hx5 => ?_)
    refine q_join (fun J7 : Int32 → Option (Int32) => ∀ (x6 : Int32), Rt z qC_Pa_gaps wC g (o_r σ) 26 [(0, .ref (g.1 o)), (1, .int x6), (2, .int a3.2)] [] σ (J7 x6)) (fun x6 => ?_) (fun J7 hJ7 => ?_)
    · refine q_let (fun x8 e8 => ?_)
      refine q_iinc (pc' := 29) (lv' := [(2, .int x8), (0, .ref (g.1 o)), (1, .int x6)]) C 2 d_Pa_gaps_26 rfl (by rw [e8, ki_1]) (by decide) rfl rfl ?_
      refine q_goto (tgt := 4) C d_Pa_gaps_29 rfl ?_
      exact Rt.sub [1, 2, 0] rfl (hih4 (x6, x8))
    refine q_if_eq (tgt := 26) (pc' := 23) C d_Pa_gaps_20 rfl rfl ?_ ?_
    · exact Rt.sub [0, 1, 2] rfl (hJ7 a3.1)
    · refine q_let (fun x9 e9 => ?_)
      refine q_iinc (pc' := 26) (lv' := [(1, .int x9), (0, .ref (g.1 o)), (2, .int a3.2)]) C 1 d_Pa_gaps_23 rfl (by rw [e9, ki_1]) (by decide) rfl rfl ?_
      exact Rt.sub [1, 0, 2] rfl (hJ7 x9)
theorem d_Pa_violations_0 : decode qC_Pa_violations.1 0 = .ok (.iconst 0, 1) := by decide +kernel
theorem d_Pa_violations_1 : decode qC_Pa_violations.1 1 = .ok (.istore_n 1, 1) := by decide +kernel
theorem d_Pa_violations_2 : decode qC_Pa_violations.1 2 = .ok (.iconst 0, 1) := by decide +kernel
theorem d_Pa_violations_3 : decode qC_Pa_violations.1 3 = .ok (.istore_n 2, 1) := by decide +kernel
theorem d_Pa_violations_4 : decode qC_Pa_violations.1 4 = .ok (.iload_n 2, 1) := by decide +kernel
theorem d_Pa_violations_5 : decode qC_Pa_violations.1 5 = .ok (.aload_n 0, 1) := by decide +kernel
theorem d_Pa_violations_6 : decode qC_Pa_violations.1 6 = .ok (.getfield 15, 3) := by decide +kernel
theorem d_Pa_violations_9 : decode qC_Pa_violations.1 9 = .ok (.getfield 58, 3) := by decide +kernel
theorem d_Pa_violations_12 : decode qC_Pa_violations.1 12 = .ok (.if_icmp .ge 25, 3) := by decide +kernel
theorem d_Pa_violations_15 : decode qC_Pa_violations.1 15 = .ok (.aload_n 0, 1) := by decide +kernel
theorem d_Pa_violations_16 : decode qC_Pa_violations.1 16 = .ok (.getfield 24, 3) := by decide +kernel
theorem d_Pa_violations_19 : decode qC_Pa_violations.1 19 = .ok (.iload_n 2, 1) := by decide +kernel
theorem d_Pa_violations_20 : decode qC_Pa_violations.1 20 = .ok (.bipush 15, 2) := by decide +kernel
theorem d_Pa_violations_22 : decode qC_Pa_violations.1 22 = .ok (.invokevirtual 79, 3) := by decide +kernel
theorem d_Pa_violations_25 : decode qC_Pa_violations.1 25 = .ok (.ifCond .eq 6, 3) := by decide +kernel
theorem d_Pa_violations_28 : decode qC_Pa_violations.1 28 = .ok (.iinc 1 1, 3) := by decide +kernel
theorem d_Pa_violations_31 : decode qC_Pa_violations.1 31 = .ok (.iinc 2 1, 3) := by decide +kernel
theorem d_Pa_violations_34 : decode qC_Pa_violations.1 34 = .ok (.goto (-30), 3) := by decide +kernel
theorem d_Pa_violations_37 : decode qC_Pa_violations.1 37 = .ok (.iload_n 1, 1) := by decide +kernel
theorem d_Pa_violations_38 : decode qC_Pa_violations.1 38 = .ok (.ireturn, 1) := by decide +kernel
set_option maxRecDepth 100000 in
def lb_f_Pa_violations_4 (σ : St) (o : Nat) (J2 : Int32 → Option (Int32)) (ih4 : Int32 × Int32 → Option (Int32)) (a3 : Int32 × Int32) : Option (Int32) :=
  if ((σ (rc o 0) 1) : Int32) ≤ a3.2 then (
  J2 a3.1
  ) else (
  Option.bind (f_Tb_get σ (rc o 1) a3.2 (15 : Int32)) fun x5 =>
  Jn (fun (x6 : Int32) =>
  Lt (a3.2 + (1 : Int32) : Int32) fun x8 =>
  ih4 (x6, x8)
  ) fun J7 =>
  if (x5 : Int32) = 0 then (
  J7 a3.1
  ) else (
  Lt (a3.1 + (1 : Int32) : Int32) fun x9 =>
  J7 x9
  )
  )
set_option maxRecDepth 100000 in
def f_Pa_violations (σ : St) (o : Nat) : Option (Int32) :=
  Jn (fun (x1 : Int32) =>
  some x1
  ) fun J2 =>
  lp (lb_f_Pa_violations_4 σ o J2) 4000 ((0 : Int32), (0 : Int32))
set_option maxHeartbeats 4000000 in
set_option maxRecDepth 100000 in
theorem cC_Pa_violations (l : Launch) (g : Ge) (hi : injB wC.2 g) (σ : St) (o : Nat) (ho : wC.2.2.1 o = .inr (1, 6)) (x : Int32) (h : f_Pa_violations σ o = some x) : Ct l wC g yC_Pa_violations qC_Pa_violations 1 22 [.ref (g.1 o)] σ (some (.int x), σ) := by
  refine Ct.of (out := (o_r σ)) FC_Pa_violations rfl hi rfl h (fun z hz C => ?_)
  clear h
  subst hz
  unfold f_Pa_violations
  show Rt z qC_Pa_violations wC g (o_r σ) 0 [(0, .ref (g.1 o))] [] σ _
  refine q_iconst (pc' := 1) C d_Pa_violations_0 ki_0 rfl ?_
  refine q_istore_n (pc' := 2) (lv' := [(1, .int (0 : Int32)), (0, .ref (g.1 o))]) C d_Pa_violations_1 (by decide) rfl rfl ?_
  refine q_iconst (pc' := 3) C d_Pa_violations_2 ki_0 rfl ?_
  refine q_istore_n (pc' := 4) (lv' := [(2, .int (0 : Int32)), (1, .int (0 : Int32)), (0, .ref (g.1 o))]) C d_Pa_violations_3 (by decide) rfl rfl ?_
  refine q_join (fun J2 : Int32 → Option (Int32) => ∀ (x1 : Int32), Rt z qC_Pa_violations wC g (o_r σ) 37 [(1, .int x1)] [] σ (J2 x1)) (fun x1 => ?_) (fun J2 hJ2 => ?_)
  · refine q_iload_n (pc' := 38) C 0 d_Pa_violations_37 rfl rfl ?_
    exact q_iret C rfl d_Pa_violations_38 rfl
  refine Rt.sub [2, 1, 0] rfl (q_lp (fun a3 : Int32 × Int32 => [(0, .ref (g.1 o)), (1, .int a3.1), (2, .int a3.2)]) (fun a3 => []) (fun a3 => σ) (fun ih4 hih4 a3 => ?_) 4000 ((0 : Int32), (0 : Int32)))
  unfold lb_f_Pa_violations_4
  refine q_iload_n (pc' := 5) C 2 d_Pa_violations_4 rfl rfl ?_
  refine q_aload_n (pc' := 6) C 0 d_Pa_violations_5 rfl rfl ?_
  refine gC_Pa_15 (pc' := 9) C o (rc o 0) ho (ly_1_0 ho).1 d_Pa_violations_6 rfl rfl ?_
  refine gC_Pa_58 (pc' := 12) C (rc o 0) (ly_1_0 ho).2 d_Pa_violations_9 rfl rfl ?_
  refine q_icmp_ge (tgt := 37) (pc' := 15) C d_Pa_violations_12 rfl rfl ?_ ?_
  · exact Rt.sub [1] rfl (hJ2 a3.1)
  · refine q_aload_n (pc' := 16) C 0 d_Pa_violations_15 rfl rfl ?_
    refine gC_Pa_24 (pc' := 19) C o (rc o 1) ho (ly_1_1 ho).1 d_Pa_violations_16 rfl rfl ?_
    refine q_iload_n (pc' := 20) C 2 d_Pa_violations_19 rfl rfl ?_
    refine q_bipush (pc' := 22) C d_Pa_violations_20 kb_15 rfl ?_
    refine q_callVr (fr' := 0) (lo' := 0) (pc' := 25) C FC_Tb_get lmC_Pa_79 d_Pa_violations_22 (rc o 1) (jCo (ly_1_1 ho).2) (ly_1_1 ho).2 cC_8 [.int a3.2, .int (15 : Int32)] [] rfl rfl (Nat.le_of_ble_eq_true rfl) ⟨rfl, rfl⟩ (fun x h => cC_Tb_get _ g hi σ (rc o 1) (ly_1_1 ho).2 a3.2 (15 : Int32) x h) rfl (fun x5 hx5 => ?_)
    refine q_join (fun J7 : Int32 → Option (Int32) => ∀ (x6 : Int32), Rt z qC_Pa_violations wC g (o_r σ) 31 [(0, .ref (g.1 o)), (1, .int x6), (2, .int a3.2)] [] σ (J7 x6)) (fun x6 => ?_) (fun J7 hJ7 => ?_)
    · refine q_let (fun x8 e8 => ?_)
      refine q_iinc (pc' := 34) (lv' := [(2, .int x8), (0, .ref (g.1 o)), (1, .int x6)]) C 2 d_Pa_violations_31 rfl (by rw [e8, ki_1]) (by decide) rfl rfl ?_
      refine q_goto (tgt := 4) C d_Pa_violations_34 rfl ?_
      exact Rt.sub [1, 2, 0] rfl (hih4 (x6, x8))
    refine q_if_eq (tgt := 31) (pc' := 28) C d_Pa_violations_25 rfl rfl ?_ ?_
    · exact Rt.sub [0, 1, 2] rfl (hJ7 a3.1)
    · refine q_let (fun x9 e9 => ?_)
      refine q_iinc (pc' := 31) (lv' := [(1, .int x9), (0, .ref (g.1 o)), (2, .int a3.2)]) C 1 d_Pa_violations_28 rfl (by rw [e9, ki_1]) (by decide) rfl rfl ?_
      exact Rt.sub [1, 0, 2] rfl (hJ7 x9)
theorem d_Pa_lengthOf_0 : decode qC_Pa_lengthOf.1 0 = .ok (.iconst 0, 1) := by decide +kernel
theorem d_Pa_lengthOf_1 : decode qC_Pa_lengthOf.1 1 = .ok (.istore_n 3, 1) := by decide +kernel
theorem d_Pa_lengthOf_2 : decode qC_Pa_lengthOf.1 2 = .ok (.iload_n 1, 1) := by decide +kernel
theorem d_Pa_lengthOf_3 : decode qC_Pa_lengthOf.1 3 = .ok (.istore 4, 2) := by decide +kernel
theorem d_Pa_lengthOf_5 : decode qC_Pa_lengthOf.1 5 = .ok (.iload 4, 2) := by decide +kernel
theorem d_Pa_lengthOf_7 : decode qC_Pa_lengthOf.1 7 = .ok (.iload_n 2, 1) := by decide +kernel
theorem d_Pa_lengthOf_8 : decode qC_Pa_lengthOf.1 8 = .ok (.if_icmp .gt 35, 3) := by decide +kernel
theorem d_Pa_lengthOf_11 : decode qC_Pa_lengthOf.1 11 = .ok (.iload 4, 2) := by decide +kernel
theorem d_Pa_lengthOf_13 : decode qC_Pa_lengthOf.1 13 = .ok (.aload_n 0, 1) := by decide +kernel
theorem d_Pa_lengthOf_14 : decode qC_Pa_lengthOf.1 14 = .ok (.getfield 15, 3) := by decide +kernel
theorem d_Pa_lengthOf_17 : decode qC_Pa_lengthOf.1 17 = .ok (.getfield 58, 3) := by decide +kernel
theorem d_Pa_lengthOf_20 : decode qC_Pa_lengthOf.1 20 = .ok (.if_icmp .ge 23, 3) := by decide +kernel
theorem d_Pa_lengthOf_23 : decode qC_Pa_lengthOf.1 23 = .ok (.iload_n 3, 1) := by decide +kernel
theorem d_Pa_lengthOf_24 : decode qC_Pa_lengthOf.1 24 = .ok (.aload_n 0, 1) := by decide +kernel
theorem d_Pa_lengthOf_25 : decode qC_Pa_lengthOf.1 25 = .ok (.getfield 24, 3) := by decide +kernel
theorem d_Pa_lengthOf_28 : decode qC_Pa_lengthOf.1 28 = .ok (.iload 4, 2) := by decide +kernel
theorem d_Pa_lengthOf_30 : decode qC_Pa_lengthOf.1 30 = .ok (.bipush 9, 2) := by decide +kernel
theorem d_Pa_lengthOf_32 : decode qC_Pa_lengthOf.1 32 = .ok (.invokevirtual 79, 3) := by decide +kernel
theorem d_Pa_lengthOf_35 : decode qC_Pa_lengthOf.1 35 = .ok (.iadd, 1) := by decide +kernel
theorem d_Pa_lengthOf_36 : decode qC_Pa_lengthOf.1 36 = .ok (.istore_n 3, 1) := by decide +kernel
theorem d_Pa_lengthOf_37 : decode qC_Pa_lengthOf.1 37 = .ok (.iinc 4 1, 3) := by decide +kernel
theorem d_Pa_lengthOf_40 : decode qC_Pa_lengthOf.1 40 = .ok (.goto (-35), 3) := by decide +kernel
theorem d_Pa_lengthOf_43 : decode qC_Pa_lengthOf.1 43 = .ok (.iload_n 3, 1) := by decide +kernel
theorem d_Pa_lengthOf_44 : decode qC_Pa_lengthOf.1 44 = .ok (.ireturn, 1) := by decide +kernel
set_option maxRecDepth 100000 in
def lb_f_Pa_lengthOf_5 (σ : St) (o : Nat) (p2 : Int32) (J2 : Int32 → Option (Int32)) (ih4 : Int32 × Int32 → Option (Int32)) (a3 : Int32 × Int32) : Option (Int32) :=
  if (p2 : Int32) < a3.2 then (
  J2 a3.1
  ) else (
  if ((σ (rc o 0) 1) : Int32) ≤ a3.2 then (
  J2 a3.1
  ) else (
  Option.bind (f_Tb_get σ (rc o 1) a3.2 (9 : Int32)) fun x5 =>
  Lt ((a3.1 + x5) : Int32) fun x6 =>
  Lt (a3.2 + (1 : Int32) : Int32) fun x7 =>
  ih4 (x6, x7)
  )
  )
set_option maxRecDepth 100000 in
def f_Pa_lengthOf (σ : St) (o : Nat) (p1 : Int32) (p2 : Int32) : Option (Int32) :=
  Jn (fun (x1 : Int32) =>
  some x1
  ) fun J2 =>
  lp (lb_f_Pa_lengthOf_5 σ o p2 J2) 4000 ((0 : Int32), p1)
set_option maxHeartbeats 4000000 in
set_option maxRecDepth 100000 in
theorem cC_Pa_lengthOf (l : Launch) (g : Ge) (hi : injB wC.2 g) (σ : St) (o : Nat) (ho : wC.2.2.1 o = .inr (1, 6)) (p1 : Int32) (p2 : Int32) (x : Int32) (h : f_Pa_lengthOf σ o p1 p2 = some x) : Ct l wC g yC_Pa_lengthOf qC_Pa_lengthOf 1 22 [.ref (g.1 o), .int p1, .int p2] σ (some (.int x), σ) := by
  refine Ct.of (out := (o_r σ)) FC_Pa_lengthOf rfl hi rfl h (fun z hz C => ?_)
  clear h
  subst hz
  unfold f_Pa_lengthOf
  show Rt z qC_Pa_lengthOf wC g (o_r σ) 0 [(0, .ref (g.1 o)), (1, .int p1), (2, .int p2)] [] σ _
  refine q_iconst (pc' := 1) C d_Pa_lengthOf_0 ki_0 rfl ?_
  refine q_istore_n (pc' := 2) (lv' := [(3, .int (0 : Int32)), (0, .ref (g.1 o)), (1, .int p1), (2, .int p2)]) C d_Pa_lengthOf_1 (by decide) rfl rfl ?_
  refine q_iload_n (pc' := 3) C 2 d_Pa_lengthOf_2 rfl rfl ?_
  refine q_istore (pc' := 5) (lv' := [(4, .int p1), (3, .int (0 : Int32)), (0, .ref (g.1 o)), (1, .int p1), (2, .int p2)]) C d_Pa_lengthOf_3 (by decide) rfl rfl ?_
  refine q_join (fun J2 : Int32 → Option (Int32) => ∀ (x1 : Int32), Rt z qC_Pa_lengthOf wC g (o_r σ) 43 [(3, .int x1)] [] σ (J2 x1)) (fun x1 => ?_) (fun J2 hJ2 => ?_)
  · refine q_iload_n (pc' := 44) C 0 d_Pa_lengthOf_43 rfl rfl ?_
    exact q_iret C rfl d_Pa_lengthOf_44 rfl
  refine Rt.sub [2, 4, 1, 0] rfl (q_lp (fun a3 : Int32 × Int32 => [(0, .ref (g.1 o)), (2, .int p2), (3, .int a3.1), (4, .int a3.2)]) (fun a3 => []) (fun a3 => σ) (fun ih4 hih4 a3 => ?_) 4000 ((0 : Int32), p1))
  unfold lb_f_Pa_lengthOf_5
  refine q_iload (pc' := 7) C 3 d_Pa_lengthOf_5 rfl rfl ?_
  refine q_iload_n (pc' := 8) C 1 d_Pa_lengthOf_7 rfl rfl ?_
  refine q_icmp_gt (tgt := 43) (pc' := 11) C d_Pa_lengthOf_8 rfl rfl ?_ ?_
  · exact Rt.sub [2] rfl (hJ2 a3.1)
  · refine q_iload (pc' := 13) C 3 d_Pa_lengthOf_11 rfl rfl ?_
    refine q_aload_n (pc' := 14) C 0 d_Pa_lengthOf_13 rfl rfl ?_
    refine gC_Pa_15 (pc' := 17) C o (rc o 0) ho (ly_1_0 ho).1 d_Pa_lengthOf_14 rfl rfl ?_
    refine gC_Pa_58 (pc' := 20) C (rc o 0) (ly_1_0 ho).2 d_Pa_lengthOf_17 rfl rfl ?_
    refine q_icmp_ge (tgt := 43) (pc' := 23) C d_Pa_lengthOf_20 rfl rfl ?_ ?_
    · exact Rt.sub [2] rfl (hJ2 a3.1)
    · refine q_iload_n (pc' := 24) C 2 d_Pa_lengthOf_23 rfl rfl ?_
      refine q_aload_n (pc' := 25) C 0 d_Pa_lengthOf_24 rfl rfl ?_
      refine gC_Pa_24 (pc' := 28) C o (rc o 1) ho (ly_1_1 ho).1 d_Pa_lengthOf_25 rfl rfl ?_
      refine q_iload (pc' := 30) C 3 d_Pa_lengthOf_28 rfl rfl ?_
      refine q_bipush (pc' := 32) C d_Pa_lengthOf_30 kb_9 rfl ?_
      refine q_callVr (fr' := 0) (lo' := 0) (pc' := 35) C FC_Tb_get lmC_Pa_79 d_Pa_lengthOf_32 (rc o 1) (jCo (ly_1_1 ho).2) (ly_1_1 ho).2 cC_8 [.int a3.2, .int (9 : Int32)] [.int a3.1] rfl rfl (Nat.le_of_ble_eq_true rfl) ⟨rfl, rfl⟩ (fun x h => cC_Tb_get _ g hi σ (rc o 1) (ly_1_1 ho).2 a3.2 (9 : Int32) x h) rfl (fun x5 hx5 => ?_)
      refine q_iadd (pc' := 36) C d_Pa_lengthOf_35 rfl ?_
      refine q_let (fun x6 e6 => ?_)
      refine q_topi e6 ?_
      refine q_istore_n (pc' := 37) (lv' := [(3, .int x6), (0, .ref (g.1 o)), (2, .int p2), (4, .int a3.2)]) C d_Pa_lengthOf_36 (by decide) rfl rfl ?_
      refine q_let (fun x7 e7 => ?_)
      refine q_iinc (pc' := 40) (lv' := [(4, .int x7), (3, .int x6), (0, .ref (g.1 o)), (2, .int p2)]) C 3 d_Pa_lengthOf_37 rfl (by rw [e7, ki_1]) (by decide) rfl rfl ?_
      refine q_goto (tgt := 5) C d_Pa_lengthOf_40 rfl ?_
      exact Rt.sub [2, 3, 1, 0] rfl (hih4 (x6, x7))
theorem d_Pa_time_0 : decode qC_Pa_time.1 0 = .ok (.iconst 0, 1) := by decide +kernel
theorem d_Pa_time_1 : decode qC_Pa_time.1 1 = .ok (.istore_n 1, 1) := by decide +kernel
theorem d_Pa_time_2 : decode qC_Pa_time.1 2 = .ok (.iconst 0, 1) := by decide +kernel
theorem d_Pa_time_3 : decode qC_Pa_time.1 3 = .ok (.istore_n 2, 1) := by decide +kernel
theorem d_Pa_time_4 : decode qC_Pa_time.1 4 = .ok (.iload_n 2, 1) := by decide +kernel
theorem d_Pa_time_5 : decode qC_Pa_time.1 5 = .ok (.aload_n 0, 1) := by decide +kernel
theorem d_Pa_time_6 : decode qC_Pa_time.1 6 = .ok (.getfield 15, 3) := by decide +kernel
theorem d_Pa_time_9 : decode qC_Pa_time.1 9 = .ok (.getfield 58, 3) := by decide +kernel
theorem d_Pa_time_12 : decode qC_Pa_time.1 12 = .ok (.if_icmp .ge 22, 3) := by decide +kernel
theorem d_Pa_time_15 : decode qC_Pa_time.1 15 = .ok (.iload_n 1, 1) := by decide +kernel
theorem d_Pa_time_16 : decode qC_Pa_time.1 16 = .ok (.aload_n 0, 1) := by decide +kernel
theorem d_Pa_time_17 : decode qC_Pa_time.1 17 = .ok (.getfield 24, 3) := by decide +kernel
theorem d_Pa_time_20 : decode qC_Pa_time.1 20 = .ok (.iload_n 2, 1) := by decide +kernel
theorem d_Pa_time_21 : decode qC_Pa_time.1 21 = .ok (.bipush 10, 2) := by decide +kernel
theorem d_Pa_time_23 : decode qC_Pa_time.1 23 = .ok (.invokevirtual 79, 3) := by decide +kernel
theorem d_Pa_time_26 : decode qC_Pa_time.1 26 = .ok (.iadd, 1) := by decide +kernel
theorem d_Pa_time_27 : decode qC_Pa_time.1 27 = .ok (.istore_n 1, 1) := by decide +kernel
theorem d_Pa_time_28 : decode qC_Pa_time.1 28 = .ok (.iinc 2 1, 3) := by decide +kernel
theorem d_Pa_time_31 : decode qC_Pa_time.1 31 = .ok (.goto (-27), 3) := by decide +kernel
theorem d_Pa_time_34 : decode qC_Pa_time.1 34 = .ok (.iload_n 1, 1) := by decide +kernel
theorem d_Pa_time_35 : decode qC_Pa_time.1 35 = .ok (.ireturn, 1) := by decide +kernel
set_option maxRecDepth 100000 in
def lb_f_Pa_time_4 (σ : St) (o : Nat) (J2 : Int32 → Option (Int32)) (ih4 : Int32 × Int32 → Option (Int32)) (a3 : Int32 × Int32) : Option (Int32) :=
  if ((σ (rc o 0) 1) : Int32) ≤ a3.2 then (
  J2 a3.1
  ) else (
  Option.bind (f_Tb_get σ (rc o 1) a3.2 (10 : Int32)) fun x5 =>
  Lt ((a3.1 + x5) : Int32) fun x6 =>
  Lt (a3.2 + (1 : Int32) : Int32) fun x7 =>
  ih4 (x6, x7)
  )
set_option maxRecDepth 100000 in
def f_Pa_time (σ : St) (o : Nat) : Option (Int32) :=
  Jn (fun (x1 : Int32) =>
  some x1
  ) fun J2 =>
  lp (lb_f_Pa_time_4 σ o J2) 4000 ((0 : Int32), (0 : Int32))
set_option maxHeartbeats 4000000 in
set_option maxRecDepth 100000 in
theorem cC_Pa_time (l : Launch) (g : Ge) (hi : injB wC.2 g) (σ : St) (o : Nat) (ho : wC.2.2.1 o = .inr (1, 6)) (x : Int32) (h : f_Pa_time σ o = some x) : Ct l wC g yC_Pa_time qC_Pa_time 1 22 [.ref (g.1 o)] σ (some (.int x), σ) := by
  refine Ct.of (out := (o_r σ)) FC_Pa_time rfl hi rfl h (fun z hz C => ?_)
  clear h
  subst hz
  unfold f_Pa_time
  show Rt z qC_Pa_time wC g (o_r σ) 0 [(0, .ref (g.1 o))] [] σ _
  refine q_iconst (pc' := 1) C d_Pa_time_0 ki_0 rfl ?_
  refine q_istore_n (pc' := 2) (lv' := [(1, .int (0 : Int32)), (0, .ref (g.1 o))]) C d_Pa_time_1 (by decide) rfl rfl ?_
  refine q_iconst (pc' := 3) C d_Pa_time_2 ki_0 rfl ?_
  refine q_istore_n (pc' := 4) (lv' := [(2, .int (0 : Int32)), (1, .int (0 : Int32)), (0, .ref (g.1 o))]) C d_Pa_time_3 (by decide) rfl rfl ?_
  refine q_join (fun J2 : Int32 → Option (Int32) => ∀ (x1 : Int32), Rt z qC_Pa_time wC g (o_r σ) 34 [(1, .int x1)] [] σ (J2 x1)) (fun x1 => ?_) (fun J2 hJ2 => ?_)
  · refine q_iload_n (pc' := 35) C 0 d_Pa_time_34 rfl rfl ?_
    exact q_iret C rfl d_Pa_time_35 rfl
  refine Rt.sub [2, 1, 0] rfl (q_lp (fun a3 : Int32 × Int32 => [(0, .ref (g.1 o)), (1, .int a3.1), (2, .int a3.2)]) (fun a3 => []) (fun a3 => σ) (fun ih4 hih4 a3 => ?_) 4000 ((0 : Int32), (0 : Int32)))
  unfold lb_f_Pa_time_4
  refine q_iload_n (pc' := 5) C 2 d_Pa_time_4 rfl rfl ?_
  refine q_aload_n (pc' := 6) C 0 d_Pa_time_5 rfl rfl ?_
  refine gC_Pa_15 (pc' := 9) C o (rc o 0) ho (ly_1_0 ho).1 d_Pa_time_6 rfl rfl ?_
  refine gC_Pa_58 (pc' := 12) C (rc o 0) (ly_1_0 ho).2 d_Pa_time_9 rfl rfl ?_
  refine q_icmp_ge (tgt := 34) (pc' := 15) C d_Pa_time_12 rfl rfl ?_ ?_
  · exact Rt.sub [1] rfl (hJ2 a3.1)
  · refine q_iload_n (pc' := 16) C 1 d_Pa_time_15 rfl rfl ?_
    refine q_aload_n (pc' := 17) C 0 d_Pa_time_16 rfl rfl ?_
    refine gC_Pa_24 (pc' := 20) C o (rc o 1) ho (ly_1_1 ho).1 d_Pa_time_17 rfl rfl ?_
    refine q_iload_n (pc' := 21) C 2 d_Pa_time_20 rfl rfl ?_
    refine q_bipush (pc' := 23) C d_Pa_time_21 kb_10 rfl ?_
    refine q_callVr (fr' := 0) (lo' := 0) (pc' := 26) C FC_Tb_get lmC_Pa_79 d_Pa_time_23 (rc o 1) (jCo (ly_1_1 ho).2) (ly_1_1 ho).2 cC_8 [.int a3.2, .int (10 : Int32)] [.int a3.1] rfl rfl (Nat.le_of_ble_eq_true rfl) ⟨rfl, rfl⟩ (fun x h => cC_Tb_get _ g hi σ (rc o 1) (ly_1_1 ho).2 a3.2 (10 : Int32) x h) rfl (fun x5 hx5 => ?_)
    refine q_iadd (pc' := 27) C d_Pa_time_26 rfl ?_
    refine q_let (fun x6 e6 => ?_)
    refine q_topi e6 ?_
    refine q_istore_n (pc' := 28) (lv' := [(1, .int x6), (0, .ref (g.1 o)), (2, .int a3.2)]) C d_Pa_time_27 (by decide) rfl rfl ?_
    refine q_let (fun x7 e7 => ?_)
    refine q_iinc (pc' := 31) (lv' := [(2, .int x7), (1, .int x6), (0, .ref (g.1 o))]) C 2 d_Pa_time_28 rfl (by rw [e7, ki_1]) (by decide) rfl rfl ?_
    refine q_goto (tgt := 4) C d_Pa_time_31 rfl ?_
    exact Rt.sub [2, 1, 0] rfl (hih4 (x6, x7))
theorem d_Pf_lastHighestLeg_0 : decode qC_Pf_lastHighestLeg.1 0 = .ok (.iconst (-1), 1) := by decide +kernel
theorem d_Pf_lastHighestLeg_1 : decode qC_Pf_lastHighestLeg.1 1 = .ok (.istore_n 1, 1) := by decide +kernel
theorem d_Pf_lastHighestLeg_2 : decode qC_Pf_lastHighestLeg.1 2 = .ok (.iconst 0, 1) := by decide +kernel
theorem d_Pf_lastHighestLeg_3 : decode qC_Pf_lastHighestLeg.1 3 = .ok (.istore_n 2, 1) := by decide +kernel
theorem d_Pf_lastHighestLeg_4 : decode qC_Pf_lastHighestLeg.1 4 = .ok (.iload_n 2, 1) := by decide +kernel
theorem d_Pf_lastHighestLeg_5 : decode qC_Pf_lastHighestLeg.1 5 = .ok (.aload_n 0, 1) := by decide +kernel
theorem d_Pf_lastHighestLeg_6 : decode qC_Pf_lastHighestLeg.1 6 = .ok (.getfield 9, 3) := by decide +kernel
theorem d_Pf_lastHighestLeg_9 : decode qC_Pf_lastHighestLeg.1 9 = .ok (.getfield 23, 3) := by decide +kernel
theorem d_Pf_lastHighestLeg_12 : decode qC_Pf_lastHighestLeg.1 12 = .ok (.if_icmp .ge 39, 3) := by decide +kernel
theorem d_Pf_lastHighestLeg_15 : decode qC_Pf_lastHighestLeg.1 15 = .ok (.iload_n 1, 1) := by decide +kernel
theorem d_Pf_lastHighestLeg_16 : decode qC_Pf_lastHighestLeg.1 16 = .ok (.iconst (-1), 1) := by decide +kernel
theorem d_Pf_lastHighestLeg_17 : decode qC_Pf_lastHighestLeg.1 17 = .ok (.if_icmp .eq 26, 3) := by decide +kernel
theorem d_Pf_lastHighestLeg_20 : decode qC_Pf_lastHighestLeg.1 20 = .ok (.aload_n 0, 1) := by decide +kernel
theorem d_Pf_lastHighestLeg_21 : decode qC_Pf_lastHighestLeg.1 21 = .ok (.getfield 19, 3) := by decide +kernel
theorem d_Pf_lastHighestLeg_24 : decode qC_Pf_lastHighestLeg.1 24 = .ok (.iload_n 2, 1) := by decide +kernel
theorem d_Pf_lastHighestLeg_25 : decode qC_Pf_lastHighestLeg.1 25 = .ok (.bipush 14, 2) := by decide +kernel
theorem d_Pf_lastHighestLeg_27 : decode qC_Pf_lastHighestLeg.1 27 = .ok (.invokevirtual 38, 3) := by decide +kernel
theorem d_Pf_lastHighestLeg_30 : decode qC_Pf_lastHighestLeg.1 30 = .ok (.aload_n 0, 1) := by decide +kernel
theorem d_Pf_lastHighestLeg_31 : decode qC_Pf_lastHighestLeg.1 31 = .ok (.getfield 19, 3) := by decide +kernel
theorem d_Pf_lastHighestLeg_34 : decode qC_Pf_lastHighestLeg.1 34 = .ok (.iload_n 1, 1) := by decide +kernel
theorem d_Pf_lastHighestLeg_35 : decode qC_Pf_lastHighestLeg.1 35 = .ok (.bipush 14, 2) := by decide +kernel
theorem d_Pf_lastHighestLeg_37 : decode qC_Pf_lastHighestLeg.1 37 = .ok (.invokevirtual 38, 3) := by decide +kernel
theorem d_Pf_lastHighestLeg_40 : decode qC_Pf_lastHighestLeg.1 40 = .ok (.if_icmp .lt 5, 3) := by decide +kernel
theorem d_Pf_lastHighestLeg_43 : decode qC_Pf_lastHighestLeg.1 43 = .ok (.iload_n 2, 1) := by decide +kernel
theorem d_Pf_lastHighestLeg_44 : decode qC_Pf_lastHighestLeg.1 44 = .ok (.istore_n 1, 1) := by decide +kernel
theorem d_Pf_lastHighestLeg_45 : decode qC_Pf_lastHighestLeg.1 45 = .ok (.iinc 2 1, 3) := by decide +kernel
theorem d_Pf_lastHighestLeg_48 : decode qC_Pf_lastHighestLeg.1 48 = .ok (.goto (-44), 3) := by decide +kernel
theorem d_Pf_lastHighestLeg_51 : decode qC_Pf_lastHighestLeg.1 51 = .ok (.iload_n 1, 1) := by decide +kernel
theorem d_Pf_lastHighestLeg_52 : decode qC_Pf_lastHighestLeg.1 52 = .ok (.ireturn, 1) := by decide +kernel
set_option maxRecDepth 100000 in
def lb_f_Pf_lastHighestLeg_4 (σ : St) (o : Nat) (J2 : Int32 → Option (Int32)) (ih4 : Int32 × Int32 → Option (Int32)) (a3 : Int32 × Int32) : Option (Int32) :=
  if ((σ (rc o 0) 1) : Int32) ≤ a3.2 then (
  J2 a3.1
  ) else (
  Jn (fun (x5 : Int32) =>
  Lt (a3.2 + (1 : Int32) : Int32) fun x7 =>
  ih4 (x5, x7)
  ) fun J6 =>
  Jn (fun (_ : Unit) =>
  J6 a3.2
  ) fun J8 =>
  if (a3.1 : Int32) = (-1 : Int32) then (
  J8 ()
  ) else (
  Option.bind (f_Tb_get σ (rc o 2) a3.2 (14 : Int32)) fun x9 =>
  Option.bind (f_Tb_get σ (rc o 2) a3.1 (14 : Int32)) fun x10 =>
  if (x9 : Int32) < x10 then (
  J6 a3.1
  ) else (
  J8 ()
  )
  )
  )
set_option maxRecDepth 100000 in
def f_Pf_lastHighestLeg (σ : St) (o : Nat) : Option (Int32) :=
  Jn (fun (x1 : Int32) =>
  some x1
  ) fun J2 =>
  lp (lb_f_Pf_lastHighestLeg_4 σ o J2) 4000 ((-1 : Int32), (0 : Int32))
set_option maxHeartbeats 4000000 in
set_option maxRecDepth 100000 in
theorem cC_Pf_lastHighestLeg (l : Launch) (g : Ge) (hi : injB wC.2 g) (σ : St) (o : Nat) (ho : wC.2.2.1 o = .inr (4, 3)) (x : Int32) (h : f_Pf_lastHighestLeg σ o = some x) : Ct l wC g yC_Pf_lastHighestLeg qC_Pf_lastHighestLeg 1 22 [.ref (g.1 o)] σ (some (.int x), σ) := by
  refine Ct.of (out := (o_r σ)) FC_Pf_lastHighestLeg rfl hi rfl h (fun z hz C => ?_)
  clear h
  subst hz
  unfold f_Pf_lastHighestLeg
  show Rt z qC_Pf_lastHighestLeg wC g (o_r σ) 0 [(0, .ref (g.1 o))] [] σ _
  refine q_iconst (pc' := 1) C d_Pf_lastHighestLeg_0 ki_m1 rfl ?_
  refine q_istore_n (pc' := 2) (lv' := [(1, .int (-1 : Int32)), (0, .ref (g.1 o))]) C d_Pf_lastHighestLeg_1 (by decide) rfl rfl ?_
  refine q_iconst (pc' := 3) C d_Pf_lastHighestLeg_2 ki_0 rfl ?_
  refine q_istore_n (pc' := 4) (lv' := [(2, .int (0 : Int32)), (1, .int (-1 : Int32)), (0, .ref (g.1 o))]) C d_Pf_lastHighestLeg_3 (by decide) rfl rfl ?_
  refine q_join (fun J2 : Int32 → Option (Int32) => ∀ (x1 : Int32), Rt z qC_Pf_lastHighestLeg wC g (o_r σ) 51 [(1, .int x1)] [] σ (J2 x1)) (fun x1 => ?_) (fun J2 hJ2 => ?_)
  · refine q_iload_n (pc' := 52) C 0 d_Pf_lastHighestLeg_51 rfl rfl ?_
    exact q_iret C rfl d_Pf_lastHighestLeg_52 rfl
  refine Rt.sub [2, 1, 0] rfl (q_lp (fun a3 : Int32 × Int32 => [(0, .ref (g.1 o)), (1, .int a3.1), (2, .int a3.2)]) (fun a3 => []) (fun a3 => σ) (fun ih4 hih4 a3 => ?_) 4000 ((-1 : Int32), (0 : Int32)))
  unfold lb_f_Pf_lastHighestLeg_4
  refine q_iload_n (pc' := 5) C 2 d_Pf_lastHighestLeg_4 rfl rfl ?_
  refine q_aload_n (pc' := 6) C 0 d_Pf_lastHighestLeg_5 rfl rfl ?_
  refine gC_Pf_9 (pc' := 9) C o (rc o 0) ho (ly_4_0 ho).1 d_Pf_lastHighestLeg_6 rfl rfl ?_
  refine gC_Pf_23 (pc' := 12) C (rc o 0) (ly_4_0 ho).2 d_Pf_lastHighestLeg_9 rfl rfl ?_
  refine q_icmp_ge (tgt := 51) (pc' := 15) C d_Pf_lastHighestLeg_12 rfl rfl ?_ ?_
  · exact Rt.sub [1] rfl (hJ2 a3.1)
  · refine q_iload_n (pc' := 16) C 1 d_Pf_lastHighestLeg_15 rfl rfl ?_
    refine q_iconst (pc' := 17) C d_Pf_lastHighestLeg_16 ki_m1 rfl ?_
    refine q_join (fun J6 : Int32 → Option (Int32) => ∀ (x5 : Int32), Rt z qC_Pf_lastHighestLeg wC g (o_r σ) 45 [(0, .ref (g.1 o)), (1, .int x5), (2, .int a3.2)] [] σ (J6 x5)) (fun x5 => ?_) (fun J6 hJ6 => ?_)
    · refine q_let (fun x7 e7 => ?_)
      refine q_iinc (pc' := 48) (lv' := [(2, .int x7), (0, .ref (g.1 o)), (1, .int x5)]) C 2 d_Pf_lastHighestLeg_45 rfl (by rw [e7, ki_1]) (by decide) rfl rfl ?_
      refine q_goto (tgt := 4) C d_Pf_lastHighestLeg_48 rfl ?_
      exact Rt.sub [1, 2, 0] rfl (hih4 (x5, x7))
    refine q_join (fun J8 : Unit → Option (Int32) => ∀ (_ : Unit), Rt z qC_Pf_lastHighestLeg wC g (o_r σ) 43 [(0, .ref (g.1 o)), (2, .int a3.2)] [] σ (J8 ())) (fun _ => ?_) (fun J8 hJ8 => ?_)
    · refine q_iload_n (pc' := 44) C 1 d_Pf_lastHighestLeg_43 rfl rfl ?_
      refine q_istore_n (pc' := 45) (lv' := [(1, .int a3.2), (0, .ref (g.1 o)), (2, .int a3.2)]) C d_Pf_lastHighestLeg_44 (by decide) rfl rfl ?_
      exact Rt.sub [1, 0, 2] rfl (hJ6 a3.2)
    refine q_icmp_eq (tgt := 43) (pc' := 20) C d_Pf_lastHighestLeg_17 rfl rfl ?_ ?_
    · exact Rt.sub [0, 2] rfl (hJ8 ())
    · refine q_aload_n (pc' := 21) C 0 d_Pf_lastHighestLeg_20 rfl rfl ?_
      refine gC_Pf_19 (pc' := 24) C o (rc o 2) ho (ly_4_2 ho).1 d_Pf_lastHighestLeg_21 rfl rfl ?_
      refine q_iload_n (pc' := 25) C 2 d_Pf_lastHighestLeg_24 rfl rfl ?_
      refine q_bipush (pc' := 27) C d_Pf_lastHighestLeg_25 kb_14 rfl ?_
      refine q_callVr (fr' := 0) (lo' := 0) (pc' := 30) C FC_Tb_get lmC_Pf_38 d_Pf_lastHighestLeg_27 (rc o 2) (jCo (ly_4_2 ho).2) (ly_4_2 ho).2 cC_8 [.int a3.2, .int (14 : Int32)] [] rfl rfl (Nat.le_of_ble_eq_true rfl) ⟨rfl, rfl⟩ (fun x h => cC_Tb_get _ g hi σ (rc o 2) (ly_4_2 ho).2 a3.2 (14 : Int32) x h) rfl (fun x9 hx9 => ?_)
      refine q_aload_n (pc' := 31) C 0 d_Pf_lastHighestLeg_30 rfl rfl ?_
      refine gC_Pf_19 (pc' := 34) C o (rc o 2) ho (ly_4_2 ho).1 d_Pf_lastHighestLeg_31 rfl rfl ?_
      refine q_iload_n (pc' := 35) C 1 d_Pf_lastHighestLeg_34 rfl rfl ?_
      refine q_bipush (pc' := 37) C d_Pf_lastHighestLeg_35 kb_14 rfl ?_
      refine q_callVr (fr' := 0) (lo' := 0) (pc' := 40) C FC_Tb_get lmC_Pf_38 d_Pf_lastHighestLeg_37 (rc o 2) (jCo (ly_4_2 ho).2) (ly_4_2 ho).2 cC_8 [.int a3.1, .int (14 : Int32)] [.int x9] rfl rfl (Nat.le_of_ble_eq_true rfl) ⟨rfl, rfl⟩ (fun x h => cC_Tb_get _ g hi σ (rc o 2) (ly_4_2 ho).2 a3.1 (14 : Int32) x h) rfl (fun x10 hx10 => ?_)
      refine q_icmp_lt (tgt := 45) (pc' := 43) C d_Pf_lastHighestLeg_40 rfl rfl ?_ ?_
      · exact Rt.sub [0, 1, 2] rfl (hJ6 a3.1)
      · exact Rt.sub [0, 2] rfl (hJ8 ())
theorem d_Pf_descentLength_0 : decode qC_Pf_descentLength.1 0 = .ok (.aload_n 0, 1) := by decide +kernel
theorem d_Pf_descentLength_1 : decode qC_Pf_descentLength.1 1 = .ok (.getfield 19, 3) := by decide +kernel
theorem d_Pf_descentLength_4 : decode qC_Pf_descentLength.1 4 = .ok (.iload_n 1, 1) := by decide +kernel
theorem d_Pf_descentLength_5 : decode qC_Pf_descentLength.1 5 = .ok (.bipush 14, 2) := by decide +kernel
theorem d_Pf_descentLength_7 : decode qC_Pf_descentLength.1 7 = .ok (.invokevirtual 38, 3) := by decide +kernel
theorem d_Pf_descentLength_10 : decode qC_Pf_descentLength.1 10 = .ok (.aload_n 0, 1) := by decide +kernel
theorem d_Pf_descentLength_11 : decode qC_Pf_descentLength.1 11 = .ok (.getfield 19, 3) := by decide +kernel
theorem d_Pf_descentLength_14 : decode qC_Pf_descentLength.1 14 = .ok (.iload_n 1, 1) := by decide +kernel
theorem d_Pf_descentLength_15 : decode qC_Pf_descentLength.1 15 = .ok (.iconst 1, 1) := by decide +kernel
theorem d_Pf_descentLength_16 : decode qC_Pf_descentLength.1 16 = .ok (.iadd, 1) := by decide +kernel
theorem d_Pf_descentLength_17 : decode qC_Pf_descentLength.1 17 = .ok (.bipush 14, 2) := by decide +kernel
theorem d_Pf_descentLength_19 : decode qC_Pf_descentLength.1 19 = .ok (.invokevirtual 38, 3) := by decide +kernel
theorem d_Pf_descentLength_22 : decode qC_Pf_descentLength.1 22 = .ok (.isub, 1) := by decide +kernel
theorem d_Pf_descentLength_23 : decode qC_Pf_descentLength.1 23 = .ok (.istore_n 2, 1) := by decide +kernel
theorem d_Pf_descentLength_24 : decode qC_Pf_descentLength.1 24 = .ok (.iload_n 2, 1) := by decide +kernel
theorem d_Pf_descentLength_25 : decode qC_Pf_descentLength.1 25 = .ok (.aload_n 0, 1) := by decide +kernel
theorem d_Pf_descentLength_26 : decode qC_Pf_descentLength.1 26 = .ok (.getfield 15, 3) := by decide +kernel
theorem d_Pf_descentLength_29 : decode qC_Pf_descentLength.1 29 = .ok (.getfield 81, 3) := by decide +kernel
theorem d_Pf_descentLength_32 : decode qC_Pf_descentLength.1 32 = .ok (.invokestatic 89, 3) := by decide +kernel
theorem d_Pf_descentLength_35 : decode qC_Pf_descentLength.1 35 = .ok (.ireturn, 1) := by decide +kernel
set_option maxRecDepth 100000 in
def f_Pf_descentLength (σ : St) (o : Nat) (p1 : Int32) : Option (Int32) :=
  Option.bind (f_Tb_get σ (rc o 2) p1 (14 : Int32)) fun x1 =>
  Option.bind (f_Tb_get σ (rc o 2) (p1 + (1 : Int32)) (14 : Int32)) fun x2 =>
  Lt ((x1 - x2) : Int32) fun x3 =>
  Option.bind (f_Sg_lengthFor x3 (σ (rc o 1) 7)) fun x4 =>
  some x4
set_option maxHeartbeats 4000000 in
set_option maxRecDepth 100000 in
theorem cC_Pf_descentLength (l : Launch) (g : Ge) (hi : injB wC.2 g) (σ : St) (o : Nat) (ho : wC.2.2.1 o = .inr (4, 3)) (p1 : Int32) (x : Int32) (h : f_Pf_descentLength σ o p1 = some x) : Ct l wC g yC_Pf_descentLength qC_Pf_descentLength 1 22 [.ref (g.1 o), .int p1] σ (some (.int x), σ) := by
  refine Ct.of (out := (o_r σ)) FC_Pf_descentLength rfl hi rfl h (fun z hz C => ?_)
  clear h
  subst hz
  unfold f_Pf_descentLength
  show Rt z qC_Pf_descentLength wC g (o_r σ) 0 [(0, .ref (g.1 o)), (1, .int p1)] [] σ _
  refine q_aload_n (pc' := 1) C 0 d_Pf_descentLength_0 rfl rfl ?_
  refine gC_Pf_19 (pc' := 4) C o (rc o 2) ho (ly_4_2 ho).1 d_Pf_descentLength_1 rfl rfl ?_
  refine q_iload_n (pc' := 5) C 1 d_Pf_descentLength_4 rfl rfl ?_
  refine q_bipush (pc' := 7) C d_Pf_descentLength_5 kb_14 rfl ?_
  refine q_callVr (fr' := 0) (lo' := 0) (pc' := 10) C FC_Tb_get lmC_Pf_38 d_Pf_descentLength_7 (rc o 2) (jCo (ly_4_2 ho).2) (ly_4_2 ho).2 cC_8 [.int p1, .int (14 : Int32)] [] rfl rfl (Nat.le_of_ble_eq_true rfl) ⟨rfl, rfl⟩ (fun x h => cC_Tb_get _ g hi σ (rc o 2) (ly_4_2 ho).2 p1 (14 : Int32) x h) rfl (fun x1 hx1 => ?_)
  refine q_aload_n (pc' := 11) C 0 d_Pf_descentLength_10 rfl rfl ?_
  refine gC_Pf_19 (pc' := 14) C o (rc o 2) ho (ly_4_2 ho).1 d_Pf_descentLength_11 rfl rfl ?_
  refine q_iload_n (pc' := 15) C 1 d_Pf_descentLength_14 rfl rfl ?_
  refine q_iconst (pc' := 16) C d_Pf_descentLength_15 ki_1 rfl ?_
  refine q_iadd (pc' := 17) C d_Pf_descentLength_16 rfl ?_
  refine q_bipush (pc' := 19) C d_Pf_descentLength_17 kb_14 rfl ?_
  refine q_callVr (fr' := 0) (lo' := 0) (pc' := 22) C FC_Tb_get lmC_Pf_38 d_Pf_descentLength_19 (rc o 2) (jCo (ly_4_2 ho).2) (ly_4_2 ho).2 cC_8 [.int (p1 + (1 : Int32)), .int (14 : Int32)] [.int x1] rfl rfl (Nat.le_of_ble_eq_true rfl) ⟨rfl, rfl⟩ (fun x h => cC_Tb_get _ g hi σ (rc o 2) (ly_4_2 ho).2 (p1 + (1 : Int32)) (14 : Int32) x h) rfl (fun x2 hx2 => ?_)
  refine q_isub (pc' := 23) C d_Pf_descentLength_22 rfl ?_
  refine q_let (fun x3 e3 => ?_)
  refine q_topi e3 ?_
  refine q_istore_n (pc' := 24) (lv' := [(2, .int x3), (0, .ref (g.1 o)), (1, .int p1)]) C d_Pf_descentLength_23 (by decide) rfl rfl ?_
  refine q_iload_n (pc' := 25) C 0 d_Pf_descentLength_24 rfl rfl ?_
  refine q_aload_n (pc' := 26) C 1 d_Pf_descentLength_25 rfl rfl ?_
  refine gC_Pf_15 (pc' := 29) C o (rc o 1) ho (ly_4_1 ho).1 d_Pf_descentLength_26 rfl rfl ?_
  refine gC_Pf_81 (pc' := 32) C (rc o 1) (ly_4_1 ho).2 d_Pf_descentLength_29 rfl rfl ?_
  refine q_callSr (fr' := 0) (lo' := 0) (pc' := 35) C FC_Sg_lengthFor lmC_Pf_89 d_Pf_descentLength_32 [.int x3, .int (σ (rc o 1) 7)] [] rfl rfl (Nat.le_of_ble_eq_true rfl) ⟨rfl, rfl⟩ (fun x h => cC_Sg_lengthFor _ g hi σ x3 (σ (rc o 1) 7) x h) rfl (fun x4 hx4 => ?_)
  exact q_iret C rfl d_Pf_descentLength_35 rfl
theorem d_Pa_topOfDescentLength_0 : decode qC_Pa_topOfDescentLength.1 0 = .ok (.aload_n 0, 1) := by decide +kernel
theorem d_Pa_topOfDescentLength_1 : decode qC_Pa_topOfDescentLength.1 1 = .ok (.getfield 51, 3) := by decide +kernel
theorem d_Pa_topOfDescentLength_4 : decode qC_Pa_topOfDescentLength.1 4 = .ok (.invokevirtual 96, 3) := by decide +kernel
theorem d_Pa_topOfDescentLength_7 : decode qC_Pa_topOfDescentLength.1 7 = .ok (.istore_n 1, 1) := by decide +kernel
theorem d_Pa_topOfDescentLength_8 : decode qC_Pa_topOfDescentLength.1 8 = .ok (.iload_n 1, 1) := by decide +kernel
theorem d_Pa_topOfDescentLength_9 : decode qC_Pa_topOfDescentLength.1 9 = .ok (.ifCond .lt 16, 3) := by decide +kernel
theorem d_Pa_topOfDescentLength_12 : decode qC_Pa_topOfDescentLength.1 12 = .ok (.iload_n 1, 1) := by decide +kernel
theorem d_Pa_topOfDescentLength_13 : decode qC_Pa_topOfDescentLength.1 13 = .ok (.aload_n 0, 1) := by decide +kernel
theorem d_Pa_topOfDescentLength_14 : decode qC_Pa_topOfDescentLength.1 14 = .ok (.getfield 15, 3) := by decide +kernel
theorem d_Pa_topOfDescentLength_17 : decode qC_Pa_topOfDescentLength.1 17 = .ok (.getfield 58, 3) := by decide +kernel
theorem d_Pa_topOfDescentLength_20 : decode qC_Pa_topOfDescentLength.1 20 = .ok (.iconst 1, 1) := by decide +kernel
theorem d_Pa_topOfDescentLength_21 : decode qC_Pa_topOfDescentLength.1 21 = .ok (.isub, 1) := by decide +kernel
theorem d_Pa_topOfDescentLength_22 : decode qC_Pa_topOfDescentLength.1 22 = .ok (.if_icmp .lt 6, 3) := by decide +kernel
theorem d_Pa_topOfDescentLength_25 : decode qC_Pa_topOfDescentLength.1 25 = .ok (.ldc 100, 2) := by decide +kernel
theorem d_Pa_topOfDescentLength_27 : decode qC_Pa_topOfDescentLength.1 27 = .ok (.ireturn, 1) := by decide +kernel
theorem d_Pa_topOfDescentLength_28 : decode qC_Pa_topOfDescentLength.1 28 = .ok (.aload_n 0, 1) := by decide +kernel
theorem d_Pa_topOfDescentLength_29 : decode qC_Pa_topOfDescentLength.1 29 = .ok (.getfield 24, 3) := by decide +kernel
theorem d_Pa_topOfDescentLength_32 : decode qC_Pa_topOfDescentLength.1 32 = .ok (.iload_n 1, 1) := by decide +kernel
theorem d_Pa_topOfDescentLength_33 : decode qC_Pa_topOfDescentLength.1 33 = .ok (.iconst 1, 1) := by decide +kernel
theorem d_Pa_topOfDescentLength_34 : decode qC_Pa_topOfDescentLength.1 34 = .ok (.iadd, 1) := by decide +kernel
theorem d_Pa_topOfDescentLength_35 : decode qC_Pa_topOfDescentLength.1 35 = .ok (.bipush 9, 2) := by decide +kernel
theorem d_Pa_topOfDescentLength_37 : decode qC_Pa_topOfDescentLength.1 37 = .ok (.invokevirtual 79, 3) := by decide +kernel
theorem d_Pa_topOfDescentLength_40 : decode qC_Pa_topOfDescentLength.1 40 = .ok (.aload_n 0, 1) := by decide +kernel
theorem d_Pa_topOfDescentLength_41 : decode qC_Pa_topOfDescentLength.1 41 = .ok (.getfield 51, 3) := by decide +kernel
theorem d_Pa_topOfDescentLength_44 : decode qC_Pa_topOfDescentLength.1 44 = .ok (.iload_n 1, 1) := by decide +kernel
theorem d_Pa_topOfDescentLength_45 : decode qC_Pa_topOfDescentLength.1 45 = .ok (.invokevirtual 101, 3) := by decide +kernel
theorem d_Pa_topOfDescentLength_48 : decode qC_Pa_topOfDescentLength.1 48 = .ok (.isub, 1) := by decide +kernel
theorem d_Pa_topOfDescentLength_49 : decode qC_Pa_topOfDescentLength.1 49 = .ok (.istore_n 2, 1) := by decide +kernel
theorem d_Pa_topOfDescentLength_50 : decode qC_Pa_topOfDescentLength.1 50 = .ok (.aload_n 0, 1) := by decide +kernel
theorem d_Pa_topOfDescentLength_51 : decode qC_Pa_topOfDescentLength.1 51 = .ok (.iconst 0, 1) := by decide +kernel
theorem d_Pa_topOfDescentLength_52 : decode qC_Pa_topOfDescentLength.1 52 = .ok (.iload_n 1, 1) := by decide +kernel
theorem d_Pa_topOfDescentLength_53 : decode qC_Pa_topOfDescentLength.1 53 = .ok (.invokevirtual 105, 3) := by decide +kernel
theorem d_Pa_topOfDescentLength_56 : decode qC_Pa_topOfDescentLength.1 56 = .ok (.iconst 0, 1) := by decide +kernel
theorem d_Pa_topOfDescentLength_57 : decode qC_Pa_topOfDescentLength.1 57 = .ok (.iload_n 2, 1) := by decide +kernel
theorem d_Pa_topOfDescentLength_58 : decode qC_Pa_topOfDescentLength.1 58 = .ok (.invokestatic 108, 3) := by decide +kernel
theorem d_Pa_topOfDescentLength_61 : decode qC_Pa_topOfDescentLength.1 61 = .ok (.iadd, 1) := by decide +kernel
theorem d_Pa_topOfDescentLength_62 : decode qC_Pa_topOfDescentLength.1 62 = .ok (.ireturn, 1) := by decide +kernel
set_option maxRecDepth 100000 in
def f_Pa_topOfDescentLength (σ : St) (o : Nat) : Option (Int32) :=
  Option.bind (f_Pf_lastHighestLeg σ (rc o 4)) fun x1 =>
  Jn (fun (_ : Unit) =>
  some (-1000000 : Int32)
  ) fun J2 =>
  if (x1 : Int32) < 0 then (
  J2 ()
  ) else (
  if (x1 : Int32) < ((σ (rc o 0) 1) - (1 : Int32)) then (
  Option.bind (f_Tb_get σ (rc o 1) (x1 + (1 : Int32)) (9 : Int32)) fun x3 =>
  Option.bind (f_Pf_descentLength σ (rc o 4) x1) fun x4 =>
  Lt ((x3 - x4) : Int32) fun x5 =>
  Option.bind (f_Pa_lengthOf σ o (0 : Int32) x1) fun x6 =>
  some (x6 + (imax (0 : Int32) x5))
  ) else (
  J2 ()
  )
  )
set_option maxHeartbeats 4000000 in
set_option maxRecDepth 100000 in
theorem cC_Pa_topOfDescentLength (l : Launch) (g : Ge) (hi : injB wC.2 g) (σ : St) (o : Nat) (ho : wC.2.2.1 o = .inr (1, 6)) (x : Int32) (h : f_Pa_topOfDescentLength σ o = some x) : Ct l wC g yC_Pa_topOfDescentLength qC_Pa_topOfDescentLength 2 46 [.ref (g.1 o)] σ (some (.int x), σ) := by
  refine Ct.of (out := (o_r σ)) FC_Pa_topOfDescentLength rfl hi rfl h (fun z hz C => ?_)
  clear h
  subst hz
  unfold f_Pa_topOfDescentLength
  show Rt z qC_Pa_topOfDescentLength wC g (o_r σ) 0 [(0, .ref (g.1 o))] [] σ _
  refine q_aload_n (pc' := 1) C 0 d_Pa_topOfDescentLength_0 rfl rfl ?_
  refine gC_Pa_51 (pc' := 4) C o (rc o 4) ho (ly_1_4 ho).1 d_Pa_topOfDescentLength_1 rfl rfl ?_
  refine q_callVr (fr' := 1) (lo' := 22) (pc' := 7) C FC_Pf_lastHighestLeg lmC_Pa_96 d_Pa_topOfDescentLength_4 (rc o 4) (jCo (ly_1_4 ho).2) (ly_1_4 ho).2 cC_4 [] [] rfl rfl (Nat.le_of_ble_eq_true rfl) ⟨rfl, rfl⟩ (fun x h => cC_Pf_lastHighestLeg _ g hi σ (rc o 4) (ly_1_4 ho).2 x h) rfl (fun x1 hx1 => ?_)
  refine q_istore_n (pc' := 8) (lv' := [(1, .int x1), (0, .ref (g.1 o))]) C d_Pa_topOfDescentLength_7 (by decide) rfl rfl ?_
  refine q_iload_n (pc' := 9) C 0 d_Pa_topOfDescentLength_8 rfl rfl ?_
  refine q_join (fun J2 : Unit → Option (Int32) => ∀ (_ : Unit), Rt z qC_Pa_topOfDescentLength wC g (o_r σ) 25 [] [] σ (J2 ())) (fun _ => ?_) (fun J2 hJ2 => ?_)
  · refine q_ldc (pc' := 27) C lcC_Pa_100 d_Pa_topOfDescentLength_25 rfl ?_
    exact q_iret C rfl d_Pa_topOfDescentLength_27 rfl
  refine q_if_lt (tgt := 25) (pc' := 12) C d_Pa_topOfDescentLength_9 rfl rfl ?_ ?_
  · exact Rt.sub [] rfl (hJ2 ())
  · refine q_iload_n (pc' := 13) C 0 d_Pa_topOfDescentLength_12 rfl rfl ?_
    refine q_aload_n (pc' := 14) C 1 d_Pa_topOfDescentLength_13 rfl rfl ?_
    refine gC_Pa_15 (pc' := 17) C o (rc o 0) ho (ly_1_0 ho).1 d_Pa_topOfDescentLength_14 rfl rfl ?_
    refine gC_Pa_58 (pc' := 20) C (rc o 0) (ly_1_0 ho).2 d_Pa_topOfDescentLength_17 rfl rfl ?_
    refine q_iconst (pc' := 21) C d_Pa_topOfDescentLength_20 ki_1 rfl ?_
    refine q_isub (pc' := 22) C d_Pa_topOfDescentLength_21 rfl ?_
    refine q_icmp_lt (tgt := 28) (pc' := 25) C d_Pa_topOfDescentLength_22 rfl rfl ?_ ?_
    · refine q_aload_n (pc' := 29) C 1 d_Pa_topOfDescentLength_28 rfl rfl ?_
      refine gC_Pa_24 (pc' := 32) C o (rc o 1) ho (ly_1_1 ho).1 d_Pa_topOfDescentLength_29 rfl rfl ?_
      refine q_iload_n (pc' := 33) C 0 d_Pa_topOfDescentLength_32 rfl rfl ?_
      refine q_iconst (pc' := 34) C d_Pa_topOfDescentLength_33 ki_1 rfl ?_
      refine q_iadd (pc' := 35) C d_Pa_topOfDescentLength_34 rfl ?_
      refine q_bipush (pc' := 37) C d_Pa_topOfDescentLength_35 kb_9 rfl ?_
      refine q_callVr (fr' := 0) (lo' := 0) (pc' := 40) C FC_Tb_get lmC_Pa_79 d_Pa_topOfDescentLength_37 (rc o 1) (jCo (ly_1_1 ho).2) (ly_1_1 ho).2 cC_8 [.int (x1 + (1 : Int32)), .int (9 : Int32)] [] rfl rfl (Nat.le_of_ble_eq_true rfl) ⟨rfl, rfl⟩ (fun x h => cC_Tb_get _ g hi σ (rc o 1) (ly_1_1 ho).2 (x1 + (1 : Int32)) (9 : Int32) x h) rfl (fun x3 hx3 => ?_)
      refine q_aload_n (pc' := 41) C 1 d_Pa_topOfDescentLength_40 rfl rfl ?_
      refine gC_Pa_51 (pc' := 44) C o (rc o 4) ho (ly_1_4 ho).1 d_Pa_topOfDescentLength_41 rfl rfl ?_
      refine q_iload_n (pc' := 45) C 0 d_Pa_topOfDescentLength_44 rfl rfl ?_
      refine q_callVr (fr' := 1) (lo' := 22) (pc' := 48) C FC_Pf_descentLength lmC_Pa_101 d_Pa_topOfDescentLength_45 (rc o 4) (jCo (ly_1_4 ho).2) (ly_1_4 ho).2 cC_4 [.int x1] [.int x3] rfl rfl (Nat.le_of_ble_eq_true rfl) ⟨rfl, rfl⟩ (fun x h => cC_Pf_descentLength _ g hi σ (rc o 4) (ly_1_4 ho).2 x1 x h) rfl (fun x4 hx4 => ?_)
      refine q_isub (pc' := 49) C d_Pa_topOfDescentLength_48 rfl ?_
      refine q_let (fun x5 e5 => ?_)
      refine q_topi e5 ?_
      refine q_istore_n (pc' := 50) (lv' := [(2, .int x5), (1, .int x1), (0, .ref (g.1 o))]) C d_Pa_topOfDescentLength_49 (by decide) rfl rfl ?_
      refine q_aload_n (pc' := 51) C 2 d_Pa_topOfDescentLength_50 rfl rfl ?_
      refine q_iconst (pc' := 52) C d_Pa_topOfDescentLength_51 ki_0 rfl ?_
      refine q_iload_n (pc' := 53) C 1 d_Pa_topOfDescentLength_52 rfl rfl ?_
      refine q_callVr (fr' := 1) (lo' := 22) (pc' := 56) C FC_Pa_lengthOf lmC_Pa_105 d_Pa_topOfDescentLength_53 o (jCo ho) ho cC_1 [.int (0 : Int32), .int x1] [] rfl rfl (Nat.le_of_ble_eq_true rfl) ⟨rfl, rfl⟩ (fun x h => cC_Pa_lengthOf _ g hi σ o ho (0 : Int32) x1 x h) rfl (fun x6 hx6 => ?_)
      refine q_iconst (pc' := 57) C d_Pa_topOfDescentLength_56 ki_0 rfl ?_
      refine q_iload_n (pc' := 58) C 0 d_Pa_topOfDescentLength_57 rfl rfl ?_
      refine q_mmax (pc' := 61) C lj_max_Pa_108 (Nat.le_of_ble_eq_true rfl) ⟨rfl, rfl⟩ d_Pa_topOfDescentLength_58 rfl ?_
      refine q_iadd (pc' := 62) C d_Pa_topOfDescentLength_61 rfl ?_
      exact q_iret C rfl d_Pa_topOfDescentLength_62 rfl
    · exact Rt.sub [] rfl (hJ2 ())
theorem d_Pl_putPlainLeg_0 : decode qC_Pl_putPlainLeg.1 0 = .ok (.iconst 0, 1) := by decide +kernel
theorem d_Pl_putPlainLeg_1 : decode qC_Pl_putPlainLeg.1 1 = .ok (.istore_n 3, 1) := by decide +kernel
theorem d_Pl_putPlainLeg_2 : decode qC_Pl_putPlainLeg.1 2 = .ok (.iload_n 3, 1) := by decide +kernel
theorem d_Pl_putPlainLeg_3 : decode qC_Pl_putPlainLeg.1 3 = .ok (.bipush 14, 2) := by decide +kernel
theorem d_Pl_putPlainLeg_5 : decode qC_Pl_putPlainLeg.1 5 = .ok (.if_icmp .ge 16, 3) := by decide +kernel
theorem d_Pl_putPlainLeg_8 : decode qC_Pl_putPlainLeg.1 8 = .ok (.aload_n 0, 1) := by decide +kernel
theorem d_Pl_putPlainLeg_9 : decode qC_Pl_putPlainLeg.1 9 = .ok (.iload_n 1, 1) := by decide +kernel
theorem d_Pl_putPlainLeg_10 : decode qC_Pl_putPlainLeg.1 10 = .ok (.iload_n 3, 1) := by decide +kernel
theorem d_Pl_putPlainLeg_11 : decode qC_Pl_putPlainLeg.1 11 = .ok (.iconst 0, 1) := by decide +kernel
theorem d_Pl_putPlainLeg_12 : decode qC_Pl_putPlainLeg.1 12 = .ok (.invokevirtual 31, 3) := by decide +kernel
theorem d_Pl_putPlainLeg_15 : decode qC_Pl_putPlainLeg.1 15 = .ok (.iinc 3 1, 3) := by decide +kernel
theorem d_Pl_putPlainLeg_18 : decode qC_Pl_putPlainLeg.1 18 = .ok (.goto (-16), 3) := by decide +kernel
theorem d_Pl_putPlainLeg_21 : decode qC_Pl_putPlainLeg.1 21 = .ok (.aload_n 0, 1) := by decide +kernel
theorem d_Pl_putPlainLeg_22 : decode qC_Pl_putPlainLeg.1 22 = .ok (.iload_n 1, 1) := by decide +kernel
theorem d_Pl_putPlainLeg_23 : decode qC_Pl_putPlainLeg.1 23 = .ok (.iconst 0, 1) := by decide +kernel
theorem d_Pl_putPlainLeg_24 : decode qC_Pl_putPlainLeg.1 24 = .ok (.iload_n 2, 1) := by decide +kernel
theorem d_Pl_putPlainLeg_25 : decode qC_Pl_putPlainLeg.1 25 = .ok (.invokevirtual 31, 3) := by decide +kernel
theorem d_Pl_putPlainLeg_28 : decode qC_Pl_putPlainLeg.1 28 = .ok (.aload_n 0, 1) := by decide +kernel
theorem d_Pl_putPlainLeg_29 : decode qC_Pl_putPlainLeg.1 29 = .ok (.iload_n 1, 1) := by decide +kernel
theorem d_Pl_putPlainLeg_30 : decode qC_Pl_putPlainLeg.1 30 = .ok (.iconst 1, 1) := by decide +kernel
theorem d_Pl_putPlainLeg_31 : decode qC_Pl_putPlainLeg.1 31 = .ok (.ldc 35, 2) := by decide +kernel
theorem d_Pl_putPlainLeg_33 : decode qC_Pl_putPlainLeg.1 33 = .ok (.invokevirtual 31, 3) := by decide +kernel
theorem d_Pl_putPlainLeg_36 : decode qC_Pl_putPlainLeg.1 36 = .ok (.aload_n 0, 1) := by decide +kernel
theorem d_Pl_putPlainLeg_37 : decode qC_Pl_putPlainLeg.1 37 = .ok (.iload_n 1, 1) := by decide +kernel
theorem d_Pl_putPlainLeg_38 : decode qC_Pl_putPlainLeg.1 38 = .ok (.bipush 10, 2) := by decide +kernel
theorem d_Pl_putPlainLeg_40 : decode qC_Pl_putPlainLeg.1 40 = .ok (.sipush 450, 3) := by decide +kernel
theorem d_Pl_putPlainLeg_43 : decode qC_Pl_putPlainLeg.1 43 = .ok (.invokevirtual 31, 3) := by decide +kernel
theorem d_Pl_putPlainLeg_46 : decode qC_Pl_putPlainLeg.1 46 = .ok (.aload_n 0, 1) := by decide +kernel
theorem d_Pl_putPlainLeg_47 : decode qC_Pl_putPlainLeg.1 47 = .ok (.iload_n 1, 1) := by decide +kernel
theorem d_Pl_putPlainLeg_48 : decode qC_Pl_putPlainLeg.1 48 = .ok (.bipush 11, 2) := by decide +kernel
theorem d_Pl_putPlainLeg_50 : decode qC_Pl_putPlainLeg.1 50 = .ok (.sipush 999, 3) := by decide +kernel
theorem d_Pl_putPlainLeg_53 : decode qC_Pl_putPlainLeg.1 53 = .ok (.invokevirtual 31, 3) := by decide +kernel
theorem d_Pl_putPlainLeg_56 : decode qC_Pl_putPlainLeg.1 56 = .ok (.return_, 1) := by decide +kernel
set_option maxRecDepth 100000 in
def lb_f_Pl_putPlainLeg_2 (p0 : Nat) (p1 : Int32) (J2 : St → Option (St)) (ih8 : Int32 × St → Option (St)) (a7 : Int32 × St) : Option (St) :=
  if ((14 : Int32) : Int32) ≤ a7.1 then (
  J2 a7.2
  ) else (
  Option.bind (f_Tb_put a7.2 p0 p1 a7.1 (0 : Int32)) fun x9 =>
  Lt (a7.1 + (1 : Int32) : Int32) fun x10 =>
  ih8 (x10, x9)
  )
set_option maxRecDepth 100000 in
def f_Pl_putPlainLeg (σ : St) (p0 : Nat) (p1 : Int32) (p2 : Int32) : Option (St) :=
  Jn (fun (σ1 : St) =>
  Option.bind (f_Tb_put σ1 p0 p1 (0 : Int32) p2) fun x3 =>
  Option.bind (f_Tb_put x3 p0 p1 (1 : Int32) (-1000000 : Int32)) fun x4 =>
  Option.bind (f_Tb_put x4 p0 p1 (10 : Int32) (450 : Int32)) fun x5 =>
  Option.bind (f_Tb_put x5 p0 p1 (11 : Int32) (999 : Int32)) fun x6 =>
  some x6
  ) fun J2 =>
  lp (lb_f_Pl_putPlainLeg_2 p0 p1 J2) 4000 ((0 : Int32), σ)
set_option maxHeartbeats 4000000 in
set_option maxRecDepth 100000 in
theorem cC_Pl_putPlainLeg (l : Launch) (g : Ge) (hi : injB wC.2 g) (σ : St) (p0 : Nat) (h0 : wC.2.2.1 p0 = .inr (8, 3)) (p1 : Int32) (p2 : Int32) (x : St) (h : f_Pl_putPlainLeg σ p0 p1 p2 = some x) : Ct l wC g yC_Pl_putPlainLeg qC_Pl_putPlainLeg 1 23 [.ref (g.1 p0), .int p1, .int p2] σ (none, x) := by
  refine Ct.of (out := o_v) FC_Pl_putPlainLeg rfl hi rfl h (fun z hz C => ?_)
  clear h
  subst hz
  unfold f_Pl_putPlainLeg
  show Rt z qC_Pl_putPlainLeg wC g o_v 0 [(0, .ref (g.1 p0)), (1, .int p1), (2, .int p2)] [] σ _
  refine q_iconst (pc' := 1) C d_Pl_putPlainLeg_0 ki_0 rfl ?_
  refine q_istore_n (pc' := 2) (lv' := [(3, .int (0 : Int32)), (0, .ref (g.1 p0)), (1, .int p1), (2, .int p2)]) C d_Pl_putPlainLeg_1 (by decide) rfl rfl ?_
  refine q_join (fun J2 : St → Option (St) => ∀ (σ1 : St), Rt z qC_Pl_putPlainLeg wC g o_v 21 [(0, .ref (g.1 p0)), (1, .int p1), (2, .int p2)] [] σ1 (J2 σ1)) (fun σ1 => ?_) (fun J2 hJ2 => ?_)
  · refine q_aload_n (pc' := 22) C 0 d_Pl_putPlainLeg_21 rfl rfl ?_
    refine q_iload_n (pc' := 23) C 1 d_Pl_putPlainLeg_22 rfl rfl ?_
    refine q_iconst (pc' := 24) C d_Pl_putPlainLeg_23 ki_0 rfl ?_
    refine q_iload_n (pc' := 25) C 2 d_Pl_putPlainLeg_24 rfl rfl ?_
    refine q_callVv (fr' := 0) (lo' := 0) (pc' := 28) C FC_Tb_put lmC_Pl_31 d_Pl_putPlainLeg_25 p0 (jCo h0) h0 cC_8 [.int p1, .int (0 : Int32), .int p2] [] rfl rfl (Nat.le_of_ble_eq_true rfl) ⟨rfl, rfl⟩ (fun x h => cC_Tb_put _ g hi σ1 p0 h0 p1 (0 : Int32) p2 x h) rfl (fun x3 hx3 => ?_)
    refine q_aload_n (pc' := 29) C 0 d_Pl_putPlainLeg_28 rfl rfl ?_
    refine q_iload_n (pc' := 30) C 1 d_Pl_putPlainLeg_29 rfl rfl ?_
    refine q_iconst (pc' := 31) C d_Pl_putPlainLeg_30 ki_1 rfl ?_
    refine q_ldc (pc' := 33) C lcC_Pl_35 d_Pl_putPlainLeg_31 rfl ?_
    refine q_callVv (fr' := 0) (lo' := 0) (pc' := 36) C FC_Tb_put lmC_Pl_31 d_Pl_putPlainLeg_33 p0 (jCo h0) h0 cC_8 [.int p1, .int (1 : Int32), .int (-1000000 : Int32)] [] rfl rfl (Nat.le_of_ble_eq_true rfl) ⟨rfl, rfl⟩ (fun x h => cC_Tb_put _ g hi x3 p0 h0 p1 (1 : Int32) (-1000000 : Int32) x h) rfl (fun x4 hx4 => ?_)
    refine q_aload_n (pc' := 37) C 0 d_Pl_putPlainLeg_36 rfl rfl ?_
    refine q_iload_n (pc' := 38) C 1 d_Pl_putPlainLeg_37 rfl rfl ?_
    refine q_bipush (pc' := 40) C d_Pl_putPlainLeg_38 kb_10 rfl ?_
    refine q_sipush (pc' := 43) C d_Pl_putPlainLeg_40 ks_450 rfl ?_
    refine q_callVv (fr' := 0) (lo' := 0) (pc' := 46) C FC_Tb_put lmC_Pl_31 d_Pl_putPlainLeg_43 p0 (jCo h0) h0 cC_8 [.int p1, .int (10 : Int32), .int (450 : Int32)] [] rfl rfl (Nat.le_of_ble_eq_true rfl) ⟨rfl, rfl⟩ (fun x h => cC_Tb_put _ g hi x4 p0 h0 p1 (10 : Int32) (450 : Int32) x h) rfl (fun x5 hx5 => ?_)
    refine q_aload_n (pc' := 47) C 0 d_Pl_putPlainLeg_46 rfl rfl ?_
    refine q_iload_n (pc' := 48) C 1 d_Pl_putPlainLeg_47 rfl rfl ?_
    refine q_bipush (pc' := 50) C d_Pl_putPlainLeg_48 kb_11 rfl ?_
    refine q_sipush (pc' := 53) C d_Pl_putPlainLeg_50 ks_999 rfl ?_
    refine q_callVv (fr' := 0) (lo' := 0) (pc' := 56) C FC_Tb_put lmC_Pl_31 d_Pl_putPlainLeg_53 p0 (jCo h0) h0 cC_8 [.int p1, .int (11 : Int32), .int (999 : Int32)] [] rfl rfl (Nat.le_of_ble_eq_true rfl) ⟨rfl, rfl⟩ (fun x h => cC_Tb_put _ g hi x5 p0 h0 p1 (11 : Int32) (999 : Int32) x h) rfl (fun x6 hx6 => ?_)
    exact q_vret C rfl d_Pl_putPlainLeg_56 rfl
  refine Rt.sub [1, 2, 3, 0] rfl (q_lp (fun a7 : Int32 × St => [(0, .ref (g.1 p0)), (1, .int p1), (2, .int p2), (3, .int a7.1)]) (fun a7 => []) (fun a7 => a7.2) (fun ih8 hih8 a7 => ?_) 4000 ((0 : Int32), σ))
  unfold lb_f_Pl_putPlainLeg_2
  refine q_iload_n (pc' := 3) C 3 d_Pl_putPlainLeg_2 rfl rfl ?_
  refine q_bipush (pc' := 5) C d_Pl_putPlainLeg_3 kb_14 rfl ?_
  refine q_icmp_ge (tgt := 21) (pc' := 8) C d_Pl_putPlainLeg_5 rfl rfl ?_ ?_
  · exact Rt.sub [0, 1, 2] rfl (hJ2 a7.2)
  · refine q_aload_n (pc' := 9) C 0 d_Pl_putPlainLeg_8 rfl rfl ?_
    refine q_iload_n (pc' := 10) C 1 d_Pl_putPlainLeg_9 rfl rfl ?_
    refine q_iload_n (pc' := 11) C 3 d_Pl_putPlainLeg_10 rfl rfl ?_
    refine q_iconst (pc' := 12) C d_Pl_putPlainLeg_11 ki_0 rfl ?_
    refine q_callVv (fr' := 0) (lo' := 0) (pc' := 15) C FC_Tb_put lmC_Pl_31 d_Pl_putPlainLeg_12 p0 (jCo h0) h0 cC_8 [.int p1, .int a7.1, .int (0 : Int32)] [] rfl rfl (Nat.le_of_ble_eq_true rfl) ⟨rfl, rfl⟩ (fun x h => cC_Tb_put _ g hi a7.2 p0 h0 p1 a7.1 (0 : Int32) x h) rfl (fun x9 hx9 => ?_)
    refine q_let (fun x10 e10 => ?_)
    refine q_iinc (pc' := 18) (lv' := [(3, .int x10), (0, .ref (g.1 p0)), (1, .int p1), (2, .int p2)]) C 3 d_Pl_putPlainLeg_15 rfl (by rw [e10, ki_1]) (by decide) rfl rfl ?_
    refine q_goto (tgt := 2) C d_Pl_putPlainLeg_18 rfl ?_
    exact Rt.sub [1, 2, 3, 0] rfl (hih8 (x10, x9))
theorem d_Pl_copyFrom_0 : decode qC_Pl_copyFrom.1 0 = .ok (.aload_n 0, 1) := by decide +kernel
theorem d_Pl_copyFrom_1 : decode qC_Pl_copyFrom.1 1 = .ok (.getfield 27, 3) := by decide +kernel
theorem d_Pl_copyFrom_4 : decode qC_Pl_copyFrom.1 4 = .ok (.aload_n 1, 1) := by decide +kernel
theorem d_Pl_copyFrom_5 : decode qC_Pl_copyFrom.1 5 = .ok (.getfield 27, 3) := by decide +kernel
theorem d_Pl_copyFrom_8 : decode qC_Pl_copyFrom.1 8 = .ok (.iconst 0, 1) := by decide +kernel
theorem d_Pl_copyFrom_9 : decode qC_Pl_copyFrom.1 9 = .ok (.iconst 0, 1) := by decide +kernel
theorem d_Pl_copyFrom_10 : decode qC_Pl_copyFrom.1 10 = .ok (.aload_n 1, 1) := by decide +kernel
theorem d_Pl_copyFrom_11 : decode qC_Pl_copyFrom.1 11 = .ok (.getfield 9, 3) := by decide +kernel
theorem d_Pl_copyFrom_14 : decode qC_Pl_copyFrom.1 14 = .ok (.invokevirtual 40, 3) := by decide +kernel
theorem d_Pl_copyFrom_17 : decode qC_Pl_copyFrom.1 17 = .ok (.aload_n 0, 1) := by decide +kernel
theorem d_Pl_copyFrom_18 : decode qC_Pl_copyFrom.1 18 = .ok (.aload_n 1, 1) := by decide +kernel
theorem d_Pl_copyFrom_19 : decode qC_Pl_copyFrom.1 19 = .ok (.getfield 9, 3) := by decide +kernel
theorem d_Pl_copyFrom_22 : decode qC_Pl_copyFrom.1 22 = .ok (.putfield 9, 3) := by decide +kernel
theorem d_Pl_copyFrom_25 : decode qC_Pl_copyFrom.1 25 = .ok (.aload_n 0, 1) := by decide +kernel
theorem d_Pl_copyFrom_26 : decode qC_Pl_copyFrom.1 26 = .ok (.aload_n 1, 1) := by decide +kernel
theorem d_Pl_copyFrom_27 : decode qC_Pl_copyFrom.1 27 = .ok (.getfield 15, 3) := by decide +kernel
theorem d_Pl_copyFrom_30 : decode qC_Pl_copyFrom.1 30 = .ok (.putfield 15, 3) := by decide +kernel
theorem d_Pl_copyFrom_33 : decode qC_Pl_copyFrom.1 33 = .ok (.aload_n 0, 1) := by decide +kernel
theorem d_Pl_copyFrom_34 : decode qC_Pl_copyFrom.1 34 = .ok (.aload_n 1, 1) := by decide +kernel
theorem d_Pl_copyFrom_35 : decode qC_Pl_copyFrom.1 35 = .ok (.getfield 18, 3) := by decide +kernel
theorem d_Pl_copyFrom_38 : decode qC_Pl_copyFrom.1 38 = .ok (.putfield 18, 3) := by decide +kernel
theorem d_Pl_copyFrom_41 : decode qC_Pl_copyFrom.1 41 = .ok (.return_, 1) := by decide +kernel
set_option maxRecDepth 100000 in
def f_Pl_copyFrom (σ : St) (o : Nat) (p1 : Nat) : Option (St) :=
  Option.bind (f_Tb_copyRows σ (rc o 0) (rc p1 0) (0 : Int32) (0 : Int32) (σ p1 1)) fun x1 =>
  Lt (s2 x1 o 1 (x1 p1 1)) fun σ2 =>
  Lt (s2 σ2 o 2 (σ2 p1 2)) fun σ3 =>
  Gd (((σ3 p1 3) : Int32) &&& 1 = (σ3 p1 3)) <|
  Lt (s2 σ3 o 3 (σ3 p1 3)) fun σ5 =>
  some σ5
set_option maxHeartbeats 4000000 in
set_option maxRecDepth 100000 in
theorem cC_Pl_copyFrom (l : Launch) (g : Ge) (hi : injB wC.2 g) (σ : St) (o : Nat) (ho : wC.2.2.1 o = .inr (3, 4)) (p1 : Nat) (h1 : wC.2.2.1 p1 = .inr (3, 4)) (x : St) (h : f_Pl_copyFrom σ o p1 = some x) : Ct l wC g yC_Pl_copyFrom qC_Pl_copyFrom 2 50 [.ref (g.1 o), .ref (g.1 p1)] σ (none, x) := by
  refine Ct.of (out := o_v) FC_Pl_copyFrom rfl hi rfl h (fun z hz C => ?_)
  clear h
  subst hz
  unfold f_Pl_copyFrom
  show Rt z qC_Pl_copyFrom wC g o_v 0 [(0, .ref (g.1 o)), (1, .ref (g.1 p1))] [] σ _
  refine q_aload_n (pc' := 1) C 0 d_Pl_copyFrom_0 rfl rfl ?_
  refine gC_Pl_27 (pc' := 4) C o (rc o 0) ho (ly_3_0 ho).1 d_Pl_copyFrom_1 rfl rfl ?_
  refine q_aload_n (pc' := 5) C 1 d_Pl_copyFrom_4 rfl rfl ?_
  refine gC_Pl_27 (pc' := 8) C p1 (rc p1 0) h1 (ly_3_0 h1).1 d_Pl_copyFrom_5 rfl rfl ?_
  refine q_iconst (pc' := 9) C d_Pl_copyFrom_8 ki_0 rfl ?_
  refine q_iconst (pc' := 10) C d_Pl_copyFrom_9 ki_0 rfl ?_
  refine q_aload_n (pc' := 11) C 1 d_Pl_copyFrom_10 rfl rfl ?_
  refine gC_Pl_9 (pc' := 14) C p1 h1 d_Pl_copyFrom_11 rfl rfl ?_
  refine q_callVv (fr' := 1) (lo' := 26) (pc' := 17) C FC_Tb_copyRows lmC_Pl_40 d_Pl_copyFrom_14 (rc o 0) (jCo (ly_3_0 ho).2) (ly_3_0 ho).2 cC_8 [.ref (g.1 (rc p1 0)), .int (0 : Int32), .int (0 : Int32), .int (σ p1 1)] [] rfl rfl (Nat.le_of_ble_eq_true rfl) ⟨rfl, rfl⟩ (fun x h => cC_Tb_copyRows _ g hi σ (rc o 0) (ly_3_0 ho).2 (rc p1 0) (ly_3_0 h1).2 (0 : Int32) (0 : Int32) (σ p1 1) x h) rfl (fun x1 hx1 => ?_)
  refine q_aload_n (pc' := 18) C 0 d_Pl_copyFrom_17 rfl rfl ?_
  refine q_aload_n (pc' := 19) C 1 d_Pl_copyFrom_18 rfl rfl ?_
  refine gC_Pl_9 (pc' := 22) C p1 h1 d_Pl_copyFrom_19 rfl rfl ?_
  refine pC_Pl_9 (pc' := 25) C o ho d_Pl_copyFrom_22 rfl rfl ?_
  refine q_let (fun σ2 e2 => ?_)
  refine q_state e2 ?_
  refine q_aload_n (pc' := 26) C 0 d_Pl_copyFrom_25 rfl rfl ?_
  refine q_aload_n (pc' := 27) C 1 d_Pl_copyFrom_26 rfl rfl ?_
  refine gC_Pl_15 (pc' := 30) C p1 h1 d_Pl_copyFrom_27 rfl rfl ?_
  refine pC_Pl_15 (pc' := 33) C o ho d_Pl_copyFrom_30 rfl rfl ?_
  refine q_let (fun σ3 e3 => ?_)
  refine q_state e3 ?_
  refine q_aload_n (pc' := 34) C 0 d_Pl_copyFrom_33 rfl rfl ?_
  refine q_aload_n (pc' := 35) C 1 d_Pl_copyFrom_34 rfl rfl ?_
  refine gC_Pl_18 (pc' := 38) C p1 h1 d_Pl_copyFrom_35 rfl rfl ?_
  refine q_guard (fun gx4 => ?_)
  refine pC_Pl_18 (pc' := 41) C o ho d_Pl_copyFrom_38 gx4 rfl rfl ?_
  refine q_let (fun σ5 e5 => ?_)
  refine q_state e5 ?_
  exact q_vret C rfl d_Pl_copyFrom_41 rfl
theorem d_Pl_restart_0 : decode qC_Pl_restart.1 0 = .ok (.aload_n 0, 1) := by decide +kernel
theorem d_Pl_restart_1 : decode qC_Pl_restart.1 1 = .ok (.iconst 0, 1) := by decide +kernel
theorem d_Pl_restart_2 : decode qC_Pl_restart.1 2 = .ok (.putfield 15, 3) := by decide +kernel
theorem d_Pl_restart_5 : decode qC_Pl_restart.1 5 = .ok (.aload_n 0, 1) := by decide +kernel
theorem d_Pl_restart_6 : decode qC_Pl_restart.1 6 = .ok (.iconst 1, 1) := by decide +kernel
theorem d_Pl_restart_7 : decode qC_Pl_restart.1 7 = .ok (.putfield 18, 3) := by decide +kernel
theorem d_Pl_restart_10 : decode qC_Pl_restart.1 10 = .ok (.return_, 1) := by decide +kernel
set_option maxRecDepth 100000 in
def f_Pl_restart (σ : St) (o : Nat) : Option (St) :=
  Lt (s2 σ o 2 (0 : Int32)) fun σ1 =>
  Lt (s2 σ1 o 3 (1 : Int32)) fun σ2 =>
  some σ2
set_option maxHeartbeats 4000000 in
set_option maxRecDepth 100000 in
theorem cC_Pl_restart (l : Launch) (g : Ge) (hi : injB wC.2 g) (σ : St) (o : Nat) (ho : wC.2.2.1 o = .inr (3, 4)) (x : St) (h : f_Pl_restart σ o = some x) : Ct l wC g yC_Pl_restart qC_Pl_restart 0 0 [.ref (g.1 o)] σ (none, x) := by
  refine Ct.of (out := o_v) FC_Pl_restart rfl hi rfl h (fun z hz C => ?_)
  clear h
  subst hz
  unfold f_Pl_restart
  show Rt z qC_Pl_restart wC g o_v 0 [(0, .ref (g.1 o))] [] σ _
  refine q_aload_n (pc' := 1) C 0 d_Pl_restart_0 rfl rfl ?_
  refine q_iconst (pc' := 2) C d_Pl_restart_1 ki_0 rfl ?_
  refine pC_Pl_15 (pc' := 5) C o ho d_Pl_restart_2 rfl rfl ?_
  refine q_let (fun σ1 e1 => ?_)
  refine q_state e1 ?_
  refine q_aload_n (pc' := 6) C 0 d_Pl_restart_5 rfl rfl ?_
  refine q_iconst (pc' := 7) C d_Pl_restart_6 ki_1 rfl ?_
  refine pC_Pl_18 (pc' := 10) C o ho d_Pl_restart_7 (by decide) rfl rfl ?_
  refine q_let (fun σ2 e2 => ?_)
  refine q_state e2 ?_
  exact q_vret C rfl d_Pl_restart_10 rfl
theorem d_Pl_replaceAll_0 : decode qC_Pl_replaceAll.1 0 = .ok (.aload_n 0, 1) := by decide +kernel
theorem d_Pl_replaceAll_1 : decode qC_Pl_replaceAll.1 1 = .ok (.getfield 27, 3) := by decide +kernel
theorem d_Pl_replaceAll_4 : decode qC_Pl_replaceAll.1 4 = .ok (.aload_n 1, 1) := by decide +kernel
theorem d_Pl_replaceAll_5 : decode qC_Pl_replaceAll.1 5 = .ok (.iconst 0, 1) := by decide +kernel
theorem d_Pl_replaceAll_6 : decode qC_Pl_replaceAll.1 6 = .ok (.iconst 0, 1) := by decide +kernel
theorem d_Pl_replaceAll_7 : decode qC_Pl_replaceAll.1 7 = .ok (.iload_n 2, 1) := by decide +kernel
theorem d_Pl_replaceAll_8 : decode qC_Pl_replaceAll.1 8 = .ok (.invokevirtual 40, 3) := by decide +kernel
theorem d_Pl_replaceAll_11 : decode qC_Pl_replaceAll.1 11 = .ok (.aload_n 0, 1) := by decide +kernel
theorem d_Pl_replaceAll_12 : decode qC_Pl_replaceAll.1 12 = .ok (.iload_n 2, 1) := by decide +kernel
theorem d_Pl_replaceAll_13 : decode qC_Pl_replaceAll.1 13 = .ok (.putfield 9, 3) := by decide +kernel
theorem d_Pl_replaceAll_16 : decode qC_Pl_replaceAll.1 16 = .ok (.aload_n 0, 1) := by decide +kernel
theorem d_Pl_replaceAll_17 : decode qC_Pl_replaceAll.1 17 = .ok (.invokevirtual 44, 3) := by decide +kernel
theorem d_Pl_replaceAll_20 : decode qC_Pl_replaceAll.1 20 = .ok (.return_, 1) := by decide +kernel
set_option maxRecDepth 100000 in
def f_Pl_replaceAll (σ : St) (o : Nat) (p1 : Nat) (p2 : Int32) : Option (St) :=
  Option.bind (f_Tb_copyRows σ (rc o 0) p1 (0 : Int32) (0 : Int32) p2) fun x1 =>
  Lt (s2 x1 o 1 p2) fun σ2 =>
  Option.bind (f_Pl_restart σ2 o) fun x3 =>
  some x3
set_option maxHeartbeats 4000000 in
set_option maxRecDepth 100000 in
theorem cC_Pl_replaceAll (l : Launch) (g : Ge) (hi : injB wC.2 g) (σ : St) (o : Nat) (ho : wC.2.2.1 o = .inr (3, 4)) (p1 : Nat) (h1 : wC.2.2.1 p1 = .inr (8, 3)) (p2 : Int32) (x : St) (h : f_Pl_replaceAll σ o p1 p2 = some x) : Ct l wC g yC_Pl_replaceAll qC_Pl_replaceAll 2 50 [.ref (g.1 o), .ref (g.1 p1), .int p2] σ (none, x) := by
  refine Ct.of (out := o_v) FC_Pl_replaceAll rfl hi rfl h (fun z hz C => ?_)
  clear h
  subst hz
  unfold f_Pl_replaceAll
  show Rt z qC_Pl_replaceAll wC g o_v 0 [(0, .ref (g.1 o)), (1, .ref (g.1 p1)), (2, .int p2)] [] σ _
  refine q_aload_n (pc' := 1) C 0 d_Pl_replaceAll_0 rfl rfl ?_
  refine gC_Pl_27 (pc' := 4) C o (rc o 0) ho (ly_3_0 ho).1 d_Pl_replaceAll_1 rfl rfl ?_
  refine q_aload_n (pc' := 5) C 1 d_Pl_replaceAll_4 rfl rfl ?_
  refine q_iconst (pc' := 6) C d_Pl_replaceAll_5 ki_0 rfl ?_
  refine q_iconst (pc' := 7) C d_Pl_replaceAll_6 ki_0 rfl ?_
  refine q_iload_n (pc' := 8) C 2 d_Pl_replaceAll_7 rfl rfl ?_
  refine q_callVv (fr' := 1) (lo' := 26) (pc' := 11) C FC_Tb_copyRows lmC_Pl_40 d_Pl_replaceAll_8 (rc o 0) (jCo (ly_3_0 ho).2) (ly_3_0 ho).2 cC_8 [.ref (g.1 p1), .int (0 : Int32), .int (0 : Int32), .int p2] [] rfl rfl (Nat.le_of_ble_eq_true rfl) ⟨rfl, rfl⟩ (fun x h => cC_Tb_copyRows _ g hi σ (rc o 0) (ly_3_0 ho).2 p1 h1 (0 : Int32) (0 : Int32) p2 x h) rfl (fun x1 hx1 => ?_)
  refine q_aload_n (pc' := 12) C 0 d_Pl_replaceAll_11 rfl rfl ?_
  refine q_iload_n (pc' := 13) C 2 d_Pl_replaceAll_12 rfl rfl ?_
  refine pC_Pl_9 (pc' := 16) C o ho d_Pl_replaceAll_13 rfl rfl ?_
  refine q_let (fun σ2 e2 => ?_)
  refine q_state e2 ?_
  refine q_aload_n (pc' := 17) C 0 d_Pl_replaceAll_16 rfl rfl ?_
  refine q_callVv (fr' := 0) (lo' := 0) (pc' := 20) C FC_Pl_restart lmC_Pl_44 d_Pl_replaceAll_17 o (jCo ho) ho cC_3 [] [] rfl rfl (Nat.le_of_ble_eq_true rfl) ⟨rfl, rfl⟩ (fun x h => cC_Pl_restart _ g hi σ2 o ho x h) rfl (fun x3 hx3 => ?_)
  exact q_vret C rfl d_Pl_replaceAll_20 rfl
