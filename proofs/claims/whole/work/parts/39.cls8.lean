/-! the methods of the program, 8 -/
theorem d_FL_endEditing_0 : decode qC_FL_endEditing.1 0 = .ok (.aload_n 0, 1) := by decide +kernel
theorem d_FL_endEditing_1 : decode qC_FL_endEditing.1 1 = .ok (.iconst 0, 1) := by decide +kernel
theorem d_FL_endEditing_2 : decode qC_FL_endEditing.1 2 = .ok (.putfield 71, 3) := by decide +kernel
theorem d_FL_endEditing_5 : decode qC_FL_endEditing.1 5 = .ok (.aload_n 0, 1) := by decide +kernel
theorem d_FL_endEditing_6 : decode qC_FL_endEditing.1 6 = .ok (.getfield 58, 3) := by decide +kernel
theorem d_FL_endEditing_9 : decode qC_FL_endEditing.1 9 = .ok (.iconst 0, 1) := by decide +kernel
theorem d_FL_endEditing_10 : decode qC_FL_endEditing.1 10 = .ok (.putfield 208, 3) := by decide +kernel
theorem d_FL_endEditing_13 : decode qC_FL_endEditing.1 13 = .ok (.return_, 1) := by decide +kernel
set_option maxRecDepth 100000 in
def f_FL_endEditing (σ : St) : Option (St) :=
  Lt (s2 σ 0 10 (0 : Int32)) fun σ1 =>
  Lt (s2 σ1 47 3 (0 : Int32)) fun σ2 =>
  some σ2
set_option maxHeartbeats 4000000 in
set_option maxRecDepth 100000 in
theorem cC_FL_endEditing (l : Launch) (g : Ge) (hi : injB wC.2 g) (σ : St) (x : St) (h : f_FL_endEditing σ = some x) : Ct l wC g yC_FL_endEditing qC_FL_endEditing 0 0 [.ref (g.1 0)] σ (none, x) := by
  refine Ct.of (out := o_v) FC_FL_endEditing rfl hi rfl h (fun z hz C => ?_)
  clear h
  subst hz
  unfold f_FL_endEditing
  show Rt z qC_FL_endEditing wC g o_v 0 [(0, .ref (g.1 0))] [] σ _
  refine q_aload_n (pc' := 1) C 0 d_FL_endEditing_0 rfl rfl ?_
  refine q_iconst (pc' := 2) C d_FL_endEditing_1 ki_0 rfl ?_
  refine pC_FL_71 (pc' := 5) C 0 kC_0 d_FL_endEditing_2 (by decide) rfl rfl ?_
  refine q_let (fun σ1 e1 => ?_)
  refine q_state e1 ?_
  refine q_aload_n (pc' := 6) C 0 d_FL_endEditing_5 rfl rfl ?_
  refine gC_FL_58 (pc' := 9) C 0 47 kC_0 rfl d_FL_endEditing_6 rfl rfl ?_
  refine q_iconst (pc' := 10) C d_FL_endEditing_9 ki_0 rfl ?_
  refine pC_FL_208 (pc' := 13) C 47 kC_47 d_FL_endEditing_10 rfl rfl ?_
  refine q_let (fun σ2 e2 => ?_)
  refine q_state e2 ?_
  exact q_vret C rfl d_FL_endEditing_13 rfl
theorem d_FL_execute_0 : decode qC_FL_execute.1 0 = .ok (.aload_n 0, 1) := by decide +kernel
theorem d_FL_execute_1 : decode qC_FL_execute.1 1 = .ok (.getfield 71, 3) := by decide +kernel
theorem d_FL_execute_4 : decode qC_FL_execute.1 4 = .ok (.ifCond .ne 6, 3) := by decide +kernel
theorem d_FL_execute_7 : decode qC_FL_execute.1 7 = .ok (.ldc 140, 2) := by decide +kernel
theorem d_FL_execute_9 : decode qC_FL_execute.1 9 = .ok (.ireturn, 1) := by decide +kernel
theorem d_FL_execute_10 : decode qC_FL_execute.1 10 = .ok (.aload_n 0, 1) := by decide +kernel
theorem d_FL_execute_11 : decode qC_FL_execute.1 11 = .ok (.getfield 34, 3) := by decide +kernel
theorem d_FL_execute_14 : decode qC_FL_execute.1 14 = .ok (.getfield 218, 3) := by decide +kernel
theorem d_FL_execute_17 : decode qC_FL_execute.1 17 = .ok (.ifCond .eq 11, 3) := by decide +kernel
theorem d_FL_execute_20 : decode qC_FL_execute.1 20 = .ok (.aload_n 0, 1) := by decide +kernel
theorem d_FL_execute_21 : decode qC_FL_execute.1 21 = .ok (.getfield 67, 3) := by decide +kernel
theorem d_FL_execute_24 : decode qC_FL_execute.1 24 = .ok (.iconst 0, 1) := by decide +kernel
theorem d_FL_execute_25 : decode qC_FL_execute.1 25 = .ok (.putfield 221, 3) := by decide +kernel
theorem d_FL_execute_28 : decode qC_FL_execute.1 28 = .ok (.aload_n 0, 1) := by decide +kernel
theorem d_FL_execute_29 : decode qC_FL_execute.1 29 = .ok (.getfield 30, 3) := by decide +kernel
theorem d_FL_execute_32 : decode qC_FL_execute.1 32 = .ok (.aload_n 0, 1) := by decide +kernel
theorem d_FL_execute_33 : decode qC_FL_execute.1 33 = .ok (.getfield 34, 3) := by decide +kernel
theorem d_FL_execute_36 : decode qC_FL_execute.1 36 = .ok (.invokevirtual 224, 3) := by decide +kernel
theorem d_FL_execute_39 : decode qC_FL_execute.1 39 = .ok (.aload_n 0, 1) := by decide +kernel
theorem d_FL_execute_40 : decode qC_FL_execute.1 40 = .ok (.getfield 30, 3) := by decide +kernel
theorem d_FL_execute_43 : decode qC_FL_execute.1 43 = .ok (.iconst 0, 1) := by decide +kernel
theorem d_FL_execute_44 : decode qC_FL_execute.1 44 = .ok (.putfield 218, 3) := by decide +kernel
theorem d_FL_execute_47 : decode qC_FL_execute.1 47 = .ok (.aload_n 0, 1) := by decide +kernel
theorem d_FL_execute_48 : decode qC_FL_execute.1 48 = .ok (.invokevirtual 228, 3) := by decide +kernel
theorem d_FL_execute_51 : decode qC_FL_execute.1 51 = .ok (.aload_n 0, 1) := by decide +kernel
theorem d_FL_execute_52 : decode qC_FL_execute.1 52 = .ok (.invokevirtual 112, 3) := by decide +kernel
theorem d_FL_execute_55 : decode qC_FL_execute.1 55 = .ok (.aload_n 0, 1) := by decide +kernel
theorem d_FL_execute_56 : decode qC_FL_execute.1 56 = .ok (.getfield 30, 3) := by decide +kernel
theorem d_FL_execute_59 : decode qC_FL_execute.1 59 = .ok (.getfield 154, 3) := by decide +kernel
theorem d_FL_execute_62 : decode qC_FL_execute.1 62 = .ok (.ireturn, 1) := by decide +kernel
set_option maxRecDepth 100000 in
def f_FL_execute (σ : St) : Option (Int32 × St) :=
  if ((σ 0 10) : Int32) = 0 then (
  some ((-1000003 : Int32), σ)
  ) else (
  Jn (fun (σ1 : St) =>
  Option.bind (f_Pl_copyFrom σ1 8 11) fun x3 =>
  Lt (s2 x3 8 3 (0 : Int32)) fun σ4 =>
  Option.bind (f_FL_endEditing σ4) fun x5 =>
  Option.bind (f_FL_afterSetting x5) fun x6 =>
  some ((x6 8 1), x6)
  ) fun J2 =>
  if ((σ 11 3) : Int32) = 0 then (
  J2 σ
  ) else (
  Lt (s2 σ 52 2 (0 : Int32)) fun σ7 =>
  J2 σ7
  )
  )
set_option maxHeartbeats 4000000 in
set_option maxRecDepth 100000 in
theorem cC_FL_execute (l : Launch) (g : Ge) (hi : injB wC.2 g) (σ : St) (x : Int32 × St) (h : f_FL_execute σ = some x) : Ct l wC g yC_FL_execute qC_FL_execute 7 171 [.ref (g.1 0)] σ (some (.int x.1), x.2) := by
  refine Ct.of (out := o_w) FC_FL_execute rfl hi rfl h (fun z hz C => ?_)
  clear h
  subst hz
  unfold f_FL_execute
  show Rt z qC_FL_execute wC g o_w 0 [(0, .ref (g.1 0))] [] σ _
  refine q_aload_n (pc' := 1) C 0 d_FL_execute_0 rfl rfl ?_
  refine gC_FL_71 (pc' := 4) C 0 kC_0 d_FL_execute_1 rfl rfl ?_
  refine q_if_ne (tgt := 10) (pc' := 7) C d_FL_execute_4 rfl rfl ?_ ?_
  · refine q_aload_n (pc' := 11) C 0 d_FL_execute_10 rfl rfl ?_
    refine gC_FL_34 (pc' := 14) C 0 11 kC_0 rfl d_FL_execute_11 rfl rfl ?_
    refine gC_FL_218 (pc' := 17) C 11 kC_11 d_FL_execute_14 rfl rfl ?_
    refine q_join (fun J2 : St → Option (Int32 × St) => ∀ (σ1 : St), Rt z qC_FL_execute wC g o_w 28 [(0, .ref (g.1 0))] [] σ1 (J2 σ1)) (fun σ1 => ?_) (fun J2 hJ2 => ?_)
    · refine q_aload_n (pc' := 29) C 0 d_FL_execute_28 rfl rfl ?_
      refine gC_FL_30 (pc' := 32) C 0 8 kC_0 rfl d_FL_execute_29 rfl rfl ?_
      refine q_aload_n (pc' := 33) C 0 d_FL_execute_32 rfl rfl ?_
      refine gC_FL_34 (pc' := 36) C 0 11 kC_0 rfl d_FL_execute_33 rfl rfl ?_
      refine q_callVv (fr' := 2) (lo' := 50) (pc' := 39) C FC_Pl_copyFrom lmC_FL_224 d_FL_execute_36 8 (jCo kC_8) kC_8 cC_3 [.ref (g.1 11)] [] rfl rfl (Nat.le_of_ble_eq_true rfl) ⟨rfl, rfl⟩ (fun x h => cC_Pl_copyFrom _ g hi σ1 8 kC_8 11 kC_11 x h) rfl (fun x3 hx3 => ?_)
      refine q_aload_n (pc' := 40) C 0 d_FL_execute_39 rfl rfl ?_
      refine gC_FL_30 (pc' := 43) C 0 8 kC_0 rfl d_FL_execute_40 rfl rfl ?_
      refine q_iconst (pc' := 44) C d_FL_execute_43 ki_0 rfl ?_
      refine pC_FL_218 (pc' := 47) C 8 kC_8 d_FL_execute_44 (by decide) rfl rfl ?_
      refine q_let (fun σ4 e4 => ?_)
      refine q_state e4 ?_
      refine q_aload_n (pc' := 48) C 0 d_FL_execute_47 rfl rfl ?_
      refine q_callVv (fr' := 0) (lo' := 0) (pc' := 51) C FC_FL_endEditing lmC_FL_228 d_FL_execute_48 0 (jCo kC_0) kC_0 cC_10 [] [] rfl rfl (Nat.le_of_ble_eq_true rfl) ⟨rfl, rfl⟩ (fun x h => cC_FL_endEditing _ g hi σ4 x h) rfl (fun x5 hx5 => ?_)
      refine q_aload_n (pc' := 52) C 0 d_FL_execute_51 rfl rfl ?_
      refine q_callVv (fr' := 6) (lo' := 151) (pc' := 55) C FC_FL_afterSetting lmC_FL_112 d_FL_execute_52 0 (jCo kC_0) kC_0 cC_10 [] [] rfl rfl (Nat.le_of_ble_eq_true rfl) ⟨rfl, rfl⟩ (fun x h => cC_FL_afterSetting _ g hi x5 x h) rfl (fun x6 hx6 => ?_)
      refine q_aload_n (pc' := 56) C 0 d_FL_execute_55 rfl rfl ?_
      refine gC_FL_30 (pc' := 59) C 0 8 kC_0 rfl d_FL_execute_56 rfl rfl ?_
      refine gC_FL_154 (pc' := 62) C 8 kC_8 d_FL_execute_59 rfl rfl ?_
      exact q_iret C rfl d_FL_execute_62 rfl
    refine q_if_eq (tgt := 28) (pc' := 20) C d_FL_execute_17 rfl rfl ?_ ?_
    · exact Rt.sub [0] rfl (hJ2 σ)
    · refine q_aload_n (pc' := 21) C 0 d_FL_execute_20 rfl rfl ?_
      refine gC_FL_67 (pc' := 24) C 0 52 kC_0 rfl d_FL_execute_21 rfl rfl ?_
      refine q_iconst (pc' := 25) C d_FL_execute_24 ki_0 rfl ?_
      refine pC_FL_221 (pc' := 28) C 52 kC_52 d_FL_execute_25 rfl rfl ?_
      refine q_let (fun σ7 e7 => ?_)
      refine q_state e7 ?_
      exact Rt.sub [0] rfl (hJ2 σ7)
  · refine q_ldc (pc' := 9) C lcC_FL_140 d_FL_execute_7 rfl ?_
    exact q_iret C rfl d_FL_execute_9 rfl
theorem d_FL_cancel_0 : decode qC_FL_cancel.1 0 = .ok (.aload_n 0, 1) := by decide +kernel
theorem d_FL_cancel_1 : decode qC_FL_cancel.1 1 = .ok (.getfield 71, 3) := by decide +kernel
theorem d_FL_cancel_4 : decode qC_FL_cancel.1 4 = .ok (.ifCond .ne 6, 3) := by decide +kernel
theorem d_FL_cancel_7 : decode qC_FL_cancel.1 7 = .ok (.ldc 140, 2) := by decide +kernel
theorem d_FL_cancel_9 : decode qC_FL_cancel.1 9 = .ok (.ireturn, 1) := by decide +kernel
theorem d_FL_cancel_10 : decode qC_FL_cancel.1 10 = .ok (.aload_n 0, 1) := by decide +kernel
theorem d_FL_cancel_11 : decode qC_FL_cancel.1 11 = .ok (.invokevirtual 228, 3) := by decide +kernel
theorem d_FL_cancel_14 : decode qC_FL_cancel.1 14 = .ok (.aload_n 0, 1) := by decide +kernel
theorem d_FL_cancel_15 : decode qC_FL_cancel.1 15 = .ok (.getfield 30, 3) := by decide +kernel
theorem d_FL_cancel_18 : decode qC_FL_cancel.1 18 = .ok (.getfield 154, 3) := by decide +kernel
theorem d_FL_cancel_21 : decode qC_FL_cancel.1 21 = .ok (.ireturn, 1) := by decide +kernel
set_option maxRecDepth 100000 in
def f_FL_cancel (σ : St) : Option (Int32 × St) :=
  if ((σ 0 10) : Int32) = 0 then (
  some ((-1000003 : Int32), σ)
  ) else (
  Option.bind (f_FL_endEditing σ) fun x1 =>
  some ((x1 8 1), x1)
  )
set_option maxHeartbeats 4000000 in
set_option maxRecDepth 100000 in
theorem cC_FL_cancel (l : Launch) (g : Ge) (hi : injB wC.2 g) (σ : St) (x : Int32 × St) (h : f_FL_cancel σ = some x) : Ct l wC g yC_FL_cancel qC_FL_cancel 1 20 [.ref (g.1 0)] σ (some (.int x.1), x.2) := by
  refine Ct.of (out := o_w) FC_FL_cancel rfl hi rfl h (fun z hz C => ?_)
  clear h
  subst hz
  unfold f_FL_cancel
  show Rt z qC_FL_cancel wC g o_w 0 [(0, .ref (g.1 0))] [] σ _
  refine q_aload_n (pc' := 1) C 0 d_FL_cancel_0 rfl rfl ?_
  refine gC_FL_71 (pc' := 4) C 0 kC_0 d_FL_cancel_1 rfl rfl ?_
  refine q_if_ne (tgt := 10) (pc' := 7) C d_FL_cancel_4 rfl rfl ?_ ?_
  · refine q_aload_n (pc' := 11) C 0 d_FL_cancel_10 rfl rfl ?_
    refine q_callVv (fr' := 0) (lo' := 0) (pc' := 14) C FC_FL_endEditing lmC_FL_228 d_FL_cancel_11 0 (jCo kC_0) kC_0 cC_10 [] [] rfl rfl (Nat.le_of_ble_eq_true rfl) ⟨rfl, rfl⟩ (fun x h => cC_FL_endEditing _ g hi σ x h) rfl (fun x1 hx1 => ?_)
    refine q_aload_n (pc' := 15) C 0 d_FL_cancel_14 rfl rfl ?_
    refine gC_FL_30 (pc' := 18) C 0 8 kC_0 rfl d_FL_cancel_15 rfl rfl ?_
    refine gC_FL_154 (pc' := 21) C 8 kC_8 d_FL_cancel_18 rfl rfl ?_
    exact q_iret C rfl d_FL_cancel_21 rfl
  · refine q_ldc (pc' := 9) C lcC_FL_140 d_FL_cancel_7 rfl ?_
    exact q_iret C rfl d_FL_cancel_9 rfl
theorem d_FL_fly_0 : decode qC_FL_fly.1 0 = .ok (.iload_n 1, 1) := by decide +kernel
theorem d_FL_fly_1 : decode qC_FL_fly.1 1 = .ok (.iconst 0, 1) := by decide +kernel
theorem d_FL_fly_2 : decode qC_FL_fly.1 2 = .ok (.sipush 2000, 3) := by decide +kernel
theorem d_FL_fly_5 : decode qC_FL_fly.1 5 = .ok (.invokestatic 75, 3) := by decide +kernel
theorem d_FL_fly_8 : decode qC_FL_fly.1 8 = .ok (.ifCond .ne 6, 3) := by decide +kernel
theorem d_FL_fly_11 : decode qC_FL_fly.1 11 = .ok (.ldc 79, 2) := by decide +kernel
theorem d_FL_fly_13 : decode qC_FL_fly.1 13 = .ok (.ireturn, 1) := by decide +kernel
theorem d_FL_fly_14 : decode qC_FL_fly.1 14 = .ok (.aload_n 0, 1) := by decide +kernel
theorem d_FL_fly_15 : decode qC_FL_fly.1 15 = .ok (.getfield 71, 3) := by decide +kernel
theorem d_FL_fly_18 : decode qC_FL_fly.1 18 = .ok (.ifCond .ne 13, 3) := by decide +kernel
theorem d_FL_fly_21 : decode qC_FL_fly.1 21 = .ok (.aload_n 0, 1) := by decide +kernel
theorem d_FL_fly_22 : decode qC_FL_fly.1 22 = .ok (.getfield 30, 3) := by decide +kernel
theorem d_FL_fly_25 : decode qC_FL_fly.1 25 = .ok (.getfield 154, 3) := by decide +kernel
theorem d_FL_fly_28 : decode qC_FL_fly.1 28 = .ok (.ifCond .ne 6, 3) := by decide +kernel
theorem d_FL_fly_31 : decode qC_FL_fly.1 31 = .ok (.ldc 140, 2) := by decide +kernel
theorem d_FL_fly_33 : decode qC_FL_fly.1 33 = .ok (.ireturn, 1) := by decide +kernel
theorem d_FL_fly_34 : decode qC_FL_fly.1 34 = .ok (.aload_n 0, 1) := by decide +kernel
theorem d_FL_fly_35 : decode qC_FL_fly.1 35 = .ok (.getfield 45, 3) := by decide +kernel
theorem d_FL_fly_38 : decode qC_FL_fly.1 38 = .ok (.invokevirtual 231, 3) := by decide +kernel
theorem d_FL_fly_41 : decode qC_FL_fly.1 41 = .ok (.aload_n 0, 1) := by decide +kernel
theorem d_FL_fly_42 : decode qC_FL_fly.1 42 = .ok (.getfield 67, 3) := by decide +kernel
theorem d_FL_fly_45 : decode qC_FL_fly.1 45 = .ok (.iload_n 1, 1) := by decide +kernel
theorem d_FL_fly_46 : decode qC_FL_fly.1 46 = .ok (.invokevirtual 234, 3) := by decide +kernel
theorem d_FL_fly_49 : decode qC_FL_fly.1 49 = .ok (.ireturn, 1) := by decide +kernel
set_option maxRecDepth 100000 in
def f_FL_fly (σ : St) (p1 : Int32) : Option (Int32 × St) :=
  Option.bind (f_FL_within p1 (0 : Int32) (2000 : Int32)) fun x1 =>
  if (x1 : Int32) = 0 then (
  some ((-1000002 : Int32), σ)
  ) else (
  Jn (fun (_ : Unit) =>
  some ((-1000003 : Int32), σ)
  ) fun J2 =>
  if ((σ 0 10) : Int32) = 0 then (
  if ((σ 8 1) : Int32) = 0 then (
  J2 ()
  ) else (
  Option.bind (f_Pa_refresh σ 17) fun x3 =>
  Option.bind (f_Pg_advance x3 52 p1) fun x4 =>
  some (x4.1, x4.2)
  )
  ) else (
  J2 ()
  )
  )
set_option maxHeartbeats 4000000 in
set_option maxRecDepth 100000 in
theorem cC_FL_fly (l : Launch) (g : Ge) (hi : injB wC.2 g) (σ : St) (p1 : Int32) (x : Int32 × St) (h : f_FL_fly σ p1 = some x) : Ct l wC g yC_FL_fly qC_FL_fly 6 151 [.ref (g.1 0), .int p1] σ (some (.int x.1), x.2) := by
  refine Ct.of (out := o_w) FC_FL_fly rfl hi rfl h (fun z hz C => ?_)
  clear h
  subst hz
  unfold f_FL_fly
  show Rt z qC_FL_fly wC g o_w 0 [(0, .ref (g.1 0)), (1, .int p1)] [] σ _
  refine q_iload_n (pc' := 1) C 1 d_FL_fly_0 rfl rfl ?_
  refine q_iconst (pc' := 2) C d_FL_fly_1 ki_0 rfl ?_
  refine q_sipush (pc' := 5) C d_FL_fly_2 ks_2000 rfl ?_
  refine q_callSr (fr' := 0) (lo' := 0) (pc' := 8) C FC_FL_within lmC_FL_75 d_FL_fly_5 [.int p1, .int (0 : Int32), .int (2000 : Int32)] [] rfl rfl (Nat.le_of_ble_eq_true rfl) ⟨rfl, rfl⟩ (fun x h => cC_FL_within _ g hi σ p1 (0 : Int32) (2000 : Int32) x h) rfl (fun x1 hx1 => ?_)
  refine q_if_ne (tgt := 14) (pc' := 11) C d_FL_fly_8 rfl rfl ?_ ?_
  · refine q_aload_n (pc' := 15) C 0 d_FL_fly_14 rfl rfl ?_
    refine gC_FL_71 (pc' := 18) C 0 kC_0 d_FL_fly_15 rfl rfl ?_
    refine q_join (fun J2 : Unit → Option (Int32 × St) => ∀ (_ : Unit), Rt z qC_FL_fly wC g o_w 31 [] [] σ (J2 ())) (fun _ => ?_) (fun J2 hJ2 => ?_)
    · refine q_ldc (pc' := 33) C lcC_FL_140 d_FL_fly_31 rfl ?_
      exact q_iret C rfl d_FL_fly_33 rfl
    refine q_if_ne (tgt := 31) (pc' := 21) C d_FL_fly_18 rfl rfl ?_ ?_
    · exact Rt.sub [] rfl (hJ2 ())
    · refine q_aload_n (pc' := 22) C 0 d_FL_fly_21 rfl rfl ?_
      refine gC_FL_30 (pc' := 25) C 0 8 kC_0 rfl d_FL_fly_22 rfl rfl ?_
      refine gC_FL_154 (pc' := 28) C 8 kC_8 d_FL_fly_25 rfl rfl ?_
      refine q_if_ne (tgt := 34) (pc' := 31) C d_FL_fly_28 rfl rfl ?_ ?_
      · refine q_aload_n (pc' := 35) C 0 d_FL_fly_34 rfl rfl ?_
        refine gC_FL_45 (pc' := 38) C 0 17 kC_0 rfl d_FL_fly_35 rfl rfl ?_
        refine q_callVv (fr' := 5) (lo' := 129) (pc' := 41) C FC_Pa_refresh lmC_FL_231 d_FL_fly_38 17 (jCo kC_17) kC_17 cC_1 [] [] rfl rfl (Nat.le_of_ble_eq_true rfl) ⟨rfl, rfl⟩ (fun x h => cC_Pa_refresh _ g hi σ 17 kC_17 x h) rfl (fun x3 hx3 => ?_)
        refine q_aload_n (pc' := 42) C 0 d_FL_fly_41 rfl rfl ?_
        refine gC_FL_67 (pc' := 45) C 0 52 kC_0 rfl d_FL_fly_42 rfl rfl ?_
        refine q_iload_n (pc' := 46) C 1 d_FL_fly_45 rfl rfl ?_
        refine q_callVw (fr' := 2) (lo' := 43) (pc' := 49) C FC_Pg_advance lmC_FL_234 d_FL_fly_46 52 (jCo kC_52) kC_52 cC_5 [.int p1] [] rfl rfl (Nat.le_of_ble_eq_true rfl) ⟨rfl, rfl⟩ (fun x h => cC_Pg_advance _ g hi x3 52 kC_52 p1 x h) rfl (fun x4 hx4 => ?_)
        exact q_iret C rfl d_FL_fly_49 rfl
      · exact Rt.sub [] rfl (hJ2 ())
  · refine q_ldc (pc' := 13) C lcC_FL_79 d_FL_fly_11 rfl ?_
    exact q_iret C rfl d_FL_fly_13 rfl
theorem d_FL_resume_0 : decode qC_FL_resume.1 0 = .ok (.aload_n 0, 1) := by decide +kernel
theorem d_FL_resume_1 : decode qC_FL_resume.1 1 = .ok (.getfield 71, 3) := by decide +kernel
theorem d_FL_resume_4 : decode qC_FL_resume.1 4 = .ok (.ifCond .eq 6, 3) := by decide +kernel
theorem d_FL_resume_7 : decode qC_FL_resume.1 7 = .ok (.ldc 140, 2) := by decide +kernel
theorem d_FL_resume_9 : decode qC_FL_resume.1 9 = .ok (.ireturn, 1) := by decide +kernel
theorem d_FL_resume_10 : decode qC_FL_resume.1 10 = .ok (.aload_n 0, 1) := by decide +kernel
theorem d_FL_resume_11 : decode qC_FL_resume.1 11 = .ok (.getfield 45, 3) := by decide +kernel
theorem d_FL_resume_14 : decode qC_FL_resume.1 14 = .ok (.invokevirtual 231, 3) := by decide +kernel
theorem d_FL_resume_17 : decode qC_FL_resume.1 17 = .ok (.aload_n 0, 1) := by decide +kernel
theorem d_FL_resume_18 : decode qC_FL_resume.1 18 = .ok (.getfield 67, 3) := by decide +kernel
theorem d_FL_resume_21 : decode qC_FL_resume.1 21 = .ok (.invokevirtual 238, 3) := by decide +kernel
theorem d_FL_resume_24 : decode qC_FL_resume.1 24 = .ok (.ifCond .ne 6, 3) := by decide +kernel
theorem d_FL_resume_27 : decode qC_FL_resume.1 27 = .ok (.ldc 140, 2) := by decide +kernel
theorem d_FL_resume_29 : decode qC_FL_resume.1 29 = .ok (.ireturn, 1) := by decide +kernel
theorem d_FL_resume_30 : decode qC_FL_resume.1 30 = .ok (.aload_n 0, 1) := by decide +kernel
theorem d_FL_resume_31 : decode qC_FL_resume.1 31 = .ok (.getfield 67, 3) := by decide +kernel
theorem d_FL_resume_34 : decode qC_FL_resume.1 34 = .ok (.invokevirtual 241, 3) := by decide +kernel
theorem d_FL_resume_37 : decode qC_FL_resume.1 37 = .ok (.aload_n 0, 1) := by decide +kernel
theorem d_FL_resume_38 : decode qC_FL_resume.1 38 = .ok (.getfield 30, 3) := by decide +kernel
theorem d_FL_resume_41 : decode qC_FL_resume.1 41 = .ok (.getfield 160, 3) := by decide +kernel
theorem d_FL_resume_44 : decode qC_FL_resume.1 44 = .ok (.ireturn, 1) := by decide +kernel
set_option maxRecDepth 100000 in
def f_FL_resume (σ : St) : Option (Int32 × St) :=
  if ((σ 0 10) : Int32) = 0 then (
  Option.bind (f_Pa_refresh σ 17) fun x1 =>
  Option.bind (f_Pg_waitsAtGap x1 52) fun x2 =>
  if (x2 : Int32) = 0 then (
  some ((-1000003 : Int32), x1)
  ) else (
  Option.bind (f_Pg_beginNextLeg x1 52) fun x3 =>
  some ((x3 8 2), x3)
  )
  ) else (
  some ((-1000003 : Int32), σ)
  )
set_option maxHeartbeats 4000000 in
set_option maxRecDepth 100000 in
theorem cC_FL_resume (l : Launch) (g : Ge) (hi : injB wC.2 g) (σ : St) (x : Int32 × St) (h : f_FL_resume σ = some x) : Ct l wC g yC_FL_resume qC_FL_resume 6 151 [.ref (g.1 0)] σ (some (.int x.1), x.2) := by
  refine Ct.of (out := o_w) FC_FL_resume rfl hi rfl h (fun z hz C => ?_)
  clear h
  subst hz
  unfold f_FL_resume
  show Rt z qC_FL_resume wC g o_w 0 [(0, .ref (g.1 0))] [] σ _
  refine q_aload_n (pc' := 1) C 0 d_FL_resume_0 rfl rfl ?_
  refine gC_FL_71 (pc' := 4) C 0 kC_0 d_FL_resume_1 rfl rfl ?_
  refine q_if_eq (tgt := 10) (pc' := 7) C d_FL_resume_4 rfl rfl ?_ ?_
  · refine q_aload_n (pc' := 11) C 0 d_FL_resume_10 rfl rfl ?_
    refine gC_FL_45 (pc' := 14) C 0 17 kC_0 rfl d_FL_resume_11 rfl rfl ?_
    refine q_callVv (fr' := 5) (lo' := 129) (pc' := 17) C FC_Pa_refresh lmC_FL_231 d_FL_resume_14 17 (jCo kC_17) kC_17 cC_1 [] [] rfl rfl (Nat.le_of_ble_eq_true rfl) ⟨rfl, rfl⟩ (fun x h => cC_Pa_refresh _ g hi σ 17 kC_17 x h) rfl (fun x1 hx1 => ?_)
    refine q_aload_n (pc' := 18) C 0 d_FL_resume_17 rfl rfl ?_
    refine gC_FL_67 (pc' := 21) C 0 52 kC_0 rfl d_FL_resume_18 rfl rfl ?_
    refine q_callVr (fr' := 2) (lo' := 43) (pc' := 24) C FC_Pg_waitsAtGap lmC_FL_238 d_FL_resume_21 52 (jCo kC_52) kC_52 cC_5 [] [] rfl rfl (Nat.le_of_ble_eq_true rfl) ⟨rfl, rfl⟩ (fun x h => cC_Pg_waitsAtGap _ g hi x1 52 kC_52 x h) rfl (fun x2 hx2 => ?_)
    refine q_if_ne (tgt := 30) (pc' := 27) C d_FL_resume_24 rfl rfl ?_ ?_
    · refine q_aload_n (pc' := 31) C 0 d_FL_resume_30 rfl rfl ?_
      refine gC_FL_67 (pc' := 34) C 0 52 kC_0 rfl d_FL_resume_31 rfl rfl ?_
      refine q_callVv (fr' := 0) (lo' := 0) (pc' := 37) C FC_Pg_beginNextLeg lmC_FL_241 d_FL_resume_34 52 (jCo kC_52) kC_52 cC_5 [] [] rfl rfl (Nat.le_of_ble_eq_true rfl) ⟨rfl, rfl⟩ (fun x h => cC_Pg_beginNextLeg _ g hi x1 52 kC_52 x h) rfl (fun x3 hx3 => ?_)
      refine q_aload_n (pc' := 38) C 0 d_FL_resume_37 rfl rfl ?_
      refine gC_FL_30 (pc' := 41) C 0 8 kC_0 rfl d_FL_resume_38 rfl rfl ?_
      refine gC_FL_160 (pc' := 44) C 8 kC_8 d_FL_resume_41 rfl rfl ?_
      exact q_iret C rfl d_FL_resume_44 rfl
    · refine q_ldc (pc' := 29) C lcC_FL_140 d_FL_resume_27 rfl ?_
      exact q_iret C rfl d_FL_resume_29 rfl
  · refine q_ldc (pc' := 9) C lcC_FL_140 d_FL_resume_7 rfl ?_
    exact q_iret C rfl d_FL_resume_9 rfl
theorem d_FL_currentLeg_0 : decode qC_FL_currentLeg.1 0 = .ok (.aload_n 0, 1) := by decide +kernel
theorem d_FL_currentLeg_1 : decode qC_FL_currentLeg.1 1 = .ok (.getfield 30, 3) := by decide +kernel
theorem d_FL_currentLeg_4 : decode qC_FL_currentLeg.1 4 = .ok (.getfield 154, 3) := by decide +kernel
theorem d_FL_currentLeg_7 : decode qC_FL_currentLeg.1 7 = .ok (.ifCond .ne 8, 3) := by decide +kernel
theorem d_FL_currentLeg_10 : decode qC_FL_currentLeg.1 10 = .ok (.ldc 139, 2) := by decide +kernel
theorem d_FL_currentLeg_12 : decode qC_FL_currentLeg.1 12 = .ok (.goto 10, 3) := by decide +kernel
theorem d_FL_currentLeg_15 : decode qC_FL_currentLeg.1 15 = .ok (.aload_n 0, 1) := by decide +kernel
theorem d_FL_currentLeg_16 : decode qC_FL_currentLeg.1 16 = .ok (.getfield 30, 3) := by decide +kernel
theorem d_FL_currentLeg_19 : decode qC_FL_currentLeg.1 19 = .ok (.getfield 160, 3) := by decide +kernel
theorem d_FL_currentLeg_22 : decode qC_FL_currentLeg.1 22 = .ok (.ireturn, 1) := by decide +kernel
set_option maxRecDepth 100000 in
def f_FL_currentLeg (σ : St) : Option (Int32) :=
  Jn (fun (x1 : Int32) =>
  some x1
  ) fun J2 =>
  if ((σ 8 1) : Int32) = 0 then (
  J2 (-1000000 : Int32)
  ) else (
  J2 (σ 8 2)
  )
set_option maxHeartbeats 4000000 in
set_option maxRecDepth 100000 in
theorem cC_FL_currentLeg (l : Launch) (g : Ge) (hi : injB wC.2 g) (σ : St) (x : Int32) (h : f_FL_currentLeg σ = some x) : Ct l wC g yC_FL_currentLeg qC_FL_currentLeg 0 0 [.ref (g.1 0)] σ (some (.int x), σ) := by
  refine Ct.of (out := (o_r σ)) FC_FL_currentLeg rfl hi rfl h (fun z hz C => ?_)
  clear h
  subst hz
  unfold f_FL_currentLeg
  show Rt z qC_FL_currentLeg wC g (o_r σ) 0 [(0, .ref (g.1 0))] [] σ _
  refine q_aload_n (pc' := 1) C 0 d_FL_currentLeg_0 rfl rfl ?_
  refine gC_FL_30 (pc' := 4) C 0 8 kC_0 rfl d_FL_currentLeg_1 rfl rfl ?_
  refine gC_FL_154 (pc' := 7) C 8 kC_8 d_FL_currentLeg_4 rfl rfl ?_
  refine q_join (fun J2 : Int32 → Option (Int32) => ∀ (x1 : Int32), Rt z qC_FL_currentLeg wC g (o_r σ) 22 [] [.int x1] σ (J2 x1)) (fun x1 => ?_) (fun J2 hJ2 => ?_)
  · exact q_iret C rfl d_FL_currentLeg_22 rfl
  refine q_if_ne (tgt := 15) (pc' := 10) C d_FL_currentLeg_7 rfl rfl ?_ ?_
  · refine q_aload_n (pc' := 16) C 0 d_FL_currentLeg_15 rfl rfl ?_
    refine gC_FL_30 (pc' := 19) C 0 8 kC_0 rfl d_FL_currentLeg_16 rfl rfl ?_
    refine gC_FL_160 (pc' := 22) C 8 kC_8 d_FL_currentLeg_19 rfl rfl ?_
    exact Rt.sub [] rfl (hJ2 (σ 8 2))
  · refine q_ldc (pc' := 12) C lcC_FL_139 d_FL_currentLeg_10 rfl ?_
    refine q_goto (tgt := 22) C d_FL_currentLeg_12 rfl ?_
    exact Rt.sub [] rfl (hJ2 (-1000000 : Int32))
theorem d_FL_flownLength_0 : decode qC_FL_flownLength.1 0 = .ok (.aload_n 0, 1) := by decide +kernel
theorem d_FL_flownLength_1 : decode qC_FL_flownLength.1 1 = .ok (.getfield 30, 3) := by decide +kernel
theorem d_FL_flownLength_4 : decode qC_FL_flownLength.1 4 = .ok (.getfield 154, 3) := by decide +kernel
theorem d_FL_flownLength_7 : decode qC_FL_flownLength.1 7 = .ok (.ifCond .ne 8, 3) := by decide +kernel
theorem d_FL_flownLength_10 : decode qC_FL_flownLength.1 10 = .ok (.ldc 139, 2) := by decide +kernel
theorem d_FL_flownLength_12 : decode qC_FL_flownLength.1 12 = .ok (.goto 10, 3) := by decide +kernel
theorem d_FL_flownLength_15 : decode qC_FL_flownLength.1 15 = .ok (.aload_n 0, 1) := by decide +kernel
theorem d_FL_flownLength_16 : decode qC_FL_flownLength.1 16 = .ok (.getfield 67, 3) := by decide +kernel
theorem d_FL_flownLength_19 : decode qC_FL_flownLength.1 19 = .ok (.getfield 221, 3) := by decide +kernel
theorem d_FL_flownLength_22 : decode qC_FL_flownLength.1 22 = .ok (.ireturn, 1) := by decide +kernel
set_option maxRecDepth 100000 in
def f_FL_flownLength (σ : St) : Option (Int32) :=
  Jn (fun (x1 : Int32) =>
  some x1
  ) fun J2 =>
  if ((σ 8 1) : Int32) = 0 then (
  J2 (-1000000 : Int32)
  ) else (
  J2 (σ 52 2)
  )
set_option maxHeartbeats 4000000 in
set_option maxRecDepth 100000 in
theorem cC_FL_flownLength (l : Launch) (g : Ge) (hi : injB wC.2 g) (σ : St) (x : Int32) (h : f_FL_flownLength σ = some x) : Ct l wC g yC_FL_flownLength qC_FL_flownLength 0 0 [.ref (g.1 0)] σ (some (.int x), σ) := by
  refine Ct.of (out := (o_r σ)) FC_FL_flownLength rfl hi rfl h (fun z hz C => ?_)
  clear h
  subst hz
  unfold f_FL_flownLength
  show Rt z qC_FL_flownLength wC g (o_r σ) 0 [(0, .ref (g.1 0))] [] σ _
  refine q_aload_n (pc' := 1) C 0 d_FL_flownLength_0 rfl rfl ?_
  refine gC_FL_30 (pc' := 4) C 0 8 kC_0 rfl d_FL_flownLength_1 rfl rfl ?_
  refine gC_FL_154 (pc' := 7) C 8 kC_8 d_FL_flownLength_4 rfl rfl ?_
  refine q_join (fun J2 : Int32 → Option (Int32) => ∀ (x1 : Int32), Rt z qC_FL_flownLength wC g (o_r σ) 22 [] [.int x1] σ (J2 x1)) (fun x1 => ?_) (fun J2 hJ2 => ?_)
  · exact q_iret C rfl d_FL_flownLength_22 rfl
  refine q_if_ne (tgt := 15) (pc' := 10) C d_FL_flownLength_7 rfl rfl ?_ ?_
  · refine q_aload_n (pc' := 16) C 0 d_FL_flownLength_15 rfl rfl ?_
    refine gC_FL_67 (pc' := 19) C 0 52 kC_0 rfl d_FL_flownLength_16 rfl rfl ?_
    refine gC_FL_221 (pc' := 22) C 52 kC_52 d_FL_flownLength_19 rfl rfl ?_
    exact Rt.sub [] rfl (hJ2 (σ 52 2))
  · refine q_ldc (pc' := 12) C lcC_FL_139 d_FL_flownLength_10 rfl ?_
    refine q_goto (tgt := 22) C d_FL_flownLength_12 rfl ?_
    exact Rt.sub [] rfl (hJ2 (-1000000 : Int32))
theorem d_FL_positionX_0 : decode qC_FL_positionX.1 0 = .ok (.aload_n 0, 1) := by decide +kernel
theorem d_FL_positionX_1 : decode qC_FL_positionX.1 1 = .ok (.invokevirtual 191, 3) := by decide +kernel
theorem d_FL_positionX_4 : decode qC_FL_positionX.1 4 = .ok (.ifCond .eq 13, 3) := by decide +kernel
theorem d_FL_positionX_7 : decode qC_FL_positionX.1 7 = .ok (.aload_n 0, 1) := by decide +kernel
theorem d_FL_positionX_8 : decode qC_FL_positionX.1 8 = .ok (.getfield 67, 3) := by decide +kernel
theorem d_FL_positionX_11 : decode qC_FL_positionX.1 11 = .ok (.getfield 195, 3) := by decide +kernel
theorem d_FL_positionX_14 : decode qC_FL_positionX.1 14 = .ok (.goto 5, 3) := by decide +kernel
theorem d_FL_positionX_17 : decode qC_FL_positionX.1 17 = .ok (.ldc 139, 2) := by decide +kernel
theorem d_FL_positionX_19 : decode qC_FL_positionX.1 19 = .ok (.ireturn, 1) := by decide +kernel
set_option maxRecDepth 100000 in
def f_FL_positionX (σ : St) : Option (Int32 × St) :=
  Option.bind (f_FL_hasPosition σ) fun x1 =>
  Jn (fun (x2 : Int32) =>
  some (x2, x1.2)
  ) fun J3 =>
  if (x1.1 : Int32) = 0 then (
  J3 (-1000000 : Int32)
  ) else (
  J3 (x1.2 52 3)
  )
set_option maxHeartbeats 4000000 in
set_option maxRecDepth 100000 in
theorem cC_FL_positionX (l : Launch) (g : Ge) (hi : injB wC.2 g) (σ : St) (x : Int32 × St) (h : f_FL_positionX σ = some x) : Ct l wC g yC_FL_positionX qC_FL_positionX 7 171 [.ref (g.1 0)] σ (some (.int x.1), x.2) := by
  refine Ct.of (out := o_w) FC_FL_positionX rfl hi rfl h (fun z hz C => ?_)
  clear h
  subst hz
  unfold f_FL_positionX
  show Rt z qC_FL_positionX wC g o_w 0 [(0, .ref (g.1 0))] [] σ _
  refine q_aload_n (pc' := 1) C 0 d_FL_positionX_0 rfl rfl ?_
  refine q_callVw (fr' := 6) (lo' := 151) (pc' := 4) C FC_FL_hasPosition lmC_FL_191 d_FL_positionX_1 0 (jCo kC_0) kC_0 cC_10 [] [] rfl rfl (Nat.le_of_ble_eq_true rfl) ⟨rfl, rfl⟩ (fun x h => cC_FL_hasPosition _ g hi σ x h) rfl (fun x1 hx1 => ?_)
  refine q_join (fun J3 : Int32 → Option (Int32 × St) => ∀ (x2 : Int32), Rt z qC_FL_positionX wC g o_w 19 [] [.int x2] x1.2 (J3 x2)) (fun x2 => ?_) (fun J3 hJ3 => ?_)
  · exact q_iret C rfl d_FL_positionX_19 rfl
  refine q_if_eq (tgt := 17) (pc' := 7) C d_FL_positionX_4 rfl rfl ?_ ?_
  · refine q_ldc (pc' := 19) C lcC_FL_139 d_FL_positionX_17 rfl ?_
    exact Rt.sub [] rfl (hJ3 (-1000000 : Int32))
  · refine q_aload_n (pc' := 8) C 0 d_FL_positionX_7 rfl rfl ?_
    refine gC_FL_67 (pc' := 11) C 0 52 kC_0 rfl d_FL_positionX_8 rfl rfl ?_
    refine gC_FL_195 (pc' := 14) C 52 kC_52 d_FL_positionX_11 rfl rfl ?_
    refine q_goto (tgt := 19) C d_FL_positionX_14 rfl ?_
    exact Rt.sub [] rfl (hJ3 (x1.2 52 3))
theorem d_FL_positionY_0 : decode qC_FL_positionY.1 0 = .ok (.aload_n 0, 1) := by decide +kernel
theorem d_FL_positionY_1 : decode qC_FL_positionY.1 1 = .ok (.invokevirtual 191, 3) := by decide +kernel
theorem d_FL_positionY_4 : decode qC_FL_positionY.1 4 = .ok (.ifCond .eq 13, 3) := by decide +kernel
theorem d_FL_positionY_7 : decode qC_FL_positionY.1 7 = .ok (.aload_n 0, 1) := by decide +kernel
theorem d_FL_positionY_8 : decode qC_FL_positionY.1 8 = .ok (.getfield 67, 3) := by decide +kernel
theorem d_FL_positionY_11 : decode qC_FL_positionY.1 11 = .ok (.getfield 198, 3) := by decide +kernel
theorem d_FL_positionY_14 : decode qC_FL_positionY.1 14 = .ok (.goto 5, 3) := by decide +kernel
theorem d_FL_positionY_17 : decode qC_FL_positionY.1 17 = .ok (.ldc 139, 2) := by decide +kernel
theorem d_FL_positionY_19 : decode qC_FL_positionY.1 19 = .ok (.ireturn, 1) := by decide +kernel
set_option maxRecDepth 100000 in
def f_FL_positionY (σ : St) : Option (Int32 × St) :=
  Option.bind (f_FL_hasPosition σ) fun x1 =>
  Jn (fun (x2 : Int32) =>
  some (x2, x1.2)
  ) fun J3 =>
  if (x1.1 : Int32) = 0 then (
  J3 (-1000000 : Int32)
  ) else (
  J3 (x1.2 52 4)
  )
set_option maxHeartbeats 4000000 in
set_option maxRecDepth 100000 in
theorem cC_FL_positionY (l : Launch) (g : Ge) (hi : injB wC.2 g) (σ : St) (x : Int32 × St) (h : f_FL_positionY σ = some x) : Ct l wC g yC_FL_positionY qC_FL_positionY 7 171 [.ref (g.1 0)] σ (some (.int x.1), x.2) := by
  refine Ct.of (out := o_w) FC_FL_positionY rfl hi rfl h (fun z hz C => ?_)
  clear h
  subst hz
  unfold f_FL_positionY
  show Rt z qC_FL_positionY wC g o_w 0 [(0, .ref (g.1 0))] [] σ _
  refine q_aload_n (pc' := 1) C 0 d_FL_positionY_0 rfl rfl ?_
  refine q_callVw (fr' := 6) (lo' := 151) (pc' := 4) C FC_FL_hasPosition lmC_FL_191 d_FL_positionY_1 0 (jCo kC_0) kC_0 cC_10 [] [] rfl rfl (Nat.le_of_ble_eq_true rfl) ⟨rfl, rfl⟩ (fun x h => cC_FL_hasPosition _ g hi σ x h) rfl (fun x1 hx1 => ?_)
  refine q_join (fun J3 : Int32 → Option (Int32 × St) => ∀ (x2 : Int32), Rt z qC_FL_positionY wC g o_w 19 [] [.int x2] x1.2 (J3 x2)) (fun x2 => ?_) (fun J3 hJ3 => ?_)
  · exact q_iret C rfl d_FL_positionY_19 rfl
  refine q_if_eq (tgt := 17) (pc' := 7) C d_FL_positionY_4 rfl rfl ?_ ?_
  · refine q_ldc (pc' := 19) C lcC_FL_139 d_FL_positionY_17 rfl ?_
    exact Rt.sub [] rfl (hJ3 (-1000000 : Int32))
  · refine q_aload_n (pc' := 8) C 0 d_FL_positionY_7 rfl rfl ?_
    refine gC_FL_67 (pc' := 11) C 0 52 kC_0 rfl d_FL_positionY_8 rfl rfl ?_
    refine gC_FL_198 (pc' := 14) C 52 kC_52 d_FL_positionY_11 rfl rfl ?_
    refine q_goto (tgt := 19) C d_FL_positionY_14 rfl ?_
    exact Rt.sub [] rfl (hJ3 (x1.2 52 4))
theorem d_FL_presentCourse_0 : decode qC_FL_presentCourse.1 0 = .ok (.aload_n 0, 1) := by decide +kernel
theorem d_FL_presentCourse_1 : decode qC_FL_presentCourse.1 1 = .ok (.invokevirtual 191, 3) := by decide +kernel
theorem d_FL_presentCourse_4 : decode qC_FL_presentCourse.1 4 = .ok (.ifCond .eq 13, 3) := by decide +kernel
theorem d_FL_presentCourse_7 : decode qC_FL_presentCourse.1 7 = .ok (.aload_n 0, 1) := by decide +kernel
theorem d_FL_presentCourse_8 : decode qC_FL_presentCourse.1 8 = .ok (.getfield 67, 3) := by decide +kernel
theorem d_FL_presentCourse_11 : decode qC_FL_presentCourse.1 11 = .ok (.getfield 201, 3) := by decide +kernel
theorem d_FL_presentCourse_14 : decode qC_FL_presentCourse.1 14 = .ok (.goto 5, 3) := by decide +kernel
theorem d_FL_presentCourse_17 : decode qC_FL_presentCourse.1 17 = .ok (.ldc 139, 2) := by decide +kernel
theorem d_FL_presentCourse_19 : decode qC_FL_presentCourse.1 19 = .ok (.ireturn, 1) := by decide +kernel
set_option maxRecDepth 100000 in
def f_FL_presentCourse (σ : St) : Option (Int32 × St) :=
  Option.bind (f_FL_hasPosition σ) fun x1 =>
  Jn (fun (x2 : Int32) =>
  some (x2, x1.2)
  ) fun J3 =>
  if (x1.1 : Int32) = 0 then (
  J3 (-1000000 : Int32)
  ) else (
  J3 (x1.2 52 5)
  )
set_option maxHeartbeats 4000000 in
set_option maxRecDepth 100000 in
theorem cC_FL_presentCourse (l : Launch) (g : Ge) (hi : injB wC.2 g) (σ : St) (x : Int32 × St) (h : f_FL_presentCourse σ = some x) : Ct l wC g yC_FL_presentCourse qC_FL_presentCourse 7 171 [.ref (g.1 0)] σ (some (.int x.1), x.2) := by
  refine Ct.of (out := o_w) FC_FL_presentCourse rfl hi rfl h (fun z hz C => ?_)
  clear h
  subst hz
  unfold f_FL_presentCourse
  show Rt z qC_FL_presentCourse wC g o_w 0 [(0, .ref (g.1 0))] [] σ _
  refine q_aload_n (pc' := 1) C 0 d_FL_presentCourse_0 rfl rfl ?_
  refine q_callVw (fr' := 6) (lo' := 151) (pc' := 4) C FC_FL_hasPosition lmC_FL_191 d_FL_presentCourse_1 0 (jCo kC_0) kC_0 cC_10 [] [] rfl rfl (Nat.le_of_ble_eq_true rfl) ⟨rfl, rfl⟩ (fun x h => cC_FL_hasPosition _ g hi σ x h) rfl (fun x1 hx1 => ?_)
  refine q_join (fun J3 : Int32 → Option (Int32 × St) => ∀ (x2 : Int32), Rt z qC_FL_presentCourse wC g o_w 19 [] [.int x2] x1.2 (J3 x2)) (fun x2 => ?_) (fun J3 hJ3 => ?_)
  · exact q_iret C rfl d_FL_presentCourse_19 rfl
  refine q_if_eq (tgt := 17) (pc' := 7) C d_FL_presentCourse_4 rfl rfl ?_ ?_
  · refine q_ldc (pc' := 19) C lcC_FL_139 d_FL_presentCourse_17 rfl ?_
    exact Rt.sub [] rfl (hJ3 (-1000000 : Int32))
  · refine q_aload_n (pc' := 8) C 0 d_FL_presentCourse_7 rfl rfl ?_
    refine gC_FL_67 (pc' := 11) C 0 52 kC_0 rfl d_FL_presentCourse_8 rfl rfl ?_
    refine gC_FL_201 (pc' := 14) C 52 kC_52 d_FL_presentCourse_11 rfl rfl ?_
    refine q_goto (tgt := 19) C d_FL_presentCourse_14 rfl ?_
    exact Rt.sub [] rfl (hJ3 (x1.2 52 5))
theorem d_FL_directSaving_0 : decode qC_FL_directSaving.1 0 = .ok (.aload_n 0, 1) := by decide +kernel
theorem d_FL_directSaving_1 : decode qC_FL_directSaving.1 1 = .ok (.getfield 30, 3) := by decide +kernel
theorem d_FL_directSaving_4 : decode qC_FL_directSaving.1 4 = .ok (.iload_n 1, 1) := by decide +kernel
theorem d_FL_directSaving_5 : decode qC_FL_directSaving.1 5 = .ok (.invokevirtual 174, 3) := by decide +kernel
theorem d_FL_directSaving_8 : decode qC_FL_directSaving.1 8 = .ok (.ifCond .ne 6, 3) := by decide +kernel
theorem d_FL_directSaving_11 : decode qC_FL_directSaving.1 11 = .ok (.ldc 159, 2) := by decide +kernel
theorem d_FL_directSaving_13 : decode qC_FL_directSaving.1 13 = .ok (.ireturn, 1) := by decide +kernel
theorem d_FL_directSaving_14 : decode qC_FL_directSaving.1 14 = .ok (.iload_n 1, 1) := by decide +kernel
theorem d_FL_directSaving_15 : decode qC_FL_directSaving.1 15 = .ok (.aload_n 0, 1) := by decide +kernel
theorem d_FL_directSaving_16 : decode qC_FL_directSaving.1 16 = .ok (.getfield 30, 3) := by decide +kernel
theorem d_FL_directSaving_19 : decode qC_FL_directSaving.1 19 = .ok (.getfield 160, 3) := by decide +kernel
theorem d_FL_directSaving_22 : decode qC_FL_directSaving.1 22 = .ok (.if_icmp .lt 27, 3) := by decide +kernel
theorem d_FL_directSaving_25 : decode qC_FL_directSaving.1 25 = .ok (.aload_n 0, 1) := by decide +kernel
theorem d_FL_directSaving_26 : decode qC_FL_directSaving.1 26 = .ok (.getfield 30, 3) := by decide +kernel
theorem d_FL_directSaving_29 : decode qC_FL_directSaving.1 29 = .ok (.getfield 180, 3) := by decide +kernel
theorem d_FL_directSaving_32 : decode qC_FL_directSaving.1 32 = .ok (.iload_n 1, 1) := by decide +kernel
theorem d_FL_directSaving_33 : decode qC_FL_directSaving.1 33 = .ok (.iconst 1, 1) := by decide +kernel
theorem d_FL_directSaving_34 : decode qC_FL_directSaving.1 34 = .ok (.invokevirtual 163, 3) := by decide +kernel
theorem d_FL_directSaving_37 : decode qC_FL_directSaving.1 37 = .ok (.ldc 139, 2) := by decide +kernel
theorem d_FL_directSaving_39 : decode qC_FL_directSaving.1 39 = .ok (.if_icmp .eq 10, 3) := by decide +kernel
theorem d_FL_directSaving_42 : decode qC_FL_directSaving.1 42 = .ok (.aload_n 0, 1) := by decide +kernel
theorem d_FL_directSaving_43 : decode qC_FL_directSaving.1 43 = .ok (.invokevirtual 191, 3) := by decide +kernel
theorem d_FL_directSaving_46 : decode qC_FL_directSaving.1 46 = .ok (.ifCond .ne 6, 3) := by decide +kernel
theorem d_FL_directSaving_49 : decode qC_FL_directSaving.1 49 = .ok (.ldc 140, 2) := by decide +kernel
theorem d_FL_directSaving_51 : decode qC_FL_directSaving.1 51 = .ok (.ireturn, 1) := by decide +kernel
theorem d_FL_directSaving_52 : decode qC_FL_directSaving.1 52 = .ok (.aload_n 0, 1) := by decide +kernel
theorem d_FL_directSaving_53 : decode qC_FL_directSaving.1 53 = .ok (.getfield 37, 3) := by decide +kernel
theorem d_FL_directSaving_56 : decode qC_FL_directSaving.1 56 = .ok (.aload_n 0, 1) := by decide +kernel
theorem d_FL_directSaving_57 : decode qC_FL_directSaving.1 57 = .ok (.getfield 30, 3) := by decide +kernel
theorem d_FL_directSaving_60 : decode qC_FL_directSaving.1 60 = .ok (.invokevirtual 224, 3) := by decide +kernel
theorem d_FL_directSaving_63 : decode qC_FL_directSaving.1 63 = .ok (.aload_n 0, 1) := by decide +kernel
theorem d_FL_directSaving_64 : decode qC_FL_directSaving.1 64 = .ok (.getfield 37, 3) := by decide +kernel
theorem d_FL_directSaving_67 : decode qC_FL_directSaving.1 67 = .ok (.iload_n 1, 1) := by decide +kernel
theorem d_FL_directSaving_68 : decode qC_FL_directSaving.1 68 = .ok (.aload_n 0, 1) := by decide +kernel
theorem d_FL_directSaving_69 : decode qC_FL_directSaving.1 69 = .ok (.getfield 67, 3) := by decide +kernel
theorem d_FL_directSaving_72 : decode qC_FL_directSaving.1 72 = .ok (.getfield 195, 3) := by decide +kernel
theorem d_FL_directSaving_75 : decode qC_FL_directSaving.1 75 = .ok (.aload_n 0, 1) := by decide +kernel
theorem d_FL_directSaving_76 : decode qC_FL_directSaving.1 76 = .ok (.getfield 67, 3) := by decide +kernel
theorem d_FL_directSaving_79 : decode qC_FL_directSaving.1 79 = .ok (.getfield 198, 3) := by decide +kernel
theorem d_FL_directSaving_82 : decode qC_FL_directSaving.1 82 = .ok (.aload_n 0, 1) := by decide +kernel
theorem d_FL_directSaving_83 : decode qC_FL_directSaving.1 83 = .ok (.getfield 67, 3) := by decide +kernel
theorem d_FL_directSaving_86 : decode qC_FL_directSaving.1 86 = .ok (.getfield 201, 3) := by decide +kernel
theorem d_FL_directSaving_89 : decode qC_FL_directSaving.1 89 = .ok (.invokevirtual 204, 3) := by decide +kernel
theorem d_FL_directSaving_92 : decode qC_FL_directSaving.1 92 = .ok (.aload_n 0, 1) := by decide +kernel
theorem d_FL_directSaving_93 : decode qC_FL_directSaving.1 93 = .ok (.getfield 52, 3) := by decide +kernel
theorem d_FL_directSaving_96 : decode qC_FL_directSaving.1 96 = .ok (.iconst 1, 1) := by decide +kernel
theorem d_FL_directSaving_97 : decode qC_FL_directSaving.1 97 = .ok (.putfield 215, 3) := by decide +kernel
theorem d_FL_directSaving_100 : decode qC_FL_directSaving.1 100 = .ok (.aload_n 0, 1) := by decide +kernel
theorem d_FL_directSaving_101 : decode qC_FL_directSaving.1 101 = .ok (.getfield 52, 3) := by decide +kernel
theorem d_FL_directSaving_104 : decode qC_FL_directSaving.1 104 = .ok (.invokevirtual 231, 3) := by decide +kernel
theorem d_FL_directSaving_107 : decode qC_FL_directSaving.1 107 = .ok (.aload_n 0, 1) := by decide +kernel
theorem d_FL_directSaving_108 : decode qC_FL_directSaving.1 108 = .ok (.getfield 45, 3) := by decide +kernel
theorem d_FL_directSaving_111 : decode qC_FL_directSaving.1 111 = .ok (.aload_n 0, 1) := by decide +kernel
theorem d_FL_directSaving_112 : decode qC_FL_directSaving.1 112 = .ok (.getfield 30, 3) := by decide +kernel
theorem d_FL_directSaving_115 : decode qC_FL_directSaving.1 115 = .ok (.getfield 160, 3) := by decide +kernel
theorem d_FL_directSaving_118 : decode qC_FL_directSaving.1 118 = .ok (.iload_n 1, 1) := by decide +kernel
theorem d_FL_directSaving_119 : decode qC_FL_directSaving.1 119 = .ok (.invokevirtual 244, 3) := by decide +kernel
theorem d_FL_directSaving_122 : decode qC_FL_directSaving.1 122 = .ok (.aload_n 0, 1) := by decide +kernel
theorem d_FL_directSaving_123 : decode qC_FL_directSaving.1 123 = .ok (.getfield 67, 3) := by decide +kernel
theorem d_FL_directSaving_126 : decode qC_FL_directSaving.1 126 = .ok (.getfield 221, 3) := by decide +kernel
theorem d_FL_directSaving_129 : decode qC_FL_directSaving.1 129 = .ok (.isub, 1) := by decide +kernel
theorem d_FL_directSaving_130 : decode qC_FL_directSaving.1 130 = .ok (.istore_n 2, 1) := by decide +kernel
theorem d_FL_directSaving_131 : decode qC_FL_directSaving.1 131 = .ok (.iload_n 2, 1) := by decide +kernel
theorem d_FL_directSaving_132 : decode qC_FL_directSaving.1 132 = .ok (.aload_n 0, 1) := by decide +kernel
theorem d_FL_directSaving_133 : decode qC_FL_directSaving.1 133 = .ok (.getfield 52, 3) := by decide +kernel
theorem d_FL_directSaving_136 : decode qC_FL_directSaving.1 136 = .ok (.getfield 247, 3) := by decide +kernel
theorem d_FL_directSaving_139 : decode qC_FL_directSaving.1 139 = .ok (.iconst 1, 1) := by decide +kernel
theorem d_FL_directSaving_140 : decode qC_FL_directSaving.1 140 = .ok (.bipush 9, 2) := by decide +kernel
theorem d_FL_directSaving_142 : decode qC_FL_directSaving.1 142 = .ok (.invokevirtual 163, 3) := by decide +kernel
theorem d_FL_directSaving_145 : decode qC_FL_directSaving.1 145 = .ok (.isub, 1) := by decide +kernel
theorem d_FL_directSaving_146 : decode qC_FL_directSaving.1 146 = .ok (.ireturn, 1) := by decide +kernel
set_option maxRecDepth 100000 in
def f_FL_directSaving (σ : St) (p1 : Int32) : Option (Int32 × St) :=
  Option.bind (f_Pl_hasLeg σ 8 p1) fun x1 =>
  if (x1 : Int32) = 0 then (
  some ((-1000001 : Int32), σ)
  ) else (
  Jn (fun (σ2 : St) =>
  some ((-1000003 : Int32), σ2)
  ) fun J3 =>
  if (p1 : Int32) < (σ 8 2) then (
  J3 σ
  ) else (
  Option.bind (f_Tb_get σ 9 p1 (1 : Int32)) fun x4 =>
  if (x4 : Int32) = (-1000000 : Int32) then (
  J3 σ
  ) else (
  Option.bind (f_FL_hasPosition σ) fun x5 =>
  if (x5.1 : Int32) = 0 then (
  J3 x5.2
  ) else (
  Option.bind (f_Pl_copyFrom x5.2 14 8) fun x6 =>
  Option.bind (f_Pl_goDirect x6 14 p1 (x6 52 3) (x6 52 4) (x6 52 5)) fun x7 =>
  Lt (s2 x7 37 5 (1 : Int32)) fun σ8 =>
  Option.bind (f_Pa_refresh σ8 37) fun x9 =>
  Option.bind (f_Pa_lengthOf x9 17 (x9 8 2) p1) fun x10 =>
  Lt ((x10 - (x9 52 2)) : Int32) fun x11 =>
  Option.bind (f_Tb_get x9 38 (1 : Int32) (9 : Int32)) fun x12 =>
  some ((x11 - x12), x9)
  )
  )
  )
  )
set_option maxHeartbeats 4000000 in
set_option maxRecDepth 100000 in
theorem cC_FL_directSaving (l : Launch) (g : Ge) (hi : injB wC.2 g) (σ : St) (p1 : Int32) (x : Int32 × St) (h : f_FL_directSaving σ p1 = some x) : Ct l wC g yC_FL_directSaving qC_FL_directSaving 7 171 [.ref (g.1 0), .int p1] σ (some (.int x.1), x.2) := by
  refine Ct.of (out := o_w) FC_FL_directSaving rfl hi rfl h (fun z hz C => ?_)
  clear h
  subst hz
  unfold f_FL_directSaving
  show Rt z qC_FL_directSaving wC g o_w 0 [(0, .ref (g.1 0)), (1, .int p1)] [] σ _
  refine q_aload_n (pc' := 1) C 0 d_FL_directSaving_0 rfl rfl ?_
  refine gC_FL_30 (pc' := 4) C 0 8 kC_0 rfl d_FL_directSaving_1 rfl rfl ?_
  refine q_iload_n (pc' := 5) C 1 d_FL_directSaving_4 rfl rfl ?_
  refine q_callVr (fr' := 0) (lo' := 0) (pc' := 8) C FC_Pl_hasLeg lmC_FL_174 d_FL_directSaving_5 8 (jCo kC_8) kC_8 cC_3 [.int p1] [] rfl rfl (Nat.le_of_ble_eq_true rfl) ⟨rfl, rfl⟩ (fun x h => cC_Pl_hasLeg _ g hi σ 8 kC_8 p1 x h) rfl (fun x1 hx1 => ?_)
  refine q_if_ne (tgt := 14) (pc' := 11) C d_FL_directSaving_8 rfl rfl ?_ ?_
  · refine q_iload_n (pc' := 15) C 1 d_FL_directSaving_14 rfl rfl ?_
    refine q_aload_n (pc' := 16) C 0 d_FL_directSaving_15 rfl rfl ?_
    refine gC_FL_30 (pc' := 19) C 0 8 kC_0 rfl d_FL_directSaving_16 rfl rfl ?_
    refine gC_FL_160 (pc' := 22) C 8 kC_8 d_FL_directSaving_19 rfl rfl ?_
    refine q_join (fun J3 : St → Option (Int32 × St) => ∀ (σ2 : St), Rt z qC_FL_directSaving wC g o_w 49 [] [] σ2 (J3 σ2)) (fun σ2 => ?_) (fun J3 hJ3 => ?_)
    · refine q_ldc (pc' := 51) C lcC_FL_140 d_FL_directSaving_49 rfl ?_
      exact q_iret C rfl d_FL_directSaving_51 rfl
    refine q_icmp_lt (tgt := 49) (pc' := 25) C d_FL_directSaving_22 rfl rfl ?_ ?_
    · exact Rt.sub [] rfl (hJ3 σ)
    · refine q_aload_n (pc' := 26) C 0 d_FL_directSaving_25 rfl rfl ?_
      refine gC_FL_30 (pc' := 29) C 0 8 kC_0 rfl d_FL_directSaving_26 rfl rfl ?_
      refine gC_FL_180 (pc' := 32) C 8 9 kC_8 rfl d_FL_directSaving_29 rfl rfl ?_
      refine q_iload_n (pc' := 33) C 1 d_FL_directSaving_32 rfl rfl ?_
      refine q_iconst (pc' := 34) C d_FL_directSaving_33 ki_1 rfl ?_
      refine q_callVr (fr' := 0) (lo' := 0) (pc' := 37) C FC_Tb_get lmC_FL_163 d_FL_directSaving_34 9 (jCo kC_9) kC_9 cC_8 [.int p1, .int (1 : Int32)] [] rfl rfl (Nat.le_of_ble_eq_true rfl) ⟨rfl, rfl⟩ (fun x h => cC_Tb_get _ g hi σ 9 kC_9 p1 (1 : Int32) x h) rfl (fun x4 hx4 => ?_)
      refine q_ldc (pc' := 39) C lcC_FL_139 d_FL_directSaving_37 rfl ?_
      refine q_icmp_eq (tgt := 49) (pc' := 42) C d_FL_directSaving_39 rfl rfl ?_ ?_
      · exact Rt.sub [] rfl (hJ3 σ)
      · refine q_aload_n (pc' := 43) C 0 d_FL_directSaving_42 rfl rfl ?_
        refine q_callVw (fr' := 6) (lo' := 151) (pc' := 46) C FC_FL_hasPosition lmC_FL_191 d_FL_directSaving_43 0 (jCo kC_0) kC_0 cC_10 [] [] rfl rfl (Nat.le_of_ble_eq_true rfl) ⟨rfl, rfl⟩ (fun x h => cC_FL_hasPosition _ g hi σ x h) rfl (fun x5 hx5 => ?_)
        refine q_if_ne (tgt := 52) (pc' := 49) C d_FL_directSaving_46 rfl rfl ?_ ?_
        · refine q_aload_n (pc' := 53) C 0 d_FL_directSaving_52 rfl rfl ?_
          refine gC_FL_37 (pc' := 56) C 0 14 kC_0 rfl d_FL_directSaving_53 rfl rfl ?_
          refine q_aload_n (pc' := 57) C 0 d_FL_directSaving_56 rfl rfl ?_
          refine gC_FL_30 (pc' := 60) C 0 8 kC_0 rfl d_FL_directSaving_57 rfl rfl ?_
          refine q_callVv (fr' := 2) (lo' := 50) (pc' := 63) C FC_Pl_copyFrom lmC_FL_224 d_FL_directSaving_60 14 (jCo kC_14) kC_14 cC_3 [.ref (g.1 8)] [] rfl rfl (Nat.le_of_ble_eq_true rfl) ⟨rfl, rfl⟩ (fun x h => cC_Pl_copyFrom _ g hi x5.2 14 kC_14 8 kC_8 x h) rfl (fun x6 hx6 => ?_)
          refine q_aload_n (pc' := 64) C 0 d_FL_directSaving_63 rfl rfl ?_
          refine gC_FL_37 (pc' := 67) C 0 14 kC_0 rfl d_FL_directSaving_64 rfl rfl ?_
          refine q_iload_n (pc' := 68) C 1 d_FL_directSaving_67 rfl rfl ?_
          refine q_aload_n (pc' := 69) C 0 d_FL_directSaving_68 rfl rfl ?_
          refine gC_FL_67 (pc' := 72) C 0 52 kC_0 rfl d_FL_directSaving_69 rfl rfl ?_
          refine gC_FL_195 (pc' := 75) C 52 kC_52 d_FL_directSaving_72 rfl rfl ?_
          refine q_aload_n (pc' := 76) C 0 d_FL_directSaving_75 rfl rfl ?_
          refine gC_FL_67 (pc' := 79) C 0 52 kC_0 rfl d_FL_directSaving_76 rfl rfl ?_
          refine gC_FL_198 (pc' := 82) C 52 kC_52 d_FL_directSaving_79 rfl rfl ?_
          refine q_aload_n (pc' := 83) C 0 d_FL_directSaving_82 rfl rfl ?_
          refine gC_FL_67 (pc' := 86) C 0 52 kC_0 rfl d_FL_directSaving_83 rfl rfl ?_
          refine gC_FL_201 (pc' := 89) C 52 kC_52 d_FL_directSaving_86 rfl rfl ?_
          refine q_callVv (fr' := 2) (lo' := 50) (pc' := 92) C FC_Pl_goDirect lmC_FL_204 d_FL_directSaving_89 14 (jCo kC_14) kC_14 cC_3 [.int p1, .int (x6 52 3), .int (x6 52 4), .int (x6 52 5)] [] rfl rfl (Nat.le_of_ble_eq_true rfl) ⟨rfl, rfl⟩ (fun x h => cC_Pl_goDirect _ g hi x6 14 kC_14 p1 (x6 52 3) (x6 52 4) (x6 52 5) x h) rfl (fun x7 hx7 => ?_)
          refine q_aload_n (pc' := 93) C 0 d_FL_directSaving_92 rfl rfl ?_
          refine gC_FL_52 (pc' := 96) C 0 37 kC_0 rfl d_FL_directSaving_93 rfl rfl ?_
          refine q_iconst (pc' := 97) C d_FL_directSaving_96 ki_1 rfl ?_
          refine pC_FL_215 (pc' := 100) C 37 kC_37 d_FL_directSaving_97 (by decide) rfl rfl ?_
          refine q_let (fun σ8 e8 => ?_)
          refine q_state e8 ?_
          refine q_aload_n (pc' := 101) C 0 d_FL_directSaving_100 rfl rfl ?_
          refine gC_FL_52 (pc' := 104) C 0 37 kC_0 rfl d_FL_directSaving_101 rfl rfl ?_
          refine q_callVv (fr' := 5) (lo' := 129) (pc' := 107) C FC_Pa_refresh lmC_FL_231 d_FL_directSaving_104 37 (jCo kC_37) kC_37 cC_1 [] [] rfl rfl (Nat.le_of_ble_eq_true rfl) ⟨rfl, rfl⟩ (fun x h => cC_Pa_refresh _ g hi σ8 37 kC_37 x h) rfl (fun x9 hx9 => ?_)
          refine q_aload_n (pc' := 108) C 0 d_FL_directSaving_107 rfl rfl ?_
          refine gC_FL_45 (pc' := 111) C 0 17 kC_0 rfl d_FL_directSaving_108 rfl rfl ?_
          refine q_aload_n (pc' := 112) C 0 d_FL_directSaving_111 rfl rfl ?_
          refine gC_FL_30 (pc' := 115) C 0 8 kC_0 rfl d_FL_directSaving_112 rfl rfl ?_
          refine gC_FL_160 (pc' := 118) C 8 kC_8 d_FL_directSaving_115 rfl rfl ?_
          refine q_iload_n (pc' := 119) C 1 d_FL_directSaving_118 rfl rfl ?_
          refine q_callVr (fr' := 1) (lo' := 22) (pc' := 122) C FC_Pa_lengthOf lmC_FL_244 d_FL_directSaving_119 17 (jCo kC_17) kC_17 cC_1 [.int (x9 8 2), .int p1] [] rfl rfl (Nat.le_of_ble_eq_true rfl) ⟨rfl, rfl⟩ (fun x h => cC_Pa_lengthOf _ g hi x9 17 kC_17 (x9 8 2) p1 x h) rfl (fun x10 hx10 => ?_)
          refine q_aload_n (pc' := 123) C 0 d_FL_directSaving_122 rfl rfl ?_
          refine gC_FL_67 (pc' := 126) C 0 52 kC_0 rfl d_FL_directSaving_123 rfl rfl ?_
          refine gC_FL_221 (pc' := 129) C 52 kC_52 d_FL_directSaving_126 rfl rfl ?_
          refine q_isub (pc' := 130) C d_FL_directSaving_129 rfl ?_
          refine q_let (fun x11 e11 => ?_)
          refine q_topi e11 ?_
          refine q_istore_n (pc' := 131) (lv' := [(2, .int x11), (0, .ref (g.1 0)), (1, .int p1)]) C d_FL_directSaving_130 (by decide) rfl rfl ?_
          refine q_iload_n (pc' := 132) C 0 d_FL_directSaving_131 rfl rfl ?_
          refine q_aload_n (pc' := 133) C 1 d_FL_directSaving_132 rfl rfl ?_
          refine gC_FL_52 (pc' := 136) C 0 37 kC_0 rfl d_FL_directSaving_133 rfl rfl ?_
          refine gC_FL_247 (pc' := 139) C 37 38 kC_37 rfl d_FL_directSaving_136 rfl rfl ?_
          refine q_iconst (pc' := 140) C d_FL_directSaving_139 ki_1 rfl ?_
          refine q_bipush (pc' := 142) C d_FL_directSaving_140 kb_9 rfl ?_
          refine q_callVr (fr' := 0) (lo' := 0) (pc' := 145) C FC_Tb_get lmC_FL_163 d_FL_directSaving_142 38 (jCo kC_38) kC_38 cC_8 [.int (1 : Int32), .int (9 : Int32)] [.int x11] rfl rfl (Nat.le_of_ble_eq_true rfl) ⟨rfl, rfl⟩ (fun x h => cC_Tb_get _ g hi x9 38 kC_38 (1 : Int32) (9 : Int32) x h) rfl (fun x12 hx12 => ?_)
          refine q_isub (pc' := 146) C d_FL_directSaving_145 rfl ?_
          exact q_iret C rfl d_FL_directSaving_146 rfl
        · exact Rt.sub [] rfl (hJ3 x5.2)
  · refine q_ldc (pc' := 13) C lcC_FL_159 d_FL_directSaving_11 rfl ?_
    exact q_iret C rfl d_FL_directSaving_13 rfl
theorem d_FL_isPlan_0 : decode qC_FL_isPlan.1 0 = .ok (.iload_n 1, 1) := by decide +kernel
theorem d_FL_isPlan_1 : decode qC_FL_isPlan.1 1 = .ok (.ifCond .eq 15, 3) := by decide +kernel
theorem d_FL_isPlan_4 : decode qC_FL_isPlan.1 4 = .ok (.iload_n 1, 1) := by decide +kernel
theorem d_FL_isPlan_5 : decode qC_FL_isPlan.1 5 = .ok (.iconst 1, 1) := by decide +kernel
theorem d_FL_isPlan_6 : decode qC_FL_isPlan.1 6 = .ok (.if_icmp .ne 14, 3) := by decide +kernel
theorem d_FL_isPlan_9 : decode qC_FL_isPlan.1 9 = .ok (.aload_n 0, 1) := by decide +kernel
theorem d_FL_isPlan_10 : decode qC_FL_isPlan.1 10 = .ok (.getfield 71, 3) := by decide +kernel
theorem d_FL_isPlan_13 : decode qC_FL_isPlan.1 13 = .ok (.ifCond .eq 7, 3) := by decide +kernel
theorem d_FL_isPlan_16 : decode qC_FL_isPlan.1 16 = .ok (.iconst 1, 1) := by decide +kernel
theorem d_FL_isPlan_17 : decode qC_FL_isPlan.1 17 = .ok (.goto 4, 3) := by decide +kernel
theorem d_FL_isPlan_20 : decode qC_FL_isPlan.1 20 = .ok (.iconst 0, 1) := by decide +kernel
theorem d_FL_isPlan_21 : decode qC_FL_isPlan.1 21 = .ok (.ireturn, 1) := by decide +kernel
set_option maxRecDepth 100000 in
def f_FL_isPlan (σ : St) (p1 : Int32) : Option (Int32) :=
  Jn (fun (x1 : Int32) =>
  Gd ((x1 : Int32) &&& 1 = x1) <|
  some x1
  ) fun J2 =>
  Jn (fun (_ : Unit) =>
  J2 (1 : Int32)
  ) fun J4 =>
  if (p1 : Int32) = 0 then (
  J4 ()
  ) else (
  Jn (fun (_ : Unit) =>
  J2 (0 : Int32)
  ) fun J5 =>
  if (p1 : Int32) = (1 : Int32) then (
  if ((σ 0 10) : Int32) = 0 then (
  J5 ()
  ) else (
  J4 ()
  )
  ) else (
  J5 ()
  )
  )
set_option maxHeartbeats 4000000 in
set_option maxRecDepth 100000 in
theorem cC_FL_isPlan (l : Launch) (g : Ge) (hi : injB wC.2 g) (σ : St) (p1 : Int32) (x : Int32) (h : f_FL_isPlan σ p1 = some x) : Ct l wC g yC_FL_isPlan qC_FL_isPlan 0 0 [.ref (g.1 0), .int p1] σ (some (.int x), σ) := by
  refine Ct.of (out := (o_r σ)) FC_FL_isPlan rfl hi rfl h (fun z hz C => ?_)
  clear h
  subst hz
  unfold f_FL_isPlan
  show Rt z qC_FL_isPlan wC g (o_r σ) 0 [(0, .ref (g.1 0)), (1, .int p1)] [] σ _
  refine q_iload_n (pc' := 1) C 1 d_FL_isPlan_0 rfl rfl ?_
  refine q_join (fun J2 : Int32 → Option (Int32) => ∀ (x1 : Int32), Rt z qC_FL_isPlan wC g (o_r σ) 21 [] [.int x1] σ (J2 x1)) (fun x1 => ?_) (fun J2 hJ2 => ?_)
  · refine q_guard (fun gx3 => ?_)
    exact q_zret C rfl gx3 d_FL_isPlan_21 rfl
  refine q_join (fun J4 : Unit → Option (Int32) => ∀ (_ : Unit), Rt z qC_FL_isPlan wC g (o_r σ) 16 [] [] σ (J4 ())) (fun _ => ?_) (fun J4 hJ4 => ?_)
  · refine q_iconst (pc' := 17) C d_FL_isPlan_16 ki_1 rfl ?_
    refine q_goto (tgt := 21) C d_FL_isPlan_17 rfl ?_
    exact Rt.sub [] rfl (hJ2 (1 : Int32))
  refine q_if_eq (tgt := 16) (pc' := 4) C d_FL_isPlan_1 rfl rfl ?_ ?_
  · exact Rt.sub [] rfl (hJ4 ())
  · refine q_iload_n (pc' := 5) C 1 d_FL_isPlan_4 rfl rfl ?_
    refine q_iconst (pc' := 6) C d_FL_isPlan_5 ki_1 rfl ?_
    refine q_join (fun J5 : Unit → Option (Int32) => ∀ (_ : Unit), Rt z qC_FL_isPlan wC g (o_r σ) 20 [] [] σ (J5 ())) (fun _ => ?_) (fun J5 hJ5 => ?_)
    · refine q_iconst (pc' := 21) C d_FL_isPlan_20 ki_0 rfl ?_
      exact Rt.sub [] rfl (hJ2 (0 : Int32))
    refine q_icmp_ne (tgt := 20) (pc' := 9) C d_FL_isPlan_6 rfl rfl ?_ ?_
    · exact Rt.sub [] rfl (hJ5 ())
    · refine q_aload_n (pc' := 10) C 0 d_FL_isPlan_9 rfl rfl ?_
      refine gC_FL_71 (pc' := 13) C 0 kC_0 d_FL_isPlan_10 rfl rfl ?_
      refine q_if_eq (tgt := 20) (pc' := 16) C d_FL_isPlan_13 rfl rfl ?_ ?_
      · exact Rt.sub [] rfl (hJ5 ())
      · exact Rt.sub [] rfl (hJ4 ())
theorem d_FL_planOf_0 : decode qC_FL_planOf.1 0 = .ok (.iload_n 1, 1) := by decide +kernel
theorem d_FL_planOf_1 : decode qC_FL_planOf.1 1 = .ok (.ifCond .ne 10, 3) := by decide +kernel
theorem d_FL_planOf_4 : decode qC_FL_planOf.1 4 = .ok (.aload_n 0, 1) := by decide +kernel
theorem d_FL_planOf_5 : decode qC_FL_planOf.1 5 = .ok (.getfield 30, 3) := by decide +kernel
theorem d_FL_planOf_8 : decode qC_FL_planOf.1 8 = .ok (.goto 7, 3) := by decide +kernel
theorem d_FL_planOf_11 : decode qC_FL_planOf.1 11 = .ok (.aload_n 0, 1) := by decide +kernel
theorem d_FL_planOf_12 : decode qC_FL_planOf.1 12 = .ok (.getfield 34, 3) := by decide +kernel
theorem d_FL_planOf_15 : decode qC_FL_planOf.1 15 = .ok (.areturn, 1) := by decide +kernel
set_option maxRecDepth 100000 in
def f_FL_planOf (σ : St) (p1 : Int32) : Option (Nat) :=
  Jn (fun (x1 : Nat) =>
  some x1
  ) fun J2 =>
  if (p1 : Int32) = 0 then (
  J2 8
  ) else (
  J2 11
  )
set_option maxHeartbeats 4000000 in
set_option maxRecDepth 100000 in
theorem cC_FL_planOf (l : Launch) (g : Ge) (hi : injB wC.2 g) (σ : St) (p1 : Int32) (x : Nat) (h : f_FL_planOf σ p1 = some x) : Ct l wC g yC_FL_planOf qC_FL_planOf 0 0 [.ref (g.1 0), .int p1] σ (some (.ref (g.1 x)), σ) := by
  refine Ct.of (out := (o_n g σ)) FC_FL_planOf rfl hi rfl h (fun z hz C => ?_)
  clear h
  subst hz
  unfold f_FL_planOf
  show Rt z qC_FL_planOf wC g (o_n g σ) 0 [(0, .ref (g.1 0)), (1, .int p1)] [] σ _
  refine q_iload_n (pc' := 1) C 1 d_FL_planOf_0 rfl rfl ?_
  refine q_join (fun J2 : Nat → Option (Nat) => ∀ (x1 : Nat), Rt z qC_FL_planOf wC g (o_n g σ) 15 [] [.ref (g.1 x1)] σ (J2 x1)) (fun x1 => ?_) (fun J2 hJ2 => ?_)
  · exact q_aret C rfl d_FL_planOf_15 rfl
  refine q_if_ne (tgt := 11) (pc' := 4) C d_FL_planOf_1 rfl rfl ?_ ?_
  · refine q_aload_n (pc' := 12) C 0 d_FL_planOf_11 rfl rfl ?_
    refine gC_FL_34 (pc' := 15) C 0 11 kC_0 rfl d_FL_planOf_12 rfl rfl ?_
    exact Rt.sub [] rfl (hJ2 11)
  · refine q_aload_n (pc' := 5) C 0 d_FL_planOf_4 rfl rfl ?_
    refine gC_FL_30 (pc' := 8) C 0 8 kC_0 rfl d_FL_planOf_5 rfl rfl ?_
    refine q_goto (tgt := 15) C d_FL_planOf_8 rfl ?_
    exact Rt.sub [] rfl (hJ2 8)
theorem kd_FL_planOf {σ : St} {p1 : Int32} {x : Nat} (h : f_FL_planOf σ p1 = some x) : wC.2.2.1 x = .inr (3, 4) := by
  unfold f_FL_planOf at h
  simp only [Jn] at h
  split at h <;> (cases h; rfl)
theorem d_FL_legCount_0 : decode qC_FL_legCount.1 0 = .ok (.aload_n 0, 1) := by decide +kernel
theorem d_FL_legCount_1 : decode qC_FL_legCount.1 1 = .ok (.iload_n 1, 1) := by decide +kernel
theorem d_FL_legCount_2 : decode qC_FL_legCount.1 2 = .ok (.invokevirtual 248, 3) := by decide +kernel
theorem d_FL_legCount_5 : decode qC_FL_legCount.1 5 = .ok (.ifCond .eq 14, 3) := by decide +kernel
theorem d_FL_legCount_8 : decode qC_FL_legCount.1 8 = .ok (.aload_n 0, 1) := by decide +kernel
theorem d_FL_legCount_9 : decode qC_FL_legCount.1 9 = .ok (.iload_n 1, 1) := by decide +kernel
theorem d_FL_legCount_10 : decode qC_FL_legCount.1 10 = .ok (.invokevirtual 251, 3) := by decide +kernel
theorem d_FL_legCount_13 : decode qC_FL_legCount.1 13 = .ok (.getfield 154, 3) := by decide +kernel
theorem d_FL_legCount_16 : decode qC_FL_legCount.1 16 = .ok (.goto 5, 3) := by decide +kernel
theorem d_FL_legCount_19 : decode qC_FL_legCount.1 19 = .ok (.ldc 159, 2) := by decide +kernel
theorem d_FL_legCount_21 : decode qC_FL_legCount.1 21 = .ok (.ireturn, 1) := by decide +kernel
set_option maxRecDepth 100000 in
def f_FL_legCount (σ : St) (p1 : Int32) : Option (Int32) :=
  Option.bind (f_FL_isPlan σ p1) fun x1 =>
  Jn (fun (x2 : Int32) =>
  some x2
  ) fun J3 =>
  if (x1 : Int32) = 0 then (
  J3 (-1000001 : Int32)
  ) else (
  Option.bind (f_FL_planOf σ p1) fun x4 =>
  J3 (σ x4 1)
  )
set_option maxHeartbeats 4000000 in
set_option maxRecDepth 100000 in
theorem cC_FL_legCount (l : Launch) (g : Ge) (hi : injB wC.2 g) (σ : St) (p1 : Int32) (x : Int32) (h : f_FL_legCount σ p1 = some x) : Ct l wC g yC_FL_legCount qC_FL_legCount 1 21 [.ref (g.1 0), .int p1] σ (some (.int x), σ) := by
  refine Ct.of (out := (o_r σ)) FC_FL_legCount rfl hi rfl h (fun z hz C => ?_)
  clear h
  subst hz
  unfold f_FL_legCount
  show Rt z qC_FL_legCount wC g (o_r σ) 0 [(0, .ref (g.1 0)), (1, .int p1)] [] σ _
  refine q_aload_n (pc' := 1) C 0 d_FL_legCount_0 rfl rfl ?_
  refine q_iload_n (pc' := 2) C 1 d_FL_legCount_1 rfl rfl ?_
  refine q_callVr (fr' := 0) (lo' := 0) (pc' := 5) C FC_FL_isPlan lmC_FL_248 d_FL_legCount_2 0 (jCo kC_0) kC_0 cC_10 [.int p1] [] rfl rfl (Nat.le_of_ble_eq_true rfl) ⟨rfl, rfl⟩ (fun x h => cC_FL_isPlan _ g hi σ p1 x h) rfl (fun x1 hx1 => ?_)
  refine q_join (fun J3 : Int32 → Option (Int32) => ∀ (x2 : Int32), Rt z qC_FL_legCount wC g (o_r σ) 21 [] [.int x2] σ (J3 x2)) (fun x2 => ?_) (fun J3 hJ3 => ?_)
  · exact q_iret C rfl d_FL_legCount_21 rfl
  refine q_if_eq (tgt := 19) (pc' := 8) C d_FL_legCount_5 rfl rfl ?_ ?_
  · refine q_ldc (pc' := 21) C lcC_FL_159 d_FL_legCount_19 rfl ?_
    exact Rt.sub [] rfl (hJ3 (-1000001 : Int32))
  · refine q_aload_n (pc' := 9) C 0 d_FL_legCount_8 rfl rfl ?_
    refine q_iload_n (pc' := 10) C 1 d_FL_legCount_9 rfl rfl ?_
    refine q_callVn (fr' := 0) (lo' := 0) (pc' := 13) C FC_FL_planOf lmC_FL_251 d_FL_legCount_10 0 (jCo kC_0) kC_0 cC_10 [.int p1] [] rfl rfl (Nat.le_of_ble_eq_true rfl) ⟨rfl, rfl⟩ (fun x h => cC_FL_planOf _ g hi σ p1 x h) rfl (fun x4 hx4 => ?_)
    refine gC_FL_154 (pc' := 16) C x4 (kd_FL_planOf hx4) d_FL_legCount_13 rfl rfl ?_
    refine q_goto (tgt := 21) C d_FL_legCount_16 rfl ?_
    exact Rt.sub [] rfl (hJ3 (σ x4 1))
theorem d_FL_isLeg_0 : decode qC_FL_isLeg.1 0 = .ok (.aload_n 0, 1) := by decide +kernel
theorem d_FL_isLeg_1 : decode qC_FL_isLeg.1 1 = .ok (.iload_n 1, 1) := by decide +kernel
theorem d_FL_isLeg_2 : decode qC_FL_isLeg.1 2 = .ok (.invokevirtual 248, 3) := by decide +kernel
theorem d_FL_isLeg_5 : decode qC_FL_isLeg.1 5 = .ok (.ifCond .eq 19, 3) := by decide +kernel
theorem d_FL_isLeg_8 : decode qC_FL_isLeg.1 8 = .ok (.aload_n 0, 1) := by decide +kernel
theorem d_FL_isLeg_9 : decode qC_FL_isLeg.1 9 = .ok (.iload_n 1, 1) := by decide +kernel
theorem d_FL_isLeg_10 : decode qC_FL_isLeg.1 10 = .ok (.invokevirtual 251, 3) := by decide +kernel
theorem d_FL_isLeg_13 : decode qC_FL_isLeg.1 13 = .ok (.iload_n 2, 1) := by decide +kernel
theorem d_FL_isLeg_14 : decode qC_FL_isLeg.1 14 = .ok (.invokevirtual 174, 3) := by decide +kernel
theorem d_FL_isLeg_17 : decode qC_FL_isLeg.1 17 = .ok (.ifCond .eq 7, 3) := by decide +kernel
theorem d_FL_isLeg_20 : decode qC_FL_isLeg.1 20 = .ok (.iconst 1, 1) := by decide +kernel
theorem d_FL_isLeg_21 : decode qC_FL_isLeg.1 21 = .ok (.goto 4, 3) := by decide +kernel
theorem d_FL_isLeg_24 : decode qC_FL_isLeg.1 24 = .ok (.iconst 0, 1) := by decide +kernel
theorem d_FL_isLeg_25 : decode qC_FL_isLeg.1 25 = .ok (.ireturn, 1) := by decide +kernel
set_option maxRecDepth 100000 in
def f_FL_isLeg (σ : St) (p1 : Int32) (p2 : Int32) : Option (Int32) :=
  Option.bind (f_FL_isPlan σ p1) fun x1 =>
  Jn (fun (x2 : Int32) =>
  Gd ((x2 : Int32) &&& 1 = x2) <|
  some x2
  ) fun J3 =>
  Jn (fun (_ : Unit) =>
  J3 (0 : Int32)
  ) fun J5 =>
  if (x1 : Int32) = 0 then (
  J5 ()
  ) else (
  Option.bind (f_FL_planOf σ p1) fun x6 =>
  Option.bind (f_Pl_hasLeg σ x6 p2) fun x7 =>
  if (x7 : Int32) = 0 then (
  J5 ()
  ) else (
  J3 (1 : Int32)
  )
  )
set_option maxHeartbeats 4000000 in
set_option maxRecDepth 100000 in
theorem cC_FL_isLeg (l : Launch) (g : Ge) (hi : injB wC.2 g) (σ : St) (p1 : Int32) (p2 : Int32) (x : Int32) (h : f_FL_isLeg σ p1 p2 = some x) : Ct l wC g yC_FL_isLeg qC_FL_isLeg 1 21 [.ref (g.1 0), .int p1, .int p2] σ (some (.int x), σ) := by
  refine Ct.of (out := (o_r σ)) FC_FL_isLeg rfl hi rfl h (fun z hz C => ?_)
  clear h
  subst hz
  unfold f_FL_isLeg
  show Rt z qC_FL_isLeg wC g (o_r σ) 0 [(0, .ref (g.1 0)), (1, .int p1), (2, .int p2)] [] σ _
  refine q_aload_n (pc' := 1) C 0 d_FL_isLeg_0 rfl rfl ?_
  refine q_iload_n (pc' := 2) C 1 d_FL_isLeg_1 rfl rfl ?_
  refine q_callVr (fr' := 0) (lo' := 0) (pc' := 5) C FC_FL_isPlan lmC_FL_248 d_FL_isLeg_2 0 (jCo kC_0) kC_0 cC_10 [.int p1] [] rfl rfl (Nat.le_of_ble_eq_true rfl) ⟨rfl, rfl⟩ (fun x h => cC_FL_isPlan _ g hi σ p1 x h) rfl (fun x1 hx1 => ?_)
  refine q_join (fun J3 : Int32 → Option (Int32) => ∀ (x2 : Int32), Rt z qC_FL_isLeg wC g (o_r σ) 25 [] [.int x2] σ (J3 x2)) (fun x2 => ?_) (fun J3 hJ3 => ?_)
  · refine q_guard (fun gx4 => ?_)
    exact q_zret C rfl gx4 d_FL_isLeg_25 rfl
  refine q_join (fun J5 : Unit → Option (Int32) => ∀ (_ : Unit), Rt z qC_FL_isLeg wC g (o_r σ) 24 [] [] σ (J5 ())) (fun _ => ?_) (fun J5 hJ5 => ?_)
  · refine q_iconst (pc' := 25) C d_FL_isLeg_24 ki_0 rfl ?_
    exact Rt.sub [] rfl (hJ3 (0 : Int32))
  refine q_if_eq (tgt := 24) (pc' := 8) C d_FL_isLeg_5 rfl rfl ?_ ?_
  · exact Rt.sub [] rfl (hJ5 ())
  · refine q_aload_n (pc' := 9) C 0 d_FL_isLeg_8 rfl rfl ?_
    refine q_iload_n (pc' := 10) C 1 d_FL_isLeg_9 rfl rfl ?_
    refine q_callVn (fr' := 0) (lo' := 0) (pc' := 13) C FC_FL_planOf lmC_FL_251 d_FL_isLeg_10 0 (jCo kC_0) kC_0 cC_10 [.int p1] [] rfl rfl (Nat.le_of_ble_eq_true rfl) ⟨rfl, rfl⟩ (fun x h => cC_FL_planOf _ g hi σ p1 x h) rfl (fun x6 hx6 => ?_)
    refine q_iload_n (pc' := 14) C 2 d_FL_isLeg_13 rfl rfl ?_
    refine q_callVr (fr' := 0) (lo' := 0) (pc' := 17) C FC_Pl_hasLeg lmC_FL_174 d_FL_isLeg_14 x6 (jCo (kd_FL_planOf hx6)) (kd_FL_planOf hx6) cC_3 [.int p2] [] rfl rfl (Nat.le_of_ble_eq_true rfl) ⟨rfl, rfl⟩ (fun x h => cC_Pl_hasLeg _ g hi σ x6 (kd_FL_planOf hx6) p2 x h) rfl (fun x7 hx7 => ?_)
    refine q_if_eq (tgt := 24) (pc' := 20) C d_FL_isLeg_17 rfl rfl ?_ ?_
    · exact Rt.sub [] rfl (hJ5 ())
    · refine q_iconst (pc' := 21) C d_FL_isLeg_20 ki_1 rfl ?_
      refine q_goto (tgt := 25) C d_FL_isLeg_21 rfl ?_
      exact Rt.sub [] rfl (hJ3 (1 : Int32))
theorem d_FL_planValue_0 : decode qC_FL_planValue.1 0 = .ok (.aload_n 0, 1) := by decide +kernel
theorem d_FL_planValue_1 : decode qC_FL_planValue.1 1 = .ok (.iload_n 1, 1) := by decide +kernel
theorem d_FL_planValue_2 : decode qC_FL_planValue.1 2 = .ok (.iload_n 2, 1) := by decide +kernel
theorem d_FL_planValue_3 : decode qC_FL_planValue.1 3 = .ok (.invokevirtual 259, 3) := by decide +kernel
theorem d_FL_planValue_6 : decode qC_FL_planValue.1 6 = .ok (.ifCond .eq 19, 3) := by decide +kernel
theorem d_FL_planValue_9 : decode qC_FL_planValue.1 9 = .ok (.aload_n 0, 1) := by decide +kernel
theorem d_FL_planValue_10 : decode qC_FL_planValue.1 10 = .ok (.iload_n 1, 1) := by decide +kernel
theorem d_FL_planValue_11 : decode qC_FL_planValue.1 11 = .ok (.invokevirtual 251, 3) := by decide +kernel
theorem d_FL_planValue_14 : decode qC_FL_planValue.1 14 = .ok (.getfield 180, 3) := by decide +kernel
theorem d_FL_planValue_17 : decode qC_FL_planValue.1 17 = .ok (.iload_n 2, 1) := by decide +kernel
theorem d_FL_planValue_18 : decode qC_FL_planValue.1 18 = .ok (.iload_n 3, 1) := by decide +kernel
theorem d_FL_planValue_19 : decode qC_FL_planValue.1 19 = .ok (.invokevirtual 163, 3) := by decide +kernel
theorem d_FL_planValue_22 : decode qC_FL_planValue.1 22 = .ok (.goto 5, 3) := by decide +kernel
theorem d_FL_planValue_25 : decode qC_FL_planValue.1 25 = .ok (.ldc 159, 2) := by decide +kernel
theorem d_FL_planValue_27 : decode qC_FL_planValue.1 27 = .ok (.ireturn, 1) := by decide +kernel
set_option maxRecDepth 100000 in
def f_FL_planValue (σ : St) (p1 : Int32) (p2 : Int32) (p3 : Int32) : Option (Int32) :=
  Option.bind (f_FL_isLeg σ p1 p2) fun x1 =>
  Jn (fun (x2 : Int32) =>
  some x2
  ) fun J3 =>
  if (x1 : Int32) = 0 then (
  J3 (-1000001 : Int32)
  ) else (
  Option.bind (f_FL_planOf σ p1) fun x4 =>
  Option.bind (f_Tb_get σ (rc x4 0) p2 p3) fun x5 =>
  J3 x5
  )
set_option maxHeartbeats 4000000 in
set_option maxRecDepth 100000 in
theorem cC_FL_planValue (l : Launch) (g : Ge) (hi : injB wC.2 g) (σ : St) (p1 : Int32) (p2 : Int32) (p3 : Int32) (x : Int32) (h : f_FL_planValue σ p1 p2 p3 = some x) : Ct l wC g yC_FL_planValue qC_FL_planValue 2 43 [.ref (g.1 0), .int p1, .int p2, .int p3] σ (some (.int x), σ) := by
  refine Ct.of (out := (o_r σ)) FC_FL_planValue rfl hi rfl h (fun z hz C => ?_)
  clear h
  subst hz
  unfold f_FL_planValue
  show Rt z qC_FL_planValue wC g (o_r σ) 0 [(0, .ref (g.1 0)), (1, .int p1), (2, .int p2), (3, .int p3)] [] σ _
  refine q_aload_n (pc' := 1) C 0 d_FL_planValue_0 rfl rfl ?_
  refine q_iload_n (pc' := 2) C 1 d_FL_planValue_1 rfl rfl ?_
  refine q_iload_n (pc' := 3) C 2 d_FL_planValue_2 rfl rfl ?_
  refine q_callVr (fr' := 1) (lo' := 21) (pc' := 6) C FC_FL_isLeg lmC_FL_259 d_FL_planValue_3 0 (jCo kC_0) kC_0 cC_10 [.int p1, .int p2] [] rfl rfl (Nat.le_of_ble_eq_true rfl) ⟨rfl, rfl⟩ (fun x h => cC_FL_isLeg _ g hi σ p1 p2 x h) rfl (fun x1 hx1 => ?_)
  refine q_join (fun J3 : Int32 → Option (Int32) => ∀ (x2 : Int32), Rt z qC_FL_planValue wC g (o_r σ) 27 [] [.int x2] σ (J3 x2)) (fun x2 => ?_) (fun J3 hJ3 => ?_)
  · exact q_iret C rfl d_FL_planValue_27 rfl
  refine q_if_eq (tgt := 25) (pc' := 9) C d_FL_planValue_6 rfl rfl ?_ ?_
  · refine q_ldc (pc' := 27) C lcC_FL_159 d_FL_planValue_25 rfl ?_
    exact Rt.sub [] rfl (hJ3 (-1000001 : Int32))
  · refine q_aload_n (pc' := 10) C 0 d_FL_planValue_9 rfl rfl ?_
    refine q_iload_n (pc' := 11) C 1 d_FL_planValue_10 rfl rfl ?_
    refine q_callVn (fr' := 0) (lo' := 0) (pc' := 14) C FC_FL_planOf lmC_FL_251 d_FL_planValue_11 0 (jCo kC_0) kC_0 cC_10 [.int p1] [] rfl rfl (Nat.le_of_ble_eq_true rfl) ⟨rfl, rfl⟩ (fun x h => cC_FL_planOf _ g hi σ p1 x h) rfl (fun x4 hx4 => ?_)
    refine gC_FL_180 (pc' := 17) C x4 (rc x4 0) (kd_FL_planOf hx4) (ly_3_0 (kd_FL_planOf hx4)).1 d_FL_planValue_14 rfl rfl ?_
    refine q_iload_n (pc' := 18) C 2 d_FL_planValue_17 rfl rfl ?_
    refine q_iload_n (pc' := 19) C 3 d_FL_planValue_18 rfl rfl ?_
    refine q_callVr (fr' := 0) (lo' := 0) (pc' := 22) C FC_Tb_get lmC_FL_163 d_FL_planValue_19 (rc x4 0) (jCo (ly_3_0 (kd_FL_planOf hx4)).2) (ly_3_0 (kd_FL_planOf hx4)).2 cC_8 [.int p2, .int p3] [] rfl rfl (Nat.le_of_ble_eq_true rfl) ⟨rfl, rfl⟩ (fun x h => cC_Tb_get _ g hi σ (rc x4 0) (ly_3_0 (kd_FL_planOf hx4)).2 p2 p3 x h) rfl (fun x5 hx5 => ?_)
    refine q_goto (tgt := 27) C d_FL_planValue_22 rfl ?_
    exact Rt.sub [] rfl (hJ3 x5)
theorem d_FL_legKind_0 : decode qC_FL_legKind.1 0 = .ok (.aload_n 0, 1) := by decide +kernel
theorem d_FL_legKind_1 : decode qC_FL_legKind.1 1 = .ok (.iload_n 1, 1) := by decide +kernel
theorem d_FL_legKind_2 : decode qC_FL_legKind.1 2 = .ok (.iload_n 2, 1) := by decide +kernel
theorem d_FL_legKind_3 : decode qC_FL_legKind.1 3 = .ok (.iconst 0, 1) := by decide +kernel
theorem d_FL_legKind_4 : decode qC_FL_legKind.1 4 = .ok (.invokevirtual 255, 3) := by decide +kernel
theorem d_FL_legKind_7 : decode qC_FL_legKind.1 7 = .ok (.ireturn, 1) := by decide +kernel
set_option maxRecDepth 100000 in
def f_FL_legKind (σ : St) (p1 : Int32) (p2 : Int32) : Option (Int32) :=
  Option.bind (f_FL_planValue σ p1 p2 (0 : Int32)) fun x1 =>
  some x1
set_option maxHeartbeats 4000000 in
set_option maxRecDepth 100000 in
theorem cC_FL_legKind (l : Launch) (g : Ge) (hi : injB wC.2 g) (σ : St) (p1 : Int32) (p2 : Int32) (x : Int32) (h : f_FL_legKind σ p1 p2 = some x) : Ct l wC g yC_FL_legKind qC_FL_legKind 3 66 [.ref (g.1 0), .int p1, .int p2] σ (some (.int x), σ) := by
  refine Ct.of (out := (o_r σ)) FC_FL_legKind rfl hi rfl h (fun z hz C => ?_)
  clear h
  subst hz
  unfold f_FL_legKind
  show Rt z qC_FL_legKind wC g (o_r σ) 0 [(0, .ref (g.1 0)), (1, .int p1), (2, .int p2)] [] σ _
  refine q_aload_n (pc' := 1) C 0 d_FL_legKind_0 rfl rfl ?_
  refine q_iload_n (pc' := 2) C 1 d_FL_legKind_1 rfl rfl ?_
  refine q_iload_n (pc' := 3) C 2 d_FL_legKind_2 rfl rfl ?_
  refine q_iconst (pc' := 4) C d_FL_legKind_3 ki_0 rfl ?_
  refine q_callVr (fr' := 2) (lo' := 43) (pc' := 7) C FC_FL_planValue lmC_FL_255 d_FL_legKind_4 0 (jCo kC_0) kC_0 cC_10 [.int p1, .int p2, .int (0 : Int32)] [] rfl rfl (Nat.le_of_ble_eq_true rfl) ⟨rfl, rfl⟩ (fun x h => cC_FL_planValue _ g hi σ p1 p2 (0 : Int32) x h) rfl (fun x1 hx1 => ?_)
  exact q_iret C rfl d_FL_legKind_7 rfl
theorem d_FL_legFix_0 : decode qC_FL_legFix.1 0 = .ok (.aload_n 0, 1) := by decide +kernel
theorem d_FL_legFix_1 : decode qC_FL_legFix.1 1 = .ok (.iload_n 1, 1) := by decide +kernel
theorem d_FL_legFix_2 : decode qC_FL_legFix.1 2 = .ok (.iload_n 2, 1) := by decide +kernel
theorem d_FL_legFix_3 : decode qC_FL_legFix.1 3 = .ok (.iconst 1, 1) := by decide +kernel
theorem d_FL_legFix_4 : decode qC_FL_legFix.1 4 = .ok (.invokevirtual 255, 3) := by decide +kernel
theorem d_FL_legFix_7 : decode qC_FL_legFix.1 7 = .ok (.ireturn, 1) := by decide +kernel
set_option maxRecDepth 100000 in
def f_FL_legFix (σ : St) (p1 : Int32) (p2 : Int32) : Option (Int32) :=
  Option.bind (f_FL_planValue σ p1 p2 (1 : Int32)) fun x1 =>
  some x1
set_option maxHeartbeats 4000000 in
set_option maxRecDepth 100000 in
theorem cC_FL_legFix (l : Launch) (g : Ge) (hi : injB wC.2 g) (σ : St) (p1 : Int32) (p2 : Int32) (x : Int32) (h : f_FL_legFix σ p1 p2 = some x) : Ct l wC g yC_FL_legFix qC_FL_legFix 3 66 [.ref (g.1 0), .int p1, .int p2] σ (some (.int x), σ) := by
  refine Ct.of (out := (o_r σ)) FC_FL_legFix rfl hi rfl h (fun z hz C => ?_)
  clear h
  subst hz
  unfold f_FL_legFix
  show Rt z qC_FL_legFix wC g (o_r σ) 0 [(0, .ref (g.1 0)), (1, .int p1), (2, .int p2)] [] σ _
  refine q_aload_n (pc' := 1) C 0 d_FL_legFix_0 rfl rfl ?_
  refine q_iload_n (pc' := 2) C 1 d_FL_legFix_1 rfl rfl ?_
  refine q_iload_n (pc' := 3) C 2 d_FL_legFix_2 rfl rfl ?_
  refine q_iconst (pc' := 4) C d_FL_legFix_3 ki_1 rfl ?_
  refine q_callVr (fr' := 2) (lo' := 43) (pc' := 7) C FC_FL_planValue lmC_FL_255 d_FL_legFix_4 0 (jCo kC_0) kC_0 cC_10 [.int p1, .int p2, .int (1 : Int32)] [] rfl rfl (Nat.le_of_ble_eq_true rfl) ⟨rfl, rfl⟩ (fun x h => cC_FL_planValue _ g hi σ p1 p2 (1 : Int32) x h) rfl (fun x1 hx1 => ?_)
  exact q_iret C rfl d_FL_legFix_7 rfl
theorem d_FL_hasGap_0 : decode qC_FL_hasGap.1 0 = .ok (.aload_n 0, 1) := by decide +kernel
theorem d_FL_hasGap_1 : decode qC_FL_hasGap.1 1 = .ok (.iload_n 1, 1) := by decide +kernel
theorem d_FL_hasGap_2 : decode qC_FL_hasGap.1 2 = .ok (.iload_n 2, 1) := by decide +kernel
theorem d_FL_hasGap_3 : decode qC_FL_hasGap.1 3 = .ok (.invokevirtual 259, 3) := by decide +kernel
theorem d_FL_hasGap_6 : decode qC_FL_hasGap.1 6 = .ok (.ifCond .ne 6, 3) := by decide +kernel
theorem d_FL_hasGap_9 : decode qC_FL_hasGap.1 9 = .ok (.ldc 159, 2) := by decide +kernel
theorem d_FL_hasGap_11 : decode qC_FL_hasGap.1 11 = .ok (.ireturn, 1) := by decide +kernel
theorem d_FL_hasGap_12 : decode qC_FL_hasGap.1 12 = .ok (.aload_n 0, 1) := by decide +kernel
theorem d_FL_hasGap_13 : decode qC_FL_hasGap.1 13 = .ok (.iload_n 1, 1) := by decide +kernel
theorem d_FL_hasGap_14 : decode qC_FL_hasGap.1 14 = .ok (.invokevirtual 181, 3) := by decide +kernel
theorem d_FL_hasGap_17 : decode qC_FL_hasGap.1 17 = .ok (.iload_n 2, 1) := by decide +kernel
theorem d_FL_hasGap_18 : decode qC_FL_hasGap.1 18 = .ok (.invokevirtual 263, 3) := by decide +kernel
theorem d_FL_hasGap_21 : decode qC_FL_hasGap.1 21 = .ok (.ifCond .eq 7, 3) := by decide +kernel
theorem d_FL_hasGap_24 : decode qC_FL_hasGap.1 24 = .ok (.iconst 1, 1) := by decide +kernel
theorem d_FL_hasGap_25 : decode qC_FL_hasGap.1 25 = .ok (.goto 4, 3) := by decide +kernel
theorem d_FL_hasGap_28 : decode qC_FL_hasGap.1 28 = .ok (.iconst 0, 1) := by decide +kernel
theorem d_FL_hasGap_29 : decode qC_FL_hasGap.1 29 = .ok (.ireturn, 1) := by decide +kernel
set_option maxRecDepth 100000 in
def f_FL_hasGap (σ : St) (p1 : Int32) (p2 : Int32) : Option (Int32 × St) :=
  Option.bind (f_FL_isLeg σ p1 p2) fun x1 =>
  if (x1 : Int32) = 0 then (
  some ((-1000001 : Int32), σ)
  ) else (
  Option.bind (f_FL_freshPathOf σ p1) fun x2 =>
  Option.bind (f_Pa_gapBefore x2.2 x2.1 p2) fun x3 =>
  Jn (fun (x4 : Int32) =>
  some (x4, x2.2)
  ) fun J5 =>
  if (x3 : Int32) = 0 then (
  J5 (0 : Int32)
  ) else (
  J5 (1 : Int32)
  )
  )
set_option maxHeartbeats 4000000 in
set_option maxRecDepth 100000 in
theorem cC_FL_hasGap (l : Launch) (g : Ge) (hi : injB wC.2 g) (σ : St) (p1 : Int32) (p2 : Int32) (x : Int32 × St) (h : f_FL_hasGap σ p1 p2 = some x) : Ct l wC g yC_FL_hasGap qC_FL_hasGap 7 173 [.ref (g.1 0), .int p1, .int p2] σ (some (.int x.1), x.2) := by
  refine Ct.of (out := o_w) FC_FL_hasGap rfl hi rfl h (fun z hz C => ?_)
  clear h
  subst hz
  unfold f_FL_hasGap
  show Rt z qC_FL_hasGap wC g o_w 0 [(0, .ref (g.1 0)), (1, .int p1), (2, .int p2)] [] σ _
  refine q_aload_n (pc' := 1) C 0 d_FL_hasGap_0 rfl rfl ?_
  refine q_iload_n (pc' := 2) C 1 d_FL_hasGap_1 rfl rfl ?_
  refine q_iload_n (pc' := 3) C 2 d_FL_hasGap_2 rfl rfl ?_
  refine q_callVr (fr' := 1) (lo' := 21) (pc' := 6) C FC_FL_isLeg lmC_FL_259 d_FL_hasGap_3 0 (jCo kC_0) kC_0 cC_10 [.int p1, .int p2] [] rfl rfl (Nat.le_of_ble_eq_true rfl) ⟨rfl, rfl⟩ (fun x h => cC_FL_isLeg _ g hi σ p1 p2 x h) rfl (fun x1 hx1 => ?_)
  refine q_if_ne (tgt := 12) (pc' := 9) C d_FL_hasGap_6 rfl rfl ?_ ?_
  · refine q_aload_n (pc' := 13) C 0 d_FL_hasGap_12 rfl rfl ?_
    refine q_iload_n (pc' := 14) C 1 d_FL_hasGap_13 rfl rfl ?_
    refine q_callVnw (fr' := 6) (lo' := 151) (pc' := 17) C FC_FL_freshPathOf lmC_FL_181 d_FL_hasGap_14 0 (jCo kC_0) kC_0 cC_10 [.int p1] [] rfl rfl (Nat.le_of_ble_eq_true rfl) ⟨rfl, rfl⟩ (fun x h => cC_FL_freshPathOf _ g hi σ p1 x h) rfl (fun x2 hx2 => ?_)
    refine q_iload_n (pc' := 18) C 2 d_FL_hasGap_17 rfl rfl ?_
    refine q_callVr (fr' := 1) (lo' := 22) (pc' := 21) C FC_Pa_gapBefore lmC_FL_263 d_FL_hasGap_18 x2.1 (jCo (kd_FL_freshPathOf hx2)) (kd_FL_freshPathOf hx2) cC_1 [.int p2] [] rfl rfl (Nat.le_of_ble_eq_true rfl) ⟨rfl, rfl⟩ (fun x h => cC_Pa_gapBefore _ g hi x2.2 x2.1 (kd_FL_freshPathOf hx2) p2 x h) rfl (fun x3 hx3 => ?_)
    refine q_join (fun J5 : Int32 → Option (Int32 × St) => ∀ (x4 : Int32), Rt z qC_FL_hasGap wC g o_w 29 [] [.int x4] x2.2 (J5 x4)) (fun x4 => ?_) (fun J5 hJ5 => ?_)
    · exact q_iret C rfl d_FL_hasGap_29 rfl
    refine q_if_eq (tgt := 28) (pc' := 24) C d_FL_hasGap_21 rfl rfl ?_ ?_
    · refine q_iconst (pc' := 29) C d_FL_hasGap_28 ki_0 rfl ?_
      exact Rt.sub [] rfl (hJ5 (0 : Int32))
    · refine q_iconst (pc' := 25) C d_FL_hasGap_24 ki_1 rfl ?_
      refine q_goto (tgt := 29) C d_FL_hasGap_25 rfl ?_
      exact Rt.sub [] rfl (hJ5 (1 : Int32))
  · refine q_ldc (pc' := 11) C lcC_FL_159 d_FL_hasGap_9 rfl ?_
    exact q_iret C rfl d_FL_hasGap_11 rfl
theorem d_FL_pathValue_0 : decode qC_FL_pathValue.1 0 = .ok (.aload_n 0, 1) := by decide +kernel
theorem d_FL_pathValue_1 : decode qC_FL_pathValue.1 1 = .ok (.iload_n 1, 1) := by decide +kernel
theorem d_FL_pathValue_2 : decode qC_FL_pathValue.1 2 = .ok (.iload_n 2, 1) := by decide +kernel
theorem d_FL_pathValue_3 : decode qC_FL_pathValue.1 3 = .ok (.invokevirtual 259, 3) := by decide +kernel
theorem d_FL_pathValue_6 : decode qC_FL_pathValue.1 6 = .ok (.ifCond .ne 6, 3) := by decide +kernel
theorem d_FL_pathValue_9 : decode qC_FL_pathValue.1 9 = .ok (.ldc 159, 2) := by decide +kernel
theorem d_FL_pathValue_11 : decode qC_FL_pathValue.1 11 = .ok (.ireturn, 1) := by decide +kernel
theorem d_FL_pathValue_12 : decode qC_FL_pathValue.1 12 = .ok (.aload_n 0, 1) := by decide +kernel
theorem d_FL_pathValue_13 : decode qC_FL_pathValue.1 13 = .ok (.iload_n 1, 1) := by decide +kernel
theorem d_FL_pathValue_14 : decode qC_FL_pathValue.1 14 = .ok (.invokevirtual 300, 3) := by decide +kernel
theorem d_FL_pathValue_17 : decode qC_FL_pathValue.1 17 = .ok (.astore 4, 2) := by decide +kernel
theorem d_FL_pathValue_19 : decode qC_FL_pathValue.1 19 = .ok (.aload 4, 2) := by decide +kernel
theorem d_FL_pathValue_21 : decode qC_FL_pathValue.1 21 = .ok (.invokevirtual 231, 3) := by decide +kernel
theorem d_FL_pathValue_24 : decode qC_FL_pathValue.1 24 = .ok (.aload 4, 2) := by decide +kernel
theorem d_FL_pathValue_26 : decode qC_FL_pathValue.1 26 = .ok (.getfield 247, 3) := by decide +kernel
theorem d_FL_pathValue_29 : decode qC_FL_pathValue.1 29 = .ok (.iload_n 2, 1) := by decide +kernel
theorem d_FL_pathValue_30 : decode qC_FL_pathValue.1 30 = .ok (.iload_n 3, 1) := by decide +kernel
theorem d_FL_pathValue_31 : decode qC_FL_pathValue.1 31 = .ok (.invokevirtual 163, 3) := by decide +kernel
theorem d_FL_pathValue_34 : decode qC_FL_pathValue.1 34 = .ok (.ireturn, 1) := by decide +kernel
set_option maxRecDepth 100000 in
def f_FL_pathValue (σ : St) (p1 : Int32) (p2 : Int32) (p3 : Int32) : Option (Int32 × St) :=
  Option.bind (f_FL_isLeg σ p1 p2) fun x1 =>
  if (x1 : Int32) = 0 then (
  some ((-1000001 : Int32), σ)
  ) else (
  Option.bind (f_FL_pathOf σ p1) fun x2 =>
  Option.bind (f_Pa_refresh σ x2) fun x3 =>
  Option.bind (f_Tb_get x3 (rc x2 1) p2 p3) fun x4 =>
  some (x4, x3)
  )
set_option maxHeartbeats 4000000 in
set_option maxRecDepth 100000 in
theorem cC_FL_pathValue (l : Launch) (g : Ge) (hi : injB wC.2 g) (σ : St) (p1 : Int32) (p2 : Int32) (p3 : Int32) (x : Int32 × St) (h : f_FL_pathValue σ p1 p2 p3 = some x) : Ct l wC g yC_FL_pathValue qC_FL_pathValue 6 151 [.ref (g.1 0), .int p1, .int p2, .int p3] σ (some (.int x.1), x.2) := by
  refine Ct.of (out := o_w) FC_FL_pathValue rfl hi rfl h (fun z hz C => ?_)
  clear h
  subst hz
  unfold f_FL_pathValue
  show Rt z qC_FL_pathValue wC g o_w 0 [(0, .ref (g.1 0)), (1, .int p1), (2, .int p2), (3, .int p3)] [] σ _
  refine q_aload_n (pc' := 1) C 0 d_FL_pathValue_0 rfl rfl ?_
  refine q_iload_n (pc' := 2) C 1 d_FL_pathValue_1 rfl rfl ?_
  refine q_iload_n (pc' := 3) C 2 d_FL_pathValue_2 rfl rfl ?_
  refine q_callVr (fr' := 1) (lo' := 21) (pc' := 6) C FC_FL_isLeg lmC_FL_259 d_FL_pathValue_3 0 (jCo kC_0) kC_0 cC_10 [.int p1, .int p2] [] rfl rfl (Nat.le_of_ble_eq_true rfl) ⟨rfl, rfl⟩ (fun x h => cC_FL_isLeg _ g hi σ p1 p2 x h) rfl (fun x1 hx1 => ?_)
  refine q_if_ne (tgt := 12) (pc' := 9) C d_FL_pathValue_6 rfl rfl ?_ ?_
  · refine q_aload_n (pc' := 13) C 0 d_FL_pathValue_12 rfl rfl ?_
    refine q_iload_n (pc' := 14) C 1 d_FL_pathValue_13 rfl rfl ?_
    refine q_callVn (fr' := 0) (lo' := 0) (pc' := 17) C FC_FL_pathOf lmC_FL_300 d_FL_pathValue_14 0 (jCo kC_0) kC_0 cC_10 [.int p1] [] rfl rfl (Nat.le_of_ble_eq_true rfl) ⟨rfl, rfl⟩ (fun x h => cC_FL_pathOf _ g hi σ p1 x h) rfl (fun x2 hx2 => ?_)
    refine q_astore (pc' := 19) (lv' := [(4, .ref (g.1 x2)), (0, .ref (g.1 0)), (1, .int p1), (2, .int p2), (3, .int p3)]) C d_FL_pathValue_17 (by decide) rfl rfl ?_
    refine q_aload (pc' := 21) C 0 d_FL_pathValue_19 rfl rfl ?_
    refine q_callVv (fr' := 5) (lo' := 129) (pc' := 24) C FC_Pa_refresh lmC_FL_231 d_FL_pathValue_21 x2 (jCo (kd_FL_pathOf hx2)) (kd_FL_pathOf hx2) cC_1 [] [] rfl rfl (Nat.le_of_ble_eq_true rfl) ⟨rfl, rfl⟩ (fun x h => cC_Pa_refresh _ g hi σ x2 (kd_FL_pathOf hx2) x h) rfl (fun x3 hx3 => ?_)
    refine q_aload (pc' := 26) C 0 d_FL_pathValue_24 rfl rfl ?_
    refine gC_FL_247 (pc' := 29) C x2 (rc x2 1) (kd_FL_pathOf hx2) (ly_1_1 (kd_FL_pathOf hx2)).1 d_FL_pathValue_26 rfl rfl ?_
    refine q_iload_n (pc' := 30) C 3 d_FL_pathValue_29 rfl rfl ?_
    refine q_iload_n (pc' := 31) C 4 d_FL_pathValue_30 rfl rfl ?_
    refine q_callVr (fr' := 0) (lo' := 0) (pc' := 34) C FC_Tb_get lmC_FL_163 d_FL_pathValue_31 (rc x2 1) (jCo (ly_1_1 (kd_FL_pathOf hx2)).2) (ly_1_1 (kd_FL_pathOf hx2)).2 cC_8 [.int p2, .int p3] [] rfl rfl (Nat.le_of_ble_eq_true rfl) ⟨rfl, rfl⟩ (fun x h => cC_Tb_get _ g hi x3 (rc x2 1) (ly_1_1 (kd_FL_pathOf hx2)).2 p2 p3 x h) rfl (fun x4 hx4 => ?_)
    exact q_iret C rfl d_FL_pathValue_34 rfl
  · refine q_ldc (pc' := 11) C lcC_FL_159 d_FL_pathValue_9 rfl ?_
    exact q_iret C rfl d_FL_pathValue_11 rfl
theorem d_FL_endX_0 : decode qC_FL_endX.1 0 = .ok (.aload_n 0, 1) := by decide +kernel
theorem d_FL_endX_1 : decode qC_FL_endX.1 1 = .ok (.iload_n 1, 1) := by decide +kernel
theorem d_FL_endX_2 : decode qC_FL_endX.1 2 = .ok (.iload_n 2, 1) := by decide +kernel
theorem d_FL_endX_3 : decode qC_FL_endX.1 3 = .ok (.iconst 2, 1) := by decide +kernel
theorem d_FL_endX_4 : decode qC_FL_endX.1 4 = .ok (.invokevirtual 266, 3) := by decide +kernel
theorem d_FL_endX_7 : decode qC_FL_endX.1 7 = .ok (.ireturn, 1) := by decide +kernel
set_option maxRecDepth 100000 in
def f_FL_endX (σ : St) (p1 : Int32) (p2 : Int32) : Option (Int32 × St) :=
  Option.bind (f_FL_pathValue σ p1 p2 (2 : Int32)) fun x1 =>
  some (x1.1, x1.2)
set_option maxHeartbeats 4000000 in
set_option maxRecDepth 100000 in
theorem cC_FL_endX (l : Launch) (g : Ge) (hi : injB wC.2 g) (σ : St) (p1 : Int32) (p2 : Int32) (x : Int32 × St) (h : f_FL_endX σ p1 p2 = some x) : Ct l wC g yC_FL_endX qC_FL_endX 7 175 [.ref (g.1 0), .int p1, .int p2] σ (some (.int x.1), x.2) := by
  refine Ct.of (out := o_w) FC_FL_endX rfl hi rfl h (fun z hz C => ?_)
  clear h
  subst hz
  unfold f_FL_endX
  show Rt z qC_FL_endX wC g o_w 0 [(0, .ref (g.1 0)), (1, .int p1), (2, .int p2)] [] σ _
  refine q_aload_n (pc' := 1) C 0 d_FL_endX_0 rfl rfl ?_
  refine q_iload_n (pc' := 2) C 1 d_FL_endX_1 rfl rfl ?_
  refine q_iload_n (pc' := 3) C 2 d_FL_endX_2 rfl rfl ?_
  refine q_iconst (pc' := 4) C d_FL_endX_3 ki_2 rfl ?_
  refine q_callVw (fr' := 6) (lo' := 151) (pc' := 7) C FC_FL_pathValue lmC_FL_266 d_FL_endX_4 0 (jCo kC_0) kC_0 cC_10 [.int p1, .int p2, .int (2 : Int32)] [] rfl rfl (Nat.le_of_ble_eq_true rfl) ⟨rfl, rfl⟩ (fun x h => cC_FL_pathValue _ g hi σ p1 p2 (2 : Int32) x h) rfl (fun x1 hx1 => ?_)
  exact q_iret C rfl d_FL_endX_7 rfl
theorem d_FL_endY_0 : decode qC_FL_endY.1 0 = .ok (.aload_n 0, 1) := by decide +kernel
theorem d_FL_endY_1 : decode qC_FL_endY.1 1 = .ok (.iload_n 1, 1) := by decide +kernel
theorem d_FL_endY_2 : decode qC_FL_endY.1 2 = .ok (.iload_n 2, 1) := by decide +kernel
theorem d_FL_endY_3 : decode qC_FL_endY.1 3 = .ok (.iconst 3, 1) := by decide +kernel
theorem d_FL_endY_4 : decode qC_FL_endY.1 4 = .ok (.invokevirtual 266, 3) := by decide +kernel
theorem d_FL_endY_7 : decode qC_FL_endY.1 7 = .ok (.ireturn, 1) := by decide +kernel
set_option maxRecDepth 100000 in
def f_FL_endY (σ : St) (p1 : Int32) (p2 : Int32) : Option (Int32 × St) :=
  Option.bind (f_FL_pathValue σ p1 p2 (3 : Int32)) fun x1 =>
  some (x1.1, x1.2)
set_option maxHeartbeats 4000000 in
set_option maxRecDepth 100000 in
theorem cC_FL_endY (l : Launch) (g : Ge) (hi : injB wC.2 g) (σ : St) (p1 : Int32) (p2 : Int32) (x : Int32 × St) (h : f_FL_endY σ p1 p2 = some x) : Ct l wC g yC_FL_endY qC_FL_endY 7 175 [.ref (g.1 0), .int p1, .int p2] σ (some (.int x.1), x.2) := by
  refine Ct.of (out := o_w) FC_FL_endY rfl hi rfl h (fun z hz C => ?_)
  clear h
  subst hz
  unfold f_FL_endY
  show Rt z qC_FL_endY wC g o_w 0 [(0, .ref (g.1 0)), (1, .int p1), (2, .int p2)] [] σ _
  refine q_aload_n (pc' := 1) C 0 d_FL_endY_0 rfl rfl ?_
  refine q_iload_n (pc' := 2) C 1 d_FL_endY_1 rfl rfl ?_
  refine q_iload_n (pc' := 3) C 2 d_FL_endY_2 rfl rfl ?_
  refine q_iconst (pc' := 4) C d_FL_endY_3 ki_3 rfl ?_
  refine q_callVw (fr' := 6) (lo' := 151) (pc' := 7) C FC_FL_pathValue lmC_FL_266 d_FL_endY_4 0 (jCo kC_0) kC_0 cC_10 [.int p1, .int p2, .int (3 : Int32)] [] rfl rfl (Nat.le_of_ble_eq_true rfl) ⟨rfl, rfl⟩ (fun x h => cC_FL_pathValue _ g hi σ p1 p2 (3 : Int32) x h) rfl (fun x1 hx1 => ?_)
  exact q_iret C rfl d_FL_endY_7 rfl
theorem d_FL_legCourse_0 : decode qC_FL_legCourse.1 0 = .ok (.aload_n 0, 1) := by decide +kernel
theorem d_FL_legCourse_1 : decode qC_FL_legCourse.1 1 = .ok (.iload_n 1, 1) := by decide +kernel
theorem d_FL_legCourse_2 : decode qC_FL_legCourse.1 2 = .ok (.iload_n 2, 1) := by decide +kernel
theorem d_FL_legCourse_3 : decode qC_FL_legCourse.1 3 = .ok (.bipush 11, 2) := by decide +kernel
theorem d_FL_legCourse_5 : decode qC_FL_legCourse.1 5 = .ok (.invokevirtual 266, 3) := by decide +kernel
theorem d_FL_legCourse_8 : decode qC_FL_legCourse.1 8 = .ok (.ireturn, 1) := by decide +kernel
set_option maxRecDepth 100000 in
def f_FL_legCourse (σ : St) (p1 : Int32) (p2 : Int32) : Option (Int32 × St) :=
  Option.bind (f_FL_pathValue σ p1 p2 (11 : Int32)) fun x1 =>
  some (x1.1, x1.2)
set_option maxHeartbeats 4000000 in
set_option maxRecDepth 100000 in
theorem cC_FL_legCourse (l : Launch) (g : Ge) (hi : injB wC.2 g) (σ : St) (p1 : Int32) (p2 : Int32) (x : Int32 × St) (h : f_FL_legCourse σ p1 p2 = some x) : Ct l wC g yC_FL_legCourse qC_FL_legCourse 7 175 [.ref (g.1 0), .int p1, .int p2] σ (some (.int x.1), x.2) := by
  refine Ct.of (out := o_w) FC_FL_legCourse rfl hi rfl h (fun z hz C => ?_)
  clear h
  subst hz
  unfold f_FL_legCourse
  show Rt z qC_FL_legCourse wC g o_w 0 [(0, .ref (g.1 0)), (1, .int p1), (2, .int p2)] [] σ _
  refine q_aload_n (pc' := 1) C 0 d_FL_legCourse_0 rfl rfl ?_
  refine q_iload_n (pc' := 2) C 1 d_FL_legCourse_1 rfl rfl ?_
  refine q_iload_n (pc' := 3) C 2 d_FL_legCourse_2 rfl rfl ?_
  refine q_bipush (pc' := 5) C d_FL_legCourse_3 kb_11 rfl ?_
  refine q_callVw (fr' := 6) (lo' := 151) (pc' := 8) C FC_FL_pathValue lmC_FL_266 d_FL_legCourse_5 0 (jCo kC_0) kC_0 cC_10 [.int p1, .int p2, .int (11 : Int32)] [] rfl rfl (Nat.le_of_ble_eq_true rfl) ⟨rfl, rfl⟩ (fun x h => cC_FL_pathValue _ g hi σ p1 p2 (11 : Int32) x h) rfl (fun x1 hx1 => ?_)
  exact q_iret C rfl d_FL_legCourse_8 rfl
theorem d_FL_legLength_0 : decode qC_FL_legLength.1 0 = .ok (.aload_n 0, 1) := by decide +kernel
theorem d_FL_legLength_1 : decode qC_FL_legLength.1 1 = .ok (.iload_n 1, 1) := by decide +kernel
theorem d_FL_legLength_2 : decode qC_FL_legLength.1 2 = .ok (.iload_n 2, 1) := by decide +kernel
theorem d_FL_legLength_3 : decode qC_FL_legLength.1 3 = .ok (.bipush 9, 2) := by decide +kernel
theorem d_FL_legLength_5 : decode qC_FL_legLength.1 5 = .ok (.invokevirtual 266, 3) := by decide +kernel
theorem d_FL_legLength_8 : decode qC_FL_legLength.1 8 = .ok (.ireturn, 1) := by decide +kernel
set_option maxRecDepth 100000 in
def f_FL_legLength (σ : St) (p1 : Int32) (p2 : Int32) : Option (Int32 × St) :=
  Option.bind (f_FL_pathValue σ p1 p2 (9 : Int32)) fun x1 =>
  some (x1.1, x1.2)
set_option maxHeartbeats 4000000 in
set_option maxRecDepth 100000 in
theorem cC_FL_legLength (l : Launch) (g : Ge) (hi : injB wC.2 g) (σ : St) (p1 : Int32) (p2 : Int32) (x : Int32 × St) (h : f_FL_legLength σ p1 p2 = some x) : Ct l wC g yC_FL_legLength qC_FL_legLength 7 175 [.ref (g.1 0), .int p1, .int p2] σ (some (.int x.1), x.2) := by
  refine Ct.of (out := o_w) FC_FL_legLength rfl hi rfl h (fun z hz C => ?_)
  clear h
  subst hz
  unfold f_FL_legLength
  show Rt z qC_FL_legLength wC g o_w 0 [(0, .ref (g.1 0)), (1, .int p1), (2, .int p2)] [] σ _
  refine q_aload_n (pc' := 1) C 0 d_FL_legLength_0 rfl rfl ?_
  refine q_iload_n (pc' := 2) C 1 d_FL_legLength_1 rfl rfl ?_
  refine q_iload_n (pc' := 3) C 2 d_FL_legLength_2 rfl rfl ?_
  refine q_bipush (pc' := 5) C d_FL_legLength_3 kb_9 rfl ?_
  refine q_callVw (fr' := 6) (lo' := 151) (pc' := 8) C FC_FL_pathValue lmC_FL_266 d_FL_legLength_5 0 (jCo kC_0) kC_0 cC_10 [.int p1, .int p2, .int (9 : Int32)] [] rfl rfl (Nat.le_of_ble_eq_true rfl) ⟨rfl, rfl⟩ (fun x h => cC_FL_pathValue _ g hi σ p1 p2 (9 : Int32) x h) rfl (fun x1 hx1 => ?_)
  exact q_iret C rfl d_FL_legLength_8 rfl
theorem d_FL_legTime_0 : decode qC_FL_legTime.1 0 = .ok (.aload_n 0, 1) := by decide +kernel
theorem d_FL_legTime_1 : decode qC_FL_legTime.1 1 = .ok (.iload_n 1, 1) := by decide +kernel
theorem d_FL_legTime_2 : decode qC_FL_legTime.1 2 = .ok (.iload_n 2, 1) := by decide +kernel
theorem d_FL_legTime_3 : decode qC_FL_legTime.1 3 = .ok (.bipush 10, 2) := by decide +kernel
theorem d_FL_legTime_5 : decode qC_FL_legTime.1 5 = .ok (.invokevirtual 266, 3) := by decide +kernel
theorem d_FL_legTime_8 : decode qC_FL_legTime.1 8 = .ok (.ireturn, 1) := by decide +kernel
set_option maxRecDepth 100000 in
def f_FL_legTime (σ : St) (p1 : Int32) (p2 : Int32) : Option (Int32 × St) :=
  Option.bind (f_FL_pathValue σ p1 p2 (10 : Int32)) fun x1 =>
  some (x1.1, x1.2)
set_option maxHeartbeats 4000000 in
set_option maxRecDepth 100000 in
theorem cC_FL_legTime (l : Launch) (g : Ge) (hi : injB wC.2 g) (σ : St) (p1 : Int32) (p2 : Int32) (x : Int32 × St) (h : f_FL_legTime σ p1 p2 = some x) : Ct l wC g yC_FL_legTime qC_FL_legTime 7 175 [.ref (g.1 0), .int p1, .int p2] σ (some (.int x.1), x.2) := by
  refine Ct.of (out := o_w) FC_FL_legTime rfl hi rfl h (fun z hz C => ?_)
  clear h
  subst hz
  unfold f_FL_legTime
  show Rt z qC_FL_legTime wC g o_w 0 [(0, .ref (g.1 0)), (1, .int p1), (2, .int p2)] [] σ _
  refine q_aload_n (pc' := 1) C 0 d_FL_legTime_0 rfl rfl ?_
  refine q_iload_n (pc' := 2) C 1 d_FL_legTime_1 rfl rfl ?_
  refine q_iload_n (pc' := 3) C 2 d_FL_legTime_2 rfl rfl ?_
  refine q_bipush (pc' := 5) C d_FL_legTime_3 kb_10 rfl ?_
  refine q_callVw (fr' := 6) (lo' := 151) (pc' := 8) C FC_FL_pathValue lmC_FL_266 d_FL_legTime_5 0 (jCo kC_0) kC_0 cC_10 [.int p1, .int p2, .int (10 : Int32)] [] rfl rfl (Nat.le_of_ble_eq_true rfl) ⟨rfl, rfl⟩ (fun x h => cC_FL_pathValue _ g hi σ p1 p2 (10 : Int32) x h) rfl (fun x1 hx1 => ?_)
  exact q_iret C rfl d_FL_legTime_8 rfl
theorem d_FL_lengthTo_0 : decode qC_FL_lengthTo.1 0 = .ok (.aload_n 0, 1) := by decide +kernel
theorem d_FL_lengthTo_1 : decode qC_FL_lengthTo.1 1 = .ok (.iload_n 1, 1) := by decide +kernel
theorem d_FL_lengthTo_2 : decode qC_FL_lengthTo.1 2 = .ok (.iload_n 2, 1) := by decide +kernel
theorem d_FL_lengthTo_3 : decode qC_FL_lengthTo.1 3 = .ok (.invokevirtual 259, 3) := by decide +kernel
theorem d_FL_lengthTo_6 : decode qC_FL_lengthTo.1 6 = .ok (.ifCond .ne 6, 3) := by decide +kernel
theorem d_FL_lengthTo_9 : decode qC_FL_lengthTo.1 9 = .ok (.ldc 159, 2) := by decide +kernel
theorem d_FL_lengthTo_11 : decode qC_FL_lengthTo.1 11 = .ok (.ireturn, 1) := by decide +kernel
theorem d_FL_lengthTo_12 : decode qC_FL_lengthTo.1 12 = .ok (.aload_n 0, 1) := by decide +kernel
theorem d_FL_lengthTo_13 : decode qC_FL_lengthTo.1 13 = .ok (.iload_n 1, 1) := by decide +kernel
theorem d_FL_lengthTo_14 : decode qC_FL_lengthTo.1 14 = .ok (.invokevirtual 181, 3) := by decide +kernel
theorem d_FL_lengthTo_17 : decode qC_FL_lengthTo.1 17 = .ok (.iconst 0, 1) := by decide +kernel
theorem d_FL_lengthTo_18 : decode qC_FL_lengthTo.1 18 = .ok (.iload_n 2, 1) := by decide +kernel
theorem d_FL_lengthTo_19 : decode qC_FL_lengthTo.1 19 = .ok (.invokevirtual 244, 3) := by decide +kernel
theorem d_FL_lengthTo_22 : decode qC_FL_lengthTo.1 22 = .ok (.ireturn, 1) := by decide +kernel
set_option maxRecDepth 100000 in
def f_FL_lengthTo (σ : St) (p1 : Int32) (p2 : Int32) : Option (Int32 × St) :=
  Option.bind (f_FL_isLeg σ p1 p2) fun x1 =>
  if (x1 : Int32) = 0 then (
  some ((-1000001 : Int32), σ)
  ) else (
  Option.bind (f_FL_freshPathOf σ p1) fun x2 =>
  Option.bind (f_Pa_lengthOf x2.2 x2.1 (0 : Int32) p2) fun x3 =>
  some (x3, x2.2)
  )
set_option maxHeartbeats 4000000 in
set_option maxRecDepth 100000 in
theorem cC_FL_lengthTo (l : Launch) (g : Ge) (hi : injB wC.2 g) (σ : St) (p1 : Int32) (p2 : Int32) (x : Int32 × St) (h : f_FL_lengthTo σ p1 p2 = some x) : Ct l wC g yC_FL_lengthTo qC_FL_lengthTo 7 173 [.ref (g.1 0), .int p1, .int p2] σ (some (.int x.1), x.2) := by
  refine Ct.of (out := o_w) FC_FL_lengthTo rfl hi rfl h (fun z hz C => ?_)
  clear h
  subst hz
  unfold f_FL_lengthTo
  show Rt z qC_FL_lengthTo wC g o_w 0 [(0, .ref (g.1 0)), (1, .int p1), (2, .int p2)] [] σ _
  refine q_aload_n (pc' := 1) C 0 d_FL_lengthTo_0 rfl rfl ?_
  refine q_iload_n (pc' := 2) C 1 d_FL_lengthTo_1 rfl rfl ?_
  refine q_iload_n (pc' := 3) C 2 d_FL_lengthTo_2 rfl rfl ?_
  refine q_callVr (fr' := 1) (lo' := 21) (pc' := 6) C FC_FL_isLeg lmC_FL_259 d_FL_lengthTo_3 0 (jCo kC_0) kC_0 cC_10 [.int p1, .int p2] [] rfl rfl (Nat.le_of_ble_eq_true rfl) ⟨rfl, rfl⟩ (fun x h => cC_FL_isLeg _ g hi σ p1 p2 x h) rfl (fun x1 hx1 => ?_)
  refine q_if_ne (tgt := 12) (pc' := 9) C d_FL_lengthTo_6 rfl rfl ?_ ?_
  · refine q_aload_n (pc' := 13) C 0 d_FL_lengthTo_12 rfl rfl ?_
    refine q_iload_n (pc' := 14) C 1 d_FL_lengthTo_13 rfl rfl ?_
    refine q_callVnw (fr' := 6) (lo' := 151) (pc' := 17) C FC_FL_freshPathOf lmC_FL_181 d_FL_lengthTo_14 0 (jCo kC_0) kC_0 cC_10 [.int p1] [] rfl rfl (Nat.le_of_ble_eq_true rfl) ⟨rfl, rfl⟩ (fun x h => cC_FL_freshPathOf _ g hi σ p1 x h) rfl (fun x2 hx2 => ?_)
    refine q_iconst (pc' := 18) C d_FL_lengthTo_17 ki_0 rfl ?_
    refine q_iload_n (pc' := 19) C 2 d_FL_lengthTo_18 rfl rfl ?_
    refine q_callVr (fr' := 1) (lo' := 22) (pc' := 22) C FC_Pa_lengthOf lmC_FL_244 d_FL_lengthTo_19 x2.1 (jCo (kd_FL_freshPathOf hx2)) (kd_FL_freshPathOf hx2) cC_1 [.int (0 : Int32), .int p2] [] rfl rfl (Nat.le_of_ble_eq_true rfl) ⟨rfl, rfl⟩ (fun x h => cC_Pa_lengthOf _ g hi x2.2 x2.1 (kd_FL_freshPathOf hx2) (0 : Int32) p2 x h) rfl (fun x3 hx3 => ?_)
    exact q_iret C rfl d_FL_lengthTo_22 rfl
  · refine q_ldc (pc' := 11) C lcC_FL_159 d_FL_lengthTo_9 rfl ?_
    exact q_iret C rfl d_FL_lengthTo_11 rfl
theorem d_FL_turnKind_0 : decode qC_FL_turnKind.1 0 = .ok (.aload_n 0, 1) := by decide +kernel
theorem d_FL_turnKind_1 : decode qC_FL_turnKind.1 1 = .ok (.iload_n 1, 1) := by decide +kernel
theorem d_FL_turnKind_2 : decode qC_FL_turnKind.1 2 = .ok (.iload_n 2, 1) := by decide +kernel
theorem d_FL_turnKind_3 : decode qC_FL_turnKind.1 3 = .ok (.iconst 4, 1) := by decide +kernel
theorem d_FL_turnKind_4 : decode qC_FL_turnKind.1 4 = .ok (.invokevirtual 266, 3) := by decide +kernel
theorem d_FL_turnKind_7 : decode qC_FL_turnKind.1 7 = .ok (.ireturn, 1) := by decide +kernel
set_option maxRecDepth 100000 in
def f_FL_turnKind (σ : St) (p1 : Int32) (p2 : Int32) : Option (Int32 × St) :=
  Option.bind (f_FL_pathValue σ p1 p2 (4 : Int32)) fun x1 =>
  some (x1.1, x1.2)
set_option maxHeartbeats 4000000 in
set_option maxRecDepth 100000 in
theorem cC_FL_turnKind (l : Launch) (g : Ge) (hi : injB wC.2 g) (σ : St) (p1 : Int32) (p2 : Int32) (x : Int32 × St) (h : f_FL_turnKind σ p1 p2 = some x) : Ct l wC g yC_FL_turnKind qC_FL_turnKind 7 175 [.ref (g.1 0), .int p1, .int p2] σ (some (.int x.1), x.2) := by
  refine Ct.of (out := o_w) FC_FL_turnKind rfl hi rfl h (fun z hz C => ?_)
  clear h
  subst hz
  unfold f_FL_turnKind
  show Rt z qC_FL_turnKind wC g o_w 0 [(0, .ref (g.1 0)), (1, .int p1), (2, .int p2)] [] σ _
  refine q_aload_n (pc' := 1) C 0 d_FL_turnKind_0 rfl rfl ?_
  refine q_iload_n (pc' := 2) C 1 d_FL_turnKind_1 rfl rfl ?_
  refine q_iload_n (pc' := 3) C 2 d_FL_turnKind_2 rfl rfl ?_
  refine q_iconst (pc' := 4) C d_FL_turnKind_3 ki_4 rfl ?_
  refine q_callVw (fr' := 6) (lo' := 151) (pc' := 7) C FC_FL_pathValue lmC_FL_266 d_FL_turnKind_4 0 (jCo kC_0) kC_0 cC_10 [.int p1, .int p2, .int (4 : Int32)] [] rfl rfl (Nat.le_of_ble_eq_true rfl) ⟨rfl, rfl⟩ (fun x h => cC_FL_pathValue _ g hi σ p1 p2 (4 : Int32) x h) rfl (fun x1 hx1 => ?_)
  exact q_iret C rfl d_FL_turnKind_7 rfl
theorem d_FL_turnSteps_0 : decode qC_FL_turnSteps.1 0 = .ok (.aload_n 0, 1) := by decide +kernel
theorem d_FL_turnSteps_1 : decode qC_FL_turnSteps.1 1 = .ok (.iload_n 1, 1) := by decide +kernel
theorem d_FL_turnSteps_2 : decode qC_FL_turnSteps.1 2 = .ok (.iload_n 2, 1) := by decide +kernel
theorem d_FL_turnSteps_3 : decode qC_FL_turnSteps.1 3 = .ok (.iconst 5, 1) := by decide +kernel
theorem d_FL_turnSteps_4 : decode qC_FL_turnSteps.1 4 = .ok (.invokevirtual 266, 3) := by decide +kernel
theorem d_FL_turnSteps_7 : decode qC_FL_turnSteps.1 7 = .ok (.ireturn, 1) := by decide +kernel
set_option maxRecDepth 100000 in
def f_FL_turnSteps (σ : St) (p1 : Int32) (p2 : Int32) : Option (Int32 × St) :=
  Option.bind (f_FL_pathValue σ p1 p2 (5 : Int32)) fun x1 =>
  some (x1.1, x1.2)
set_option maxHeartbeats 4000000 in
set_option maxRecDepth 100000 in
theorem cC_FL_turnSteps (l : Launch) (g : Ge) (hi : injB wC.2 g) (σ : St) (p1 : Int32) (p2 : Int32) (x : Int32 × St) (h : f_FL_turnSteps σ p1 p2 = some x) : Ct l wC g yC_FL_turnSteps qC_FL_turnSteps 7 175 [.ref (g.1 0), .int p1, .int p2] σ (some (.int x.1), x.2) := by
  refine Ct.of (out := o_w) FC_FL_turnSteps rfl hi rfl h (fun z hz C => ?_)
  clear h
  subst hz
  unfold f_FL_turnSteps
  show Rt z qC_FL_turnSteps wC g o_w 0 [(0, .ref (g.1 0)), (1, .int p1), (2, .int p2)] [] σ _
  refine q_aload_n (pc' := 1) C 0 d_FL_turnSteps_0 rfl rfl ?_
  refine q_iload_n (pc' := 2) C 1 d_FL_turnSteps_1 rfl rfl ?_
  refine q_iload_n (pc' := 3) C 2 d_FL_turnSteps_2 rfl rfl ?_
  refine q_iconst (pc' := 4) C d_FL_turnSteps_3 ki_5 rfl ?_
  refine q_callVw (fr' := 6) (lo' := 151) (pc' := 7) C FC_FL_pathValue lmC_FL_266 d_FL_turnSteps_4 0 (jCo kC_0) kC_0 cC_10 [.int p1, .int p2, .int (5 : Int32)] [] rfl rfl (Nat.le_of_ble_eq_true rfl) ⟨rfl, rfl⟩ (fun x h => cC_FL_pathValue _ g hi σ p1 p2 (5 : Int32) x h) rfl (fun x1 hx1 => ?_)
  exact q_iret C rfl d_FL_turnSteps_7 rfl
theorem d_FL_turnRadius_0 : decode qC_FL_turnRadius.1 0 = .ok (.aload_n 0, 1) := by decide +kernel
theorem d_FL_turnRadius_1 : decode qC_FL_turnRadius.1 1 = .ok (.iload_n 1, 1) := by decide +kernel
theorem d_FL_turnRadius_2 : decode qC_FL_turnRadius.1 2 = .ok (.iload_n 2, 1) := by decide +kernel
theorem d_FL_turnRadius_3 : decode qC_FL_turnRadius.1 3 = .ok (.bipush 6, 2) := by decide +kernel
theorem d_FL_turnRadius_5 : decode qC_FL_turnRadius.1 5 = .ok (.invokevirtual 266, 3) := by decide +kernel
theorem d_FL_turnRadius_8 : decode qC_FL_turnRadius.1 8 = .ok (.ireturn, 1) := by decide +kernel
set_option maxRecDepth 100000 in
def f_FL_turnRadius (σ : St) (p1 : Int32) (p2 : Int32) : Option (Int32 × St) :=
  Option.bind (f_FL_pathValue σ p1 p2 (6 : Int32)) fun x1 =>
  some (x1.1, x1.2)
set_option maxHeartbeats 4000000 in
set_option maxRecDepth 100000 in
theorem cC_FL_turnRadius (l : Launch) (g : Ge) (hi : injB wC.2 g) (σ : St) (p1 : Int32) (p2 : Int32) (x : Int32 × St) (h : f_FL_turnRadius σ p1 p2 = some x) : Ct l wC g yC_FL_turnRadius qC_FL_turnRadius 7 175 [.ref (g.1 0), .int p1, .int p2] σ (some (.int x.1), x.2) := by
  refine Ct.of (out := o_w) FC_FL_turnRadius rfl hi rfl h (fun z hz C => ?_)
  clear h
  subst hz
  unfold f_FL_turnRadius
  show Rt z qC_FL_turnRadius wC g o_w 0 [(0, .ref (g.1 0)), (1, .int p1), (2, .int p2)] [] σ _
  refine q_aload_n (pc' := 1) C 0 d_FL_turnRadius_0 rfl rfl ?_
  refine q_iload_n (pc' := 2) C 1 d_FL_turnRadius_1 rfl rfl ?_
  refine q_iload_n (pc' := 3) C 2 d_FL_turnRadius_2 rfl rfl ?_
  refine q_bipush (pc' := 5) C d_FL_turnRadius_3 kb_6 rfl ?_
  refine q_callVw (fr' := 6) (lo' := 151) (pc' := 8) C FC_FL_pathValue lmC_FL_266 d_FL_turnRadius_5 0 (jCo kC_0) kC_0 cC_10 [.int p1, .int p2, .int (6 : Int32)] [] rfl rfl (Nat.le_of_ble_eq_true rfl) ⟨rfl, rfl⟩ (fun x h => cC_FL_pathValue _ g hi σ p1 p2 (6 : Int32) x h) rfl (fun x1 hx1 => ?_)
  exact q_iret C rfl d_FL_turnRadius_8 rfl
theorem d_FL_turnLead_0 : decode qC_FL_turnLead.1 0 = .ok (.aload_n 0, 1) := by decide +kernel
theorem d_FL_turnLead_1 : decode qC_FL_turnLead.1 1 = .ok (.iload_n 1, 1) := by decide +kernel
theorem d_FL_turnLead_2 : decode qC_FL_turnLead.1 2 = .ok (.iload_n 2, 1) := by decide +kernel
theorem d_FL_turnLead_3 : decode qC_FL_turnLead.1 3 = .ok (.bipush 7, 2) := by decide +kernel
theorem d_FL_turnLead_5 : decode qC_FL_turnLead.1 5 = .ok (.invokevirtual 266, 3) := by decide +kernel
theorem d_FL_turnLead_8 : decode qC_FL_turnLead.1 8 = .ok (.ireturn, 1) := by decide +kernel
set_option maxRecDepth 100000 in
def f_FL_turnLead (σ : St) (p1 : Int32) (p2 : Int32) : Option (Int32 × St) :=
  Option.bind (f_FL_pathValue σ p1 p2 (7 : Int32)) fun x1 =>
  some (x1.1, x1.2)
set_option maxHeartbeats 4000000 in
set_option maxRecDepth 100000 in
theorem cC_FL_turnLead (l : Launch) (g : Ge) (hi : injB wC.2 g) (σ : St) (p1 : Int32) (p2 : Int32) (x : Int32 × St) (h : f_FL_turnLead σ p1 p2 = some x) : Ct l wC g yC_FL_turnLead qC_FL_turnLead 7 175 [.ref (g.1 0), .int p1, .int p2] σ (some (.int x.1), x.2) := by
  refine Ct.of (out := o_w) FC_FL_turnLead rfl hi rfl h (fun z hz C => ?_)
  clear h
  subst hz
  unfold f_FL_turnLead
  show Rt z qC_FL_turnLead wC g o_w 0 [(0, .ref (g.1 0)), (1, .int p1), (2, .int p2)] [] σ _
  refine q_aload_n (pc' := 1) C 0 d_FL_turnLead_0 rfl rfl ?_
  refine q_iload_n (pc' := 2) C 1 d_FL_turnLead_1 rfl rfl ?_
  refine q_iload_n (pc' := 3) C 2 d_FL_turnLead_2 rfl rfl ?_
  refine q_bipush (pc' := 5) C d_FL_turnLead_3 kb_7 rfl ?_
  refine q_callVw (fr' := 6) (lo' := 151) (pc' := 8) C FC_FL_pathValue lmC_FL_266 d_FL_turnLead_5 0 (jCo kC_0) kC_0 cC_10 [.int p1, .int p2, .int (7 : Int32)] [] rfl rfl (Nat.le_of_ble_eq_true rfl) ⟨rfl, rfl⟩ (fun x h => cC_FL_pathValue _ g hi σ p1 p2 (7 : Int32) x h) rfl (fun x1 hx1 => ?_)
  exact q_iret C rfl d_FL_turnLead_8 rfl
theorem d_FL_holdEntry_0 : decode qC_FL_holdEntry.1 0 = .ok (.aload_n 0, 1) := by decide +kernel
theorem d_FL_holdEntry_1 : decode qC_FL_holdEntry.1 1 = .ok (.iload_n 1, 1) := by decide +kernel
theorem d_FL_holdEntry_2 : decode qC_FL_holdEntry.1 2 = .ok (.iload_n 2, 1) := by decide +kernel
theorem d_FL_holdEntry_3 : decode qC_FL_holdEntry.1 3 = .ok (.bipush 8, 2) := by decide +kernel
theorem d_FL_holdEntry_5 : decode qC_FL_holdEntry.1 5 = .ok (.invokevirtual 266, 3) := by decide +kernel
theorem d_FL_holdEntry_8 : decode qC_FL_holdEntry.1 8 = .ok (.ireturn, 1) := by decide +kernel
set_option maxRecDepth 100000 in
def f_FL_holdEntry (σ : St) (p1 : Int32) (p2 : Int32) : Option (Int32 × St) :=
  Option.bind (f_FL_pathValue σ p1 p2 (8 : Int32)) fun x1 =>
  some (x1.1, x1.2)
set_option maxHeartbeats 4000000 in
set_option maxRecDepth 100000 in
theorem cC_FL_holdEntry (l : Launch) (g : Ge) (hi : injB wC.2 g) (σ : St) (p1 : Int32) (p2 : Int32) (x : Int32 × St) (h : f_FL_holdEntry σ p1 p2 = some x) : Ct l wC g yC_FL_holdEntry qC_FL_holdEntry 7 175 [.ref (g.1 0), .int p1, .int p2] σ (some (.int x.1), x.2) := by
  refine Ct.of (out := o_w) FC_FL_holdEntry rfl hi rfl h (fun z hz C => ?_)
  clear h
  subst hz
  unfold f_FL_holdEntry
  show Rt z qC_FL_holdEntry wC g o_w 0 [(0, .ref (g.1 0)), (1, .int p1), (2, .int p2)] [] σ _
  refine q_aload_n (pc' := 1) C 0 d_FL_holdEntry_0 rfl rfl ?_
  refine q_iload_n (pc' := 2) C 1 d_FL_holdEntry_1 rfl rfl ?_
  refine q_iload_n (pc' := 3) C 2 d_FL_holdEntry_2 rfl rfl ?_
  refine q_bipush (pc' := 5) C d_FL_holdEntry_3 kb_8 rfl ?_
  refine q_callVw (fr' := 6) (lo' := 151) (pc' := 8) C FC_FL_pathValue lmC_FL_266 d_FL_holdEntry_5 0 (jCo kC_0) kC_0 cC_10 [.int p1, .int p2, .int (8 : Int32)] [] rfl rfl (Nat.le_of_ble_eq_true rfl) ⟨rfl, rfl⟩ (fun x h => cC_FL_pathValue _ g hi σ p1 p2 (8 : Int32) x h) rfl (fun x1 hx1 => ?_)
  exact q_iret C rfl d_FL_holdEntry_8 rfl
theorem d_FL_entryFor_0 : decode qC_FL_entryFor.1 0 = .ok (.iload_n 1, 1) := by decide +kernel
theorem d_FL_entryFor_1 : decode qC_FL_entryFor.1 1 = .ok (.iconst 0, 1) := by decide +kernel
theorem d_FL_entryFor_2 : decode qC_FL_entryFor.1 2 = .ok (.bipush 23, 2) := by decide +kernel
theorem d_FL_entryFor_4 : decode qC_FL_entryFor.1 4 = .ok (.invokestatic 75, 3) := by decide +kernel
theorem d_FL_entryFor_7 : decode qC_FL_entryFor.1 7 = .ok (.ifCond .eq 13, 3) := by decide +kernel
theorem d_FL_entryFor_10 : decode qC_FL_entryFor.1 10 = .ok (.iload_n 2, 1) := by decide +kernel
theorem d_FL_entryFor_11 : decode qC_FL_entryFor.1 11 = .ok (.iconst 0, 1) := by decide +kernel
theorem d_FL_entryFor_12 : decode qC_FL_entryFor.1 12 = .ok (.bipush 23, 2) := by decide +kernel
theorem d_FL_entryFor_14 : decode qC_FL_entryFor.1 14 = .ok (.invokestatic 75, 3) := by decide +kernel
theorem d_FL_entryFor_17 : decode qC_FL_entryFor.1 17 = .ok (.ifCond .ne 6, 3) := by decide +kernel
theorem d_FL_entryFor_20 : decode qC_FL_entryFor.1 20 = .ok (.ldc 79, 2) := by decide +kernel
theorem d_FL_entryFor_22 : decode qC_FL_entryFor.1 22 = .ok (.ireturn, 1) := by decide +kernel
theorem d_FL_entryFor_23 : decode qC_FL_entryFor.1 23 = .ok (.iload_n 1, 1) := by decide +kernel
theorem d_FL_entryFor_24 : decode qC_FL_entryFor.1 24 = .ok (.iload_n 2, 1) := by decide +kernel
theorem d_FL_entryFor_25 : decode qC_FL_entryFor.1 25 = .ok (.iload_n 3, 1) := by decide +kernel
theorem d_FL_entryFor_26 : decode qC_FL_entryFor.1 26 = .ok (.invokestatic 269, 3) := by decide +kernel
theorem d_FL_entryFor_29 : decode qC_FL_entryFor.1 29 = .ok (.ireturn, 1) := by decide +kernel
set_option maxRecDepth 100000 in
def f_FL_entryFor (p1 : Int32) (p2 : Int32) (p3 : Int32) : Option (Int32) :=
  Option.bind (f_FL_within p1 (0 : Int32) (23 : Int32)) fun x1 =>
  Jn (fun (_ : Unit) =>
  some (-1000002 : Int32)
  ) fun J2 =>
  if (x1 : Int32) = 0 then (
  J2 ()
  ) else (
  Option.bind (f_FL_within p2 (0 : Int32) (23 : Int32)) fun x3 =>
  if (x3 : Int32) = 0 then (
  J2 ()
  ) else (
  Option.bind (f_Cm_entry p1 p2 p3) fun x4 =>
  some x4
  )
  )
set_option maxHeartbeats 4000000 in
set_option maxRecDepth 100000 in
theorem cC_FL_entryFor (l : Launch) (g : Ge) (hi : injB wC.2 g) (σ : St) (p1 : Int32) (p2 : Int32) (p3 : Int32) (x : Int32) (h : f_FL_entryFor p1 p2 p3 = some x) : Ct l wC g yC_FL_entryFor qC_FL_entryFor 2 43 [.ref (g.1 0), .int p1, .int p2, .int p3] σ (some (.int x), σ) := by
  refine Ct.of (out := (o_r σ)) FC_FL_entryFor rfl hi rfl h (fun z hz C => ?_)
  clear h
  subst hz
  unfold f_FL_entryFor
  show Rt z qC_FL_entryFor wC g (o_r σ) 0 [(0, .ref (g.1 0)), (1, .int p1), (2, .int p2), (3, .int p3)] [] σ _
  refine q_iload_n (pc' := 1) C 1 d_FL_entryFor_0 rfl rfl ?_
  refine q_iconst (pc' := 2) C d_FL_entryFor_1 ki_0 rfl ?_
  refine q_bipush (pc' := 4) C d_FL_entryFor_2 kb_23 rfl ?_
  refine q_callSr (fr' := 0) (lo' := 0) (pc' := 7) C FC_FL_within lmC_FL_75 d_FL_entryFor_4 [.int p1, .int (0 : Int32), .int (23 : Int32)] [] rfl rfl (Nat.le_of_ble_eq_true rfl) ⟨rfl, rfl⟩ (fun x h => cC_FL_within _ g hi σ p1 (0 : Int32) (23 : Int32) x h) rfl (fun x1 hx1 => ?_)
  refine q_join (fun J2 : Unit → Option (Int32) => ∀ (_ : Unit), Rt z qC_FL_entryFor wC g (o_r σ) 20 [] [] σ (J2 ())) (fun _ => ?_) (fun J2 hJ2 => ?_)
  · refine q_ldc (pc' := 22) C lcC_FL_79 d_FL_entryFor_20 rfl ?_
    exact q_iret C rfl d_FL_entryFor_22 rfl
  refine q_if_eq (tgt := 20) (pc' := 10) C d_FL_entryFor_7 rfl rfl ?_ ?_
  · exact Rt.sub [] rfl (hJ2 ())
  · refine q_iload_n (pc' := 11) C 2 d_FL_entryFor_10 rfl rfl ?_
    refine q_iconst (pc' := 12) C d_FL_entryFor_11 ki_0 rfl ?_
    refine q_bipush (pc' := 14) C d_FL_entryFor_12 kb_23 rfl ?_
    refine q_callSr (fr' := 0) (lo' := 0) (pc' := 17) C FC_FL_within lmC_FL_75 d_FL_entryFor_14 [.int p2, .int (0 : Int32), .int (23 : Int32)] [] rfl rfl (Nat.le_of_ble_eq_true rfl) ⟨rfl, rfl⟩ (fun x h => cC_FL_within _ g hi σ p2 (0 : Int32) (23 : Int32) x h) rfl (fun x3 hx3 => ?_)
    refine q_if_ne (tgt := 23) (pc' := 20) C d_FL_entryFor_17 rfl rfl ?_ ?_
    · refine q_iload_n (pc' := 24) C 1 d_FL_entryFor_23 rfl rfl ?_
      refine q_iload_n (pc' := 25) C 2 d_FL_entryFor_24 rfl rfl ?_
      refine q_iload_n (pc' := 26) C 3 d_FL_entryFor_25 rfl rfl ?_
      refine q_callSr (fr' := 1) (lo' := 20) (pc' := 29) C FC_Cm_entry lmC_FL_269 d_FL_entryFor_26 [.int p1, .int p2, .int p3] [] rfl rfl (Nat.le_of_ble_eq_true rfl) ⟨rfl, rfl⟩ (fun x h => cC_Cm_entry _ g hi σ p1 p2 p3 x h) rfl (fun x4 hx4 => ?_)
      exact q_iret C rfl d_FL_entryFor_29 rfl
    · exact Rt.sub [] rfl (hJ2 ())
theorem d_FL_pieceCount_0 : decode qC_FL_pieceCount.1 0 = .ok (.aload_n 0, 1) := by decide +kernel
theorem d_FL_pieceCount_1 : decode qC_FL_pieceCount.1 1 = .ok (.iload_n 1, 1) := by decide +kernel
theorem d_FL_pieceCount_2 : decode qC_FL_pieceCount.1 2 = .ok (.invokevirtual 248, 3) := by decide +kernel
theorem d_FL_pieceCount_5 : decode qC_FL_pieceCount.1 5 = .ok (.ifCond .eq 17, 3) := by decide +kernel
theorem d_FL_pieceCount_8 : decode qC_FL_pieceCount.1 8 = .ok (.aload_n 0, 1) := by decide +kernel
theorem d_FL_pieceCount_9 : decode qC_FL_pieceCount.1 9 = .ok (.iload_n 1, 1) := by decide +kernel
theorem d_FL_pieceCount_10 : decode qC_FL_pieceCount.1 10 = .ok (.invokevirtual 181, 3) := by decide +kernel
theorem d_FL_pieceCount_13 : decode qC_FL_pieceCount.1 13 = .ok (.getfield 275, 3) := by decide +kernel
theorem d_FL_pieceCount_16 : decode qC_FL_pieceCount.1 16 = .ok (.getfield 279, 3) := by decide +kernel
theorem d_FL_pieceCount_19 : decode qC_FL_pieceCount.1 19 = .ok (.goto 5, 3) := by decide +kernel
theorem d_FL_pieceCount_22 : decode qC_FL_pieceCount.1 22 = .ok (.ldc 159, 2) := by decide +kernel
theorem d_FL_pieceCount_24 : decode qC_FL_pieceCount.1 24 = .ok (.ireturn, 1) := by decide +kernel
set_option maxRecDepth 100000 in
def f_FL_pieceCount (σ : St) (p1 : Int32) : Option (Int32 × St) :=
  Option.bind (f_FL_isPlan σ p1) fun x1 =>
  Jn (fun (x2 : Int32) (σ3 : St) =>
  some (x2, σ3)
  ) fun J4 =>
  if (x1 : Int32) = 0 then (
  J4 (-1000001 : Int32) σ
  ) else (
  Option.bind (f_FL_freshPathOf σ p1) fun x5 =>
  J4 (x5.2 (rc x5.1 3) 5) x5.2
  )
set_option maxHeartbeats 4000000 in
set_option maxRecDepth 100000 in
theorem cC_FL_pieceCount (l : Launch) (g : Ge) (hi : injB wC.2 g) (σ : St) (p1 : Int32) (x : Int32 × St) (h : f_FL_pieceCount σ p1 = some x) : Ct l wC g yC_FL_pieceCount qC_FL_pieceCount 7 173 [.ref (g.1 0), .int p1] σ (some (.int x.1), x.2) := by
  refine Ct.of (out := o_w) FC_FL_pieceCount rfl hi rfl h (fun z hz C => ?_)
  clear h
  subst hz
  unfold f_FL_pieceCount
  show Rt z qC_FL_pieceCount wC g o_w 0 [(0, .ref (g.1 0)), (1, .int p1)] [] σ _
  refine q_aload_n (pc' := 1) C 0 d_FL_pieceCount_0 rfl rfl ?_
  refine q_iload_n (pc' := 2) C 1 d_FL_pieceCount_1 rfl rfl ?_
  refine q_callVr (fr' := 0) (lo' := 0) (pc' := 5) C FC_FL_isPlan lmC_FL_248 d_FL_pieceCount_2 0 (jCo kC_0) kC_0 cC_10 [.int p1] [] rfl rfl (Nat.le_of_ble_eq_true rfl) ⟨rfl, rfl⟩ (fun x h => cC_FL_isPlan _ g hi σ p1 x h) rfl (fun x1 hx1 => ?_)
  refine q_join (fun J4 : Int32 → St → Option (Int32 × St) => ∀ (x2 : Int32) (σ3 : St), Rt z qC_FL_pieceCount wC g o_w 24 [] [.int x2] σ3 (J4 x2 σ3)) (fun x2 σ3 => ?_) (fun J4 hJ4 => ?_)
  · exact q_iret C rfl d_FL_pieceCount_24 rfl
  refine q_if_eq (tgt := 22) (pc' := 8) C d_FL_pieceCount_5 rfl rfl ?_ ?_
  · refine q_ldc (pc' := 24) C lcC_FL_159 d_FL_pieceCount_22 rfl ?_
    exact Rt.sub [] rfl (hJ4 (-1000001 : Int32) σ)
  · refine q_aload_n (pc' := 9) C 0 d_FL_pieceCount_8 rfl rfl ?_
    refine q_iload_n (pc' := 10) C 1 d_FL_pieceCount_9 rfl rfl ?_
    refine q_callVnw (fr' := 6) (lo' := 151) (pc' := 13) C FC_FL_freshPathOf lmC_FL_181 d_FL_pieceCount_10 0 (jCo kC_0) kC_0 cC_10 [.int p1] [] rfl rfl (Nat.le_of_ble_eq_true rfl) ⟨rfl, rfl⟩ (fun x h => cC_FL_freshPathOf _ g hi σ p1 x h) rfl (fun x5 hx5 => ?_)
    refine gC_FL_275 (pc' := 16) C x5.1 (rc x5.1 3) (kd_FL_freshPathOf hx5) (ly_1_3 (kd_FL_freshPathOf hx5)).1 d_FL_pieceCount_13 rfl rfl ?_
    refine gC_FL_279 (pc' := 19) C (rc x5.1 3) (ly_1_3 (kd_FL_freshPathOf hx5)).2 d_FL_pieceCount_16 rfl rfl ?_
    refine q_goto (tgt := 24) C d_FL_pieceCount_19 rfl ?_
    exact Rt.sub [] rfl (hJ4 (x5.2 (rc x5.1 3) 5) x5.2)
theorem d_FL_pieceValue_0 : decode qC_FL_pieceValue.1 0 = .ok (.aload_n 0, 1) := by decide +kernel
theorem d_FL_pieceValue_1 : decode qC_FL_pieceValue.1 1 = .ok (.iload_n 1, 1) := by decide +kernel
theorem d_FL_pieceValue_2 : decode qC_FL_pieceValue.1 2 = .ok (.invokevirtual 248, 3) := by decide +kernel
theorem d_FL_pieceValue_5 : decode qC_FL_pieceValue.1 5 = .ok (.ifCond .ne 6, 3) := by decide +kernel
theorem d_FL_pieceValue_8 : decode qC_FL_pieceValue.1 8 = .ok (.ldc 159, 2) := by decide +kernel
theorem d_FL_pieceValue_10 : decode qC_FL_pieceValue.1 10 = .ok (.ireturn, 1) := by decide +kernel
theorem d_FL_pieceValue_11 : decode qC_FL_pieceValue.1 11 = .ok (.aload_n 0, 1) := by decide +kernel
theorem d_FL_pieceValue_12 : decode qC_FL_pieceValue.1 12 = .ok (.iload_n 1, 1) := by decide +kernel
theorem d_FL_pieceValue_13 : decode qC_FL_pieceValue.1 13 = .ok (.invokevirtual 300, 3) := by decide +kernel
theorem d_FL_pieceValue_16 : decode qC_FL_pieceValue.1 16 = .ok (.astore 4, 2) := by decide +kernel
theorem d_FL_pieceValue_18 : decode qC_FL_pieceValue.1 18 = .ok (.aload 4, 2) := by decide +kernel
theorem d_FL_pieceValue_20 : decode qC_FL_pieceValue.1 20 = .ok (.invokevirtual 231, 3) := by decide +kernel
theorem d_FL_pieceValue_23 : decode qC_FL_pieceValue.1 23 = .ok (.iload_n 2, 1) := by decide +kernel
theorem d_FL_pieceValue_24 : decode qC_FL_pieceValue.1 24 = .ok (.iconst 0, 1) := by decide +kernel
theorem d_FL_pieceValue_25 : decode qC_FL_pieceValue.1 25 = .ok (.aload 4, 2) := by decide +kernel
theorem d_FL_pieceValue_27 : decode qC_FL_pieceValue.1 27 = .ok (.getfield 275, 3) := by decide +kernel
theorem d_FL_pieceValue_30 : decode qC_FL_pieceValue.1 30 = .ok (.getfield 279, 3) := by decide +kernel
theorem d_FL_pieceValue_33 : decode qC_FL_pieceValue.1 33 = .ok (.iconst 1, 1) := by decide +kernel
theorem d_FL_pieceValue_34 : decode qC_FL_pieceValue.1 34 = .ok (.isub, 1) := by decide +kernel
theorem d_FL_pieceValue_35 : decode qC_FL_pieceValue.1 35 = .ok (.invokestatic 75, 3) := by decide +kernel
theorem d_FL_pieceValue_38 : decode qC_FL_pieceValue.1 38 = .ok (.ifCond .eq 19, 3) := by decide +kernel
theorem d_FL_pieceValue_41 : decode qC_FL_pieceValue.1 41 = .ok (.aload 4, 2) := by decide +kernel
theorem d_FL_pieceValue_43 : decode qC_FL_pieceValue.1 43 = .ok (.getfield 275, 3) := by decide +kernel
theorem d_FL_pieceValue_46 : decode qC_FL_pieceValue.1 46 = .ok (.getfield 303, 3) := by decide +kernel
theorem d_FL_pieceValue_49 : decode qC_FL_pieceValue.1 49 = .ok (.iload_n 2, 1) := by decide +kernel
theorem d_FL_pieceValue_50 : decode qC_FL_pieceValue.1 50 = .ok (.iload_n 3, 1) := by decide +kernel
theorem d_FL_pieceValue_51 : decode qC_FL_pieceValue.1 51 = .ok (.invokevirtual 163, 3) := by decide +kernel
theorem d_FL_pieceValue_54 : decode qC_FL_pieceValue.1 54 = .ok (.goto 5, 3) := by decide +kernel
theorem d_FL_pieceValue_57 : decode qC_FL_pieceValue.1 57 = .ok (.ldc 159, 2) := by decide +kernel
theorem d_FL_pieceValue_59 : decode qC_FL_pieceValue.1 59 = .ok (.ireturn, 1) := by decide +kernel
set_option maxRecDepth 100000 in
def f_FL_pieceValue (σ : St) (p1 : Int32) (p2 : Int32) (p3 : Int32) : Option (Int32 × St) :=
  Option.bind (f_FL_isPlan σ p1) fun x1 =>
  if (x1 : Int32) = 0 then (
  some ((-1000001 : Int32), σ)
  ) else (
  Option.bind (f_FL_pathOf σ p1) fun x2 =>
  Option.bind (f_Pa_refresh σ x2) fun x3 =>
  Option.bind (f_FL_within p2 (0 : Int32) ((x3 (rc x2 3) 5) - (1 : Int32))) fun x4 =>
  Jn (fun (x5 : Int32) =>
  some (x5, x3)
  ) fun J6 =>
  if (x4 : Int32) = 0 then (
  J6 (-1000001 : Int32)
  ) else (
  Option.bind (f_Tb_get x3 (rc (rc x2 3) 4) p2 p3) fun x7 =>
  J6 x7
  )
  )
set_option maxHeartbeats 4000000 in
set_option maxRecDepth 100000 in
theorem cC_FL_pieceValue (l : Launch) (g : Ge) (hi : injB wC.2 g) (σ : St) (p1 : Int32) (p2 : Int32) (p3 : Int32) (x : Int32 × St) (h : f_FL_pieceValue σ p1 p2 p3 = some x) : Ct l wC g yC_FL_pieceValue qC_FL_pieceValue 6 151 [.ref (g.1 0), .int p1, .int p2, .int p3] σ (some (.int x.1), x.2) := by
  refine Ct.of (out := o_w) FC_FL_pieceValue rfl hi rfl h (fun z hz C => ?_)
  clear h
  subst hz
  unfold f_FL_pieceValue
  show Rt z qC_FL_pieceValue wC g o_w 0 [(0, .ref (g.1 0)), (1, .int p1), (2, .int p2), (3, .int p3)] [] σ _
  refine q_aload_n (pc' := 1) C 0 d_FL_pieceValue_0 rfl rfl ?_
  refine q_iload_n (pc' := 2) C 1 d_FL_pieceValue_1 rfl rfl ?_
  refine q_callVr (fr' := 0) (lo' := 0) (pc' := 5) C FC_FL_isPlan lmC_FL_248 d_FL_pieceValue_2 0 (jCo kC_0) kC_0 cC_10 [.int p1] [] rfl rfl (Nat.le_of_ble_eq_true rfl) ⟨rfl, rfl⟩ (fun x h => cC_FL_isPlan _ g hi σ p1 x h) rfl (fun x1 hx1 => ?_)
  refine q_if_ne (tgt := 11) (pc' := 8) C d_FL_pieceValue_5 rfl rfl ?_ ?_
  · refine q_aload_n (pc' := 12) C 0 d_FL_pieceValue_11 rfl rfl ?_
    refine q_iload_n (pc' := 13) C 1 d_FL_pieceValue_12 rfl rfl ?_
    refine q_callVn (fr' := 0) (lo' := 0) (pc' := 16) C FC_FL_pathOf lmC_FL_300 d_FL_pieceValue_13 0 (jCo kC_0) kC_0 cC_10 [.int p1] [] rfl rfl (Nat.le_of_ble_eq_true rfl) ⟨rfl, rfl⟩ (fun x h => cC_FL_pathOf _ g hi σ p1 x h) rfl (fun x2 hx2 => ?_)
    refine q_astore (pc' := 18) (lv' := [(4, .ref (g.1 x2)), (0, .ref (g.1 0)), (1, .int p1), (2, .int p2), (3, .int p3)]) C d_FL_pieceValue_16 (by decide) rfl rfl ?_
    refine q_aload (pc' := 20) C 0 d_FL_pieceValue_18 rfl rfl ?_
    refine q_callVv (fr' := 5) (lo' := 129) (pc' := 23) C FC_Pa_refresh lmC_FL_231 d_FL_pieceValue_20 x2 (jCo (kd_FL_pathOf hx2)) (kd_FL_pathOf hx2) cC_1 [] [] rfl rfl (Nat.le_of_ble_eq_true rfl) ⟨rfl, rfl⟩ (fun x h => cC_Pa_refresh _ g hi σ x2 (kd_FL_pathOf hx2) x h) rfl (fun x3 hx3 => ?_)
    refine q_iload_n (pc' := 24) C 3 d_FL_pieceValue_23 rfl rfl ?_
    refine q_iconst (pc' := 25) C d_FL_pieceValue_24 ki_0 rfl ?_
    refine q_aload (pc' := 27) C 0 d_FL_pieceValue_25 rfl rfl ?_
    refine gC_FL_275 (pc' := 30) C x2 (rc x2 3) (kd_FL_pathOf hx2) (ly_1_3 (kd_FL_pathOf hx2)).1 d_FL_pieceValue_27 rfl rfl ?_
    refine gC_FL_279 (pc' := 33) C (rc x2 3) (ly_1_3 (kd_FL_pathOf hx2)).2 d_FL_pieceValue_30 rfl rfl ?_
    refine q_iconst (pc' := 34) C d_FL_pieceValue_33 ki_1 rfl ?_
    refine q_isub (pc' := 35) C d_FL_pieceValue_34 rfl ?_
    refine q_callSr (fr' := 0) (lo' := 0) (pc' := 38) C FC_FL_within lmC_FL_75 d_FL_pieceValue_35 [.int p2, .int (0 : Int32), .int ((x3 (rc x2 3) 5) - (1 : Int32))] [] rfl rfl (Nat.le_of_ble_eq_true rfl) ⟨rfl, rfl⟩ (fun x h => cC_FL_within _ g hi x3 p2 (0 : Int32) ((x3 (rc x2 3) 5) - (1 : Int32)) x h) rfl (fun x4 hx4 => ?_)
    refine q_join (fun J6 : Int32 → Option (Int32 × St) => ∀ (x5 : Int32), Rt z qC_FL_pieceValue wC g o_w 59 [] [.int x5] x3 (J6 x5)) (fun x5 => ?_) (fun J6 hJ6 => ?_)
    · exact q_iret C rfl d_FL_pieceValue_59 rfl
    refine q_if_eq (tgt := 57) (pc' := 41) C d_FL_pieceValue_38 rfl rfl ?_ ?_
    · refine q_ldc (pc' := 59) C lcC_FL_159 d_FL_pieceValue_57 rfl ?_
      exact Rt.sub [] rfl (hJ6 (-1000001 : Int32))
    · refine q_aload (pc' := 43) C 0 d_FL_pieceValue_41 rfl rfl ?_
      refine gC_FL_275 (pc' := 46) C x2 (rc x2 3) (kd_FL_pathOf hx2) (ly_1_3 (kd_FL_pathOf hx2)).1 d_FL_pieceValue_43 rfl rfl ?_
      refine gC_FL_303 (pc' := 49) C (rc x2 3) (rc (rc x2 3) 4) (ly_1_3 (kd_FL_pathOf hx2)).2 (ly_2_4 (ly_1_3 (kd_FL_pathOf hx2)).2).1 d_FL_pieceValue_46 rfl rfl ?_
      refine q_iload_n (pc' := 50) C 3 d_FL_pieceValue_49 rfl rfl ?_
      refine q_iload_n (pc' := 51) C 4 d_FL_pieceValue_50 rfl rfl ?_
      refine q_callVr (fr' := 0) (lo' := 0) (pc' := 54) C FC_Tb_get lmC_FL_163 d_FL_pieceValue_51 (rc (rc x2 3) 4) (jCo (ly_2_4 (ly_1_3 (kd_FL_pathOf hx2)).2).2) (ly_2_4 (ly_1_3 (kd_FL_pathOf hx2)).2).2 cC_8 [.int p2, .int p3] [] rfl rfl (Nat.le_of_ble_eq_true rfl) ⟨rfl, rfl⟩ (fun x h => cC_Tb_get _ g hi x3 (rc (rc x2 3) 4) (ly_2_4 (ly_1_3 (kd_FL_pathOf hx2)).2).2 p2 p3 x h) rfl (fun x7 hx7 => ?_)
      refine q_goto (tgt := 59) C d_FL_pieceValue_54 rfl ?_
      exact Rt.sub [] rfl (hJ6 x7)
  · refine q_ldc (pc' := 10) C lcC_FL_159 d_FL_pieceValue_8 rfl ?_
    exact q_iret C rfl d_FL_pieceValue_10 rfl
theorem d_FL_pieceLeg_0 : decode qC_FL_pieceLeg.1 0 = .ok (.aload_n 0, 1) := by decide +kernel
theorem d_FL_pieceLeg_1 : decode qC_FL_pieceLeg.1 1 = .ok (.iload_n 1, 1) := by decide +kernel
theorem d_FL_pieceLeg_2 : decode qC_FL_pieceLeg.1 2 = .ok (.iload_n 2, 1) := by decide +kernel
theorem d_FL_pieceLeg_3 : decode qC_FL_pieceLeg.1 3 = .ok (.iconst 0, 1) := by decide +kernel
theorem d_FL_pieceLeg_4 : decode qC_FL_pieceLeg.1 4 = .ok (.invokevirtual 282, 3) := by decide +kernel
theorem d_FL_pieceLeg_7 : decode qC_FL_pieceLeg.1 7 = .ok (.ireturn, 1) := by decide +kernel
set_option maxRecDepth 100000 in
def f_FL_pieceLeg (σ : St) (p1 : Int32) (p2 : Int32) : Option (Int32 × St) :=
  Option.bind (f_FL_pieceValue σ p1 p2 (0 : Int32)) fun x1 =>
  some (x1.1, x1.2)
set_option maxHeartbeats 4000000 in
set_option maxRecDepth 100000 in
theorem cC_FL_pieceLeg (l : Launch) (g : Ge) (hi : injB wC.2 g) (σ : St) (p1 : Int32) (p2 : Int32) (x : Int32 × St) (h : f_FL_pieceLeg σ p1 p2 = some x) : Ct l wC g yC_FL_pieceLeg qC_FL_pieceLeg 7 175 [.ref (g.1 0), .int p1, .int p2] σ (some (.int x.1), x.2) := by
  refine Ct.of (out := o_w) FC_FL_pieceLeg rfl hi rfl h (fun z hz C => ?_)
  clear h
  subst hz
  unfold f_FL_pieceLeg
  show Rt z qC_FL_pieceLeg wC g o_w 0 [(0, .ref (g.1 0)), (1, .int p1), (2, .int p2)] [] σ _
  refine q_aload_n (pc' := 1) C 0 d_FL_pieceLeg_0 rfl rfl ?_
  refine q_iload_n (pc' := 2) C 1 d_FL_pieceLeg_1 rfl rfl ?_
  refine q_iload_n (pc' := 3) C 2 d_FL_pieceLeg_2 rfl rfl ?_
  refine q_iconst (pc' := 4) C d_FL_pieceLeg_3 ki_0 rfl ?_
  refine q_callVw (fr' := 6) (lo' := 151) (pc' := 7) C FC_FL_pieceValue lmC_FL_282 d_FL_pieceLeg_4 0 (jCo kC_0) kC_0 cC_10 [.int p1, .int p2, .int (0 : Int32)] [] rfl rfl (Nat.le_of_ble_eq_true rfl) ⟨rfl, rfl⟩ (fun x h => cC_FL_pieceValue _ g hi σ p1 p2 (0 : Int32) x h) rfl (fun x1 hx1 => ?_)
  exact q_iret C rfl d_FL_pieceLeg_7 rfl
theorem d_FL_pieceKind_0 : decode qC_FL_pieceKind.1 0 = .ok (.aload_n 0, 1) := by decide +kernel
theorem d_FL_pieceKind_1 : decode qC_FL_pieceKind.1 1 = .ok (.iload_n 1, 1) := by decide +kernel
theorem d_FL_pieceKind_2 : decode qC_FL_pieceKind.1 2 = .ok (.iload_n 2, 1) := by decide +kernel
theorem d_FL_pieceKind_3 : decode qC_FL_pieceKind.1 3 = .ok (.iconst 1, 1) := by decide +kernel
theorem d_FL_pieceKind_4 : decode qC_FL_pieceKind.1 4 = .ok (.invokevirtual 282, 3) := by decide +kernel
theorem d_FL_pieceKind_7 : decode qC_FL_pieceKind.1 7 = .ok (.ireturn, 1) := by decide +kernel
set_option maxRecDepth 100000 in
def f_FL_pieceKind (σ : St) (p1 : Int32) (p2 : Int32) : Option (Int32 × St) :=
  Option.bind (f_FL_pieceValue σ p1 p2 (1 : Int32)) fun x1 =>
  some (x1.1, x1.2)
set_option maxHeartbeats 4000000 in
set_option maxRecDepth 100000 in
theorem cC_FL_pieceKind (l : Launch) (g : Ge) (hi : injB wC.2 g) (σ : St) (p1 : Int32) (p2 : Int32) (x : Int32 × St) (h : f_FL_pieceKind σ p1 p2 = some x) : Ct l wC g yC_FL_pieceKind qC_FL_pieceKind 7 175 [.ref (g.1 0), .int p1, .int p2] σ (some (.int x.1), x.2) := by
  refine Ct.of (out := o_w) FC_FL_pieceKind rfl hi rfl h (fun z hz C => ?_)
  clear h
  subst hz
  unfold f_FL_pieceKind
  show Rt z qC_FL_pieceKind wC g o_w 0 [(0, .ref (g.1 0)), (1, .int p1), (2, .int p2)] [] σ _
  refine q_aload_n (pc' := 1) C 0 d_FL_pieceKind_0 rfl rfl ?_
  refine q_iload_n (pc' := 2) C 1 d_FL_pieceKind_1 rfl rfl ?_
  refine q_iload_n (pc' := 3) C 2 d_FL_pieceKind_2 rfl rfl ?_
  refine q_iconst (pc' := 4) C d_FL_pieceKind_3 ki_1 rfl ?_
  refine q_callVw (fr' := 6) (lo' := 151) (pc' := 7) C FC_FL_pieceValue lmC_FL_282 d_FL_pieceKind_4 0 (jCo kC_0) kC_0 cC_10 [.int p1, .int p2, .int (1 : Int32)] [] rfl rfl (Nat.le_of_ble_eq_true rfl) ⟨rfl, rfl⟩ (fun x h => cC_FL_pieceValue _ g hi σ p1 p2 (1 : Int32) x h) rfl (fun x1 hx1 => ?_)
  exact q_iret C rfl d_FL_pieceKind_7 rfl
theorem d_FL_pieceLength_0 : decode qC_FL_pieceLength.1 0 = .ok (.aload_n 0, 1) := by decide +kernel
theorem d_FL_pieceLength_1 : decode qC_FL_pieceLength.1 1 = .ok (.iload_n 1, 1) := by decide +kernel
theorem d_FL_pieceLength_2 : decode qC_FL_pieceLength.1 2 = .ok (.iload_n 2, 1) := by decide +kernel
theorem d_FL_pieceLength_3 : decode qC_FL_pieceLength.1 3 = .ok (.iconst 2, 1) := by decide +kernel
theorem d_FL_pieceLength_4 : decode qC_FL_pieceLength.1 4 = .ok (.invokevirtual 282, 3) := by decide +kernel
theorem d_FL_pieceLength_7 : decode qC_FL_pieceLength.1 7 = .ok (.ireturn, 1) := by decide +kernel
set_option maxRecDepth 100000 in
def f_FL_pieceLength (σ : St) (p1 : Int32) (p2 : Int32) : Option (Int32 × St) :=
  Option.bind (f_FL_pieceValue σ p1 p2 (2 : Int32)) fun x1 =>
  some (x1.1, x1.2)
set_option maxHeartbeats 4000000 in
set_option maxRecDepth 100000 in
theorem cC_FL_pieceLength (l : Launch) (g : Ge) (hi : injB wC.2 g) (σ : St) (p1 : Int32) (p2 : Int32) (x : Int32 × St) (h : f_FL_pieceLength σ p1 p2 = some x) : Ct l wC g yC_FL_pieceLength qC_FL_pieceLength 7 175 [.ref (g.1 0), .int p1, .int p2] σ (some (.int x.1), x.2) := by
  refine Ct.of (out := o_w) FC_FL_pieceLength rfl hi rfl h (fun z hz C => ?_)
  clear h
  subst hz
  unfold f_FL_pieceLength
  show Rt z qC_FL_pieceLength wC g o_w 0 [(0, .ref (g.1 0)), (1, .int p1), (2, .int p2)] [] σ _
  refine q_aload_n (pc' := 1) C 0 d_FL_pieceLength_0 rfl rfl ?_
  refine q_iload_n (pc' := 2) C 1 d_FL_pieceLength_1 rfl rfl ?_
  refine q_iload_n (pc' := 3) C 2 d_FL_pieceLength_2 rfl rfl ?_
  refine q_iconst (pc' := 4) C d_FL_pieceLength_3 ki_2 rfl ?_
  refine q_callVw (fr' := 6) (lo' := 151) (pc' := 7) C FC_FL_pieceValue lmC_FL_282 d_FL_pieceLength_4 0 (jCo kC_0) kC_0 cC_10 [.int p1, .int p2, .int (2 : Int32)] [] rfl rfl (Nat.le_of_ble_eq_true rfl) ⟨rfl, rfl⟩ (fun x h => cC_FL_pieceValue _ g hi σ p1 p2 (2 : Int32) x h) rfl (fun x1 hx1 => ?_)
  exact q_iret C rfl d_FL_pieceLength_7 rfl
theorem d_FL_pieceCourse_0 : decode qC_FL_pieceCourse.1 0 = .ok (.aload_n 0, 1) := by decide +kernel
theorem d_FL_pieceCourse_1 : decode qC_FL_pieceCourse.1 1 = .ok (.iload_n 1, 1) := by decide +kernel
theorem d_FL_pieceCourse_2 : decode qC_FL_pieceCourse.1 2 = .ok (.iload_n 2, 1) := by decide +kernel
theorem d_FL_pieceCourse_3 : decode qC_FL_pieceCourse.1 3 = .ok (.iconst 3, 1) := by decide +kernel
theorem d_FL_pieceCourse_4 : decode qC_FL_pieceCourse.1 4 = .ok (.invokevirtual 282, 3) := by decide +kernel
theorem d_FL_pieceCourse_7 : decode qC_FL_pieceCourse.1 7 = .ok (.ireturn, 1) := by decide +kernel
set_option maxRecDepth 100000 in
def f_FL_pieceCourse (σ : St) (p1 : Int32) (p2 : Int32) : Option (Int32 × St) :=
  Option.bind (f_FL_pieceValue σ p1 p2 (3 : Int32)) fun x1 =>
  some (x1.1, x1.2)
set_option maxHeartbeats 4000000 in
set_option maxRecDepth 100000 in
theorem cC_FL_pieceCourse (l : Launch) (g : Ge) (hi : injB wC.2 g) (σ : St) (p1 : Int32) (p2 : Int32) (x : Int32 × St) (h : f_FL_pieceCourse σ p1 p2 = some x) : Ct l wC g yC_FL_pieceCourse qC_FL_pieceCourse 7 175 [.ref (g.1 0), .int p1, .int p2] σ (some (.int x.1), x.2) := by
  refine Ct.of (out := o_w) FC_FL_pieceCourse rfl hi rfl h (fun z hz C => ?_)
  clear h
  subst hz
  unfold f_FL_pieceCourse
  show Rt z qC_FL_pieceCourse wC g o_w 0 [(0, .ref (g.1 0)), (1, .int p1), (2, .int p2)] [] σ _
  refine q_aload_n (pc' := 1) C 0 d_FL_pieceCourse_0 rfl rfl ?_
  refine q_iload_n (pc' := 2) C 1 d_FL_pieceCourse_1 rfl rfl ?_
  refine q_iload_n (pc' := 3) C 2 d_FL_pieceCourse_2 rfl rfl ?_
  refine q_iconst (pc' := 4) C d_FL_pieceCourse_3 ki_3 rfl ?_
  refine q_callVw (fr' := 6) (lo' := 151) (pc' := 7) C FC_FL_pieceValue lmC_FL_282 d_FL_pieceCourse_4 0 (jCo kC_0) kC_0 cC_10 [.int p1, .int p2, .int (3 : Int32)] [] rfl rfl (Nat.le_of_ble_eq_true rfl) ⟨rfl, rfl⟩ (fun x h => cC_FL_pieceValue _ g hi σ p1 p2 (3 : Int32) x h) rfl (fun x1 hx1 => ?_)
  exact q_iret C rfl d_FL_pieceCourse_7 rfl
theorem d_FL_pieceX_0 : decode qC_FL_pieceX.1 0 = .ok (.aload_n 0, 1) := by decide +kernel
theorem d_FL_pieceX_1 : decode qC_FL_pieceX.1 1 = .ok (.iload_n 1, 1) := by decide +kernel
theorem d_FL_pieceX_2 : decode qC_FL_pieceX.1 2 = .ok (.iload_n 2, 1) := by decide +kernel
theorem d_FL_pieceX_3 : decode qC_FL_pieceX.1 3 = .ok (.bipush 6, 2) := by decide +kernel
theorem d_FL_pieceX_5 : decode qC_FL_pieceX.1 5 = .ok (.invokevirtual 282, 3) := by decide +kernel
theorem d_FL_pieceX_8 : decode qC_FL_pieceX.1 8 = .ok (.ireturn, 1) := by decide +kernel
set_option maxRecDepth 100000 in
def f_FL_pieceX (σ : St) (p1 : Int32) (p2 : Int32) : Option (Int32 × St) :=
  Option.bind (f_FL_pieceValue σ p1 p2 (6 : Int32)) fun x1 =>
  some (x1.1, x1.2)
set_option maxHeartbeats 4000000 in
set_option maxRecDepth 100000 in
theorem cC_FL_pieceX (l : Launch) (g : Ge) (hi : injB wC.2 g) (σ : St) (p1 : Int32) (p2 : Int32) (x : Int32 × St) (h : f_FL_pieceX σ p1 p2 = some x) : Ct l wC g yC_FL_pieceX qC_FL_pieceX 7 175 [.ref (g.1 0), .int p1, .int p2] σ (some (.int x.1), x.2) := by
  refine Ct.of (out := o_w) FC_FL_pieceX rfl hi rfl h (fun z hz C => ?_)
  clear h
  subst hz
  unfold f_FL_pieceX
  show Rt z qC_FL_pieceX wC g o_w 0 [(0, .ref (g.1 0)), (1, .int p1), (2, .int p2)] [] σ _
  refine q_aload_n (pc' := 1) C 0 d_FL_pieceX_0 rfl rfl ?_
  refine q_iload_n (pc' := 2) C 1 d_FL_pieceX_1 rfl rfl ?_
  refine q_iload_n (pc' := 3) C 2 d_FL_pieceX_2 rfl rfl ?_
  refine q_bipush (pc' := 5) C d_FL_pieceX_3 kb_6 rfl ?_
  refine q_callVw (fr' := 6) (lo' := 151) (pc' := 8) C FC_FL_pieceValue lmC_FL_282 d_FL_pieceX_5 0 (jCo kC_0) kC_0 cC_10 [.int p1, .int p2, .int (6 : Int32)] [] rfl rfl (Nat.le_of_ble_eq_true rfl) ⟨rfl, rfl⟩ (fun x h => cC_FL_pieceValue _ g hi σ p1 p2 (6 : Int32) x h) rfl (fun x1 hx1 => ?_)
  exact q_iret C rfl d_FL_pieceX_8 rfl
theorem d_FL_pieceY_0 : decode qC_FL_pieceY.1 0 = .ok (.aload_n 0, 1) := by decide +kernel
theorem d_FL_pieceY_1 : decode qC_FL_pieceY.1 1 = .ok (.iload_n 1, 1) := by decide +kernel
theorem d_FL_pieceY_2 : decode qC_FL_pieceY.1 2 = .ok (.iload_n 2, 1) := by decide +kernel
theorem d_FL_pieceY_3 : decode qC_FL_pieceY.1 3 = .ok (.bipush 7, 2) := by decide +kernel
theorem d_FL_pieceY_5 : decode qC_FL_pieceY.1 5 = .ok (.invokevirtual 282, 3) := by decide +kernel
theorem d_FL_pieceY_8 : decode qC_FL_pieceY.1 8 = .ok (.ireturn, 1) := by decide +kernel
set_option maxRecDepth 100000 in
def f_FL_pieceY (σ : St) (p1 : Int32) (p2 : Int32) : Option (Int32 × St) :=
  Option.bind (f_FL_pieceValue σ p1 p2 (7 : Int32)) fun x1 =>
  some (x1.1, x1.2)
set_option maxHeartbeats 4000000 in
set_option maxRecDepth 100000 in
theorem cC_FL_pieceY (l : Launch) (g : Ge) (hi : injB wC.2 g) (σ : St) (p1 : Int32) (p2 : Int32) (x : Int32 × St) (h : f_FL_pieceY σ p1 p2 = some x) : Ct l wC g yC_FL_pieceY qC_FL_pieceY 7 175 [.ref (g.1 0), .int p1, .int p2] σ (some (.int x.1), x.2) := by
  refine Ct.of (out := o_w) FC_FL_pieceY rfl hi rfl h (fun z hz C => ?_)
  clear h
  subst hz
  unfold f_FL_pieceY
  show Rt z qC_FL_pieceY wC g o_w 0 [(0, .ref (g.1 0)), (1, .int p1), (2, .int p2)] [] σ _
  refine q_aload_n (pc' := 1) C 0 d_FL_pieceY_0 rfl rfl ?_
  refine q_iload_n (pc' := 2) C 1 d_FL_pieceY_1 rfl rfl ?_
  refine q_iload_n (pc' := 3) C 2 d_FL_pieceY_2 rfl rfl ?_
  refine q_bipush (pc' := 5) C d_FL_pieceY_3 kb_7 rfl ?_
  refine q_callVw (fr' := 6) (lo' := 151) (pc' := 8) C FC_FL_pieceValue lmC_FL_282 d_FL_pieceY_5 0 (jCo kC_0) kC_0 cC_10 [.int p1, .int p2, .int (7 : Int32)] [] rfl rfl (Nat.le_of_ble_eq_true rfl) ⟨rfl, rfl⟩ (fun x h => cC_FL_pieceValue _ g hi σ p1 p2 (7 : Int32) x h) rfl (fun x1 hx1 => ?_)
  exact q_iret C rfl d_FL_pieceY_8 rfl
theorem d_FL_climbAltitude_0 : decode qC_FL_climbAltitude.1 0 = .ok (.aload_n 0, 1) := by decide +kernel
theorem d_FL_climbAltitude_1 : decode qC_FL_climbAltitude.1 1 = .ok (.iload_n 1, 1) := by decide +kernel
theorem d_FL_climbAltitude_2 : decode qC_FL_climbAltitude.1 2 = .ok (.iload_n 2, 1) := by decide +kernel
theorem d_FL_climbAltitude_3 : decode qC_FL_climbAltitude.1 3 = .ok (.bipush 12, 2) := by decide +kernel
theorem d_FL_climbAltitude_5 : decode qC_FL_climbAltitude.1 5 = .ok (.invokevirtual 266, 3) := by decide +kernel
theorem d_FL_climbAltitude_8 : decode qC_FL_climbAltitude.1 8 = .ok (.ireturn, 1) := by decide +kernel
set_option maxRecDepth 100000 in
def f_FL_climbAltitude (σ : St) (p1 : Int32) (p2 : Int32) : Option (Int32 × St) :=
  Option.bind (f_FL_pathValue σ p1 p2 (12 : Int32)) fun x1 =>
  some (x1.1, x1.2)
set_option maxHeartbeats 4000000 in
set_option maxRecDepth 100000 in
theorem cC_FL_climbAltitude (l : Launch) (g : Ge) (hi : injB wC.2 g) (σ : St) (p1 : Int32) (p2 : Int32) (x : Int32 × St) (h : f_FL_climbAltitude σ p1 p2 = some x) : Ct l wC g yC_FL_climbAltitude qC_FL_climbAltitude 7 175 [.ref (g.1 0), .int p1, .int p2] σ (some (.int x.1), x.2) := by
  refine Ct.of (out := o_w) FC_FL_climbAltitude rfl hi rfl h (fun z hz C => ?_)
  clear h
  subst hz
  unfold f_FL_climbAltitude
  show Rt z qC_FL_climbAltitude wC g o_w 0 [(0, .ref (g.1 0)), (1, .int p1), (2, .int p2)] [] σ _
  refine q_aload_n (pc' := 1) C 0 d_FL_climbAltitude_0 rfl rfl ?_
  refine q_iload_n (pc' := 2) C 1 d_FL_climbAltitude_1 rfl rfl ?_
  refine q_iload_n (pc' := 3) C 2 d_FL_climbAltitude_2 rfl rfl ?_
  refine q_bipush (pc' := 5) C d_FL_climbAltitude_3 kb_12 rfl ?_
  refine q_callVw (fr' := 6) (lo' := 151) (pc' := 8) C FC_FL_pathValue lmC_FL_266 d_FL_climbAltitude_5 0 (jCo kC_0) kC_0 cC_10 [.int p1, .int p2, .int (12 : Int32)] [] rfl rfl (Nat.le_of_ble_eq_true rfl) ⟨rfl, rfl⟩ (fun x h => cC_FL_pathValue _ g hi σ p1 p2 (12 : Int32) x h) rfl (fun x1 hx1 => ?_)
  exact q_iret C rfl d_FL_climbAltitude_8 rfl
theorem d_FL_descentAltitude_0 : decode qC_FL_descentAltitude.1 0 = .ok (.aload_n 0, 1) := by decide +kernel
theorem d_FL_descentAltitude_1 : decode qC_FL_descentAltitude.1 1 = .ok (.iload_n 1, 1) := by decide +kernel
theorem d_FL_descentAltitude_2 : decode qC_FL_descentAltitude.1 2 = .ok (.iload_n 2, 1) := by decide +kernel
theorem d_FL_descentAltitude_3 : decode qC_FL_descentAltitude.1 3 = .ok (.bipush 13, 2) := by decide +kernel
theorem d_FL_descentAltitude_5 : decode qC_FL_descentAltitude.1 5 = .ok (.invokevirtual 266, 3) := by decide +kernel
theorem d_FL_descentAltitude_8 : decode qC_FL_descentAltitude.1 8 = .ok (.ireturn, 1) := by decide +kernel
set_option maxRecDepth 100000 in
def f_FL_descentAltitude (σ : St) (p1 : Int32) (p2 : Int32) : Option (Int32 × St) :=
  Option.bind (f_FL_pathValue σ p1 p2 (13 : Int32)) fun x1 =>
  some (x1.1, x1.2)
set_option maxHeartbeats 4000000 in
set_option maxRecDepth 100000 in
theorem cC_FL_descentAltitude (l : Launch) (g : Ge) (hi : injB wC.2 g) (σ : St) (p1 : Int32) (p2 : Int32) (x : Int32 × St) (h : f_FL_descentAltitude σ p1 p2 = some x) : Ct l wC g yC_FL_descentAltitude qC_FL_descentAltitude 7 175 [.ref (g.1 0), .int p1, .int p2] σ (some (.int x.1), x.2) := by
  refine Ct.of (out := o_w) FC_FL_descentAltitude rfl hi rfl h (fun z hz C => ?_)
  clear h
  subst hz
  unfold f_FL_descentAltitude
  show Rt z qC_FL_descentAltitude wC g o_w 0 [(0, .ref (g.1 0)), (1, .int p1), (2, .int p2)] [] σ _
  refine q_aload_n (pc' := 1) C 0 d_FL_descentAltitude_0 rfl rfl ?_
  refine q_iload_n (pc' := 2) C 1 d_FL_descentAltitude_1 rfl rfl ?_
  refine q_iload_n (pc' := 3) C 2 d_FL_descentAltitude_2 rfl rfl ?_
  refine q_bipush (pc' := 5) C d_FL_descentAltitude_3 kb_13 rfl ?_
  refine q_callVw (fr' := 6) (lo' := 151) (pc' := 8) C FC_FL_pathValue lmC_FL_266 d_FL_descentAltitude_5 0 (jCo kC_0) kC_0 cC_10 [.int p1, .int p2, .int (13 : Int32)] [] rfl rfl (Nat.le_of_ble_eq_true rfl) ⟨rfl, rfl⟩ (fun x h => cC_FL_pathValue _ g hi σ p1 p2 (13 : Int32) x h) rfl (fun x1 hx1 => ?_)
  exact q_iret C rfl d_FL_descentAltitude_8 rfl
theorem d_FL_altitude_0 : decode qC_FL_altitude.1 0 = .ok (.aload_n 0, 1) := by decide +kernel
theorem d_FL_altitude_1 : decode qC_FL_altitude.1 1 = .ok (.iload_n 1, 1) := by decide +kernel
theorem d_FL_altitude_2 : decode qC_FL_altitude.1 2 = .ok (.iload_n 2, 1) := by decide +kernel
theorem d_FL_altitude_3 : decode qC_FL_altitude.1 3 = .ok (.bipush 14, 2) := by decide +kernel
theorem d_FL_altitude_5 : decode qC_FL_altitude.1 5 = .ok (.invokevirtual 266, 3) := by decide +kernel
theorem d_FL_altitude_8 : decode qC_FL_altitude.1 8 = .ok (.ireturn, 1) := by decide +kernel
set_option maxRecDepth 100000 in
def f_FL_altitude (σ : St) (p1 : Int32) (p2 : Int32) : Option (Int32 × St) :=
  Option.bind (f_FL_pathValue σ p1 p2 (14 : Int32)) fun x1 =>
  some (x1.1, x1.2)
set_option maxHeartbeats 4000000 in
set_option maxRecDepth 100000 in
theorem cC_FL_altitude (l : Launch) (g : Ge) (hi : injB wC.2 g) (σ : St) (p1 : Int32) (p2 : Int32) (x : Int32 × St) (h : f_FL_altitude σ p1 p2 = some x) : Ct l wC g yC_FL_altitude qC_FL_altitude 7 175 [.ref (g.1 0), .int p1, .int p2] σ (some (.int x.1), x.2) := by
  refine Ct.of (out := o_w) FC_FL_altitude rfl hi rfl h (fun z hz C => ?_)
  clear h
  subst hz
  unfold f_FL_altitude
  show Rt z qC_FL_altitude wC g o_w 0 [(0, .ref (g.1 0)), (1, .int p1), (2, .int p2)] [] σ _
  refine q_aload_n (pc' := 1) C 0 d_FL_altitude_0 rfl rfl ?_
  refine q_iload_n (pc' := 2) C 1 d_FL_altitude_1 rfl rfl ?_
  refine q_iload_n (pc' := 3) C 2 d_FL_altitude_2 rfl rfl ?_
  refine q_bipush (pc' := 5) C d_FL_altitude_3 kb_14 rfl ?_
  refine q_callVw (fr' := 6) (lo' := 151) (pc' := 8) C FC_FL_pathValue lmC_FL_266 d_FL_altitude_5 0 (jCo kC_0) kC_0 cC_10 [.int p1, .int p2, .int (14 : Int32)] [] rfl rfl (Nat.le_of_ble_eq_true rfl) ⟨rfl, rfl⟩ (fun x h => cC_FL_pathValue _ g hi σ p1 p2 (14 : Int32) x h) rfl (fun x1 hx1 => ?_)
  exact q_iret C rfl d_FL_altitude_8 rfl
theorem d_FL_altitudeAt_0 : decode qC_FL_altitudeAt.1 0 = .ok (.aload_n 0, 1) := by decide +kernel
theorem d_FL_altitudeAt_1 : decode qC_FL_altitudeAt.1 1 = .ok (.iload_n 1, 1) := by decide +kernel
theorem d_FL_altitudeAt_2 : decode qC_FL_altitudeAt.1 2 = .ok (.iload_n 2, 1) := by decide +kernel
theorem d_FL_altitudeAt_3 : decode qC_FL_altitudeAt.1 3 = .ok (.invokevirtual 259, 3) := by decide +kernel
theorem d_FL_altitudeAt_6 : decode qC_FL_altitudeAt.1 6 = .ok (.ifCond .ne 6, 3) := by decide +kernel
theorem d_FL_altitudeAt_9 : decode qC_FL_altitudeAt.1 9 = .ok (.ldc 159, 2) := by decide +kernel
theorem d_FL_altitudeAt_11 : decode qC_FL_altitudeAt.1 11 = .ok (.ireturn, 1) := by decide +kernel
theorem d_FL_altitudeAt_12 : decode qC_FL_altitudeAt.1 12 = .ok (.aload_n 0, 1) := by decide +kernel
theorem d_FL_altitudeAt_13 : decode qC_FL_altitudeAt.1 13 = .ok (.iload_n 1, 1) := by decide +kernel
theorem d_FL_altitudeAt_14 : decode qC_FL_altitudeAt.1 14 = .ok (.invokevirtual 181, 3) := by decide +kernel
theorem d_FL_altitudeAt_17 : decode qC_FL_altitudeAt.1 17 = .ok (.astore 4, 2) := by decide +kernel
theorem d_FL_altitudeAt_19 : decode qC_FL_altitudeAt.1 19 = .ok (.iload_n 3, 1) := by decide +kernel
theorem d_FL_altitudeAt_20 : decode qC_FL_altitudeAt.1 20 = .ok (.iconst 0, 1) := by decide +kernel
theorem d_FL_altitudeAt_21 : decode qC_FL_altitudeAt.1 21 = .ok (.aload 4, 2) := by decide +kernel
theorem d_FL_altitudeAt_23 : decode qC_FL_altitudeAt.1 23 = .ok (.getfield 247, 3) := by decide +kernel
theorem d_FL_altitudeAt_26 : decode qC_FL_altitudeAt.1 26 = .ok (.iload_n 2, 1) := by decide +kernel
theorem d_FL_altitudeAt_27 : decode qC_FL_altitudeAt.1 27 = .ok (.bipush 9, 2) := by decide +kernel
theorem d_FL_altitudeAt_29 : decode qC_FL_altitudeAt.1 29 = .ok (.invokevirtual 163, 3) := by decide +kernel
theorem d_FL_altitudeAt_32 : decode qC_FL_altitudeAt.1 32 = .ok (.invokestatic 75, 3) := by decide +kernel
theorem d_FL_altitudeAt_35 : decode qC_FL_altitudeAt.1 35 = .ok (.ifCond .ne 6, 3) := by decide +kernel
theorem d_FL_altitudeAt_38 : decode qC_FL_altitudeAt.1 38 = .ok (.ldc 79, 2) := by decide +kernel
theorem d_FL_altitudeAt_40 : decode qC_FL_altitudeAt.1 40 = .ok (.ireturn, 1) := by decide +kernel
theorem d_FL_altitudeAt_41 : decode qC_FL_altitudeAt.1 41 = .ok (.aload 4, 2) := by decide +kernel
theorem d_FL_altitudeAt_43 : decode qC_FL_altitudeAt.1 43 = .ok (.getfield 285, 3) := by decide +kernel
theorem d_FL_altitudeAt_46 : decode qC_FL_altitudeAt.1 46 = .ok (.iload_n 2, 1) := by decide +kernel
theorem d_FL_altitudeAt_47 : decode qC_FL_altitudeAt.1 47 = .ok (.iload_n 3, 1) := by decide +kernel
theorem d_FL_altitudeAt_48 : decode qC_FL_altitudeAt.1 48 = .ok (.invokevirtual 289, 3) := by decide +kernel
theorem d_FL_altitudeAt_51 : decode qC_FL_altitudeAt.1 51 = .ok (.ireturn, 1) := by decide +kernel
set_option maxRecDepth 100000 in
def f_FL_altitudeAt (σ : St) (p1 : Int32) (p2 : Int32) (p3 : Int32) : Option (Int32 × St) :=
  Option.bind (f_FL_isLeg σ p1 p2) fun x1 =>
  if (x1 : Int32) = 0 then (
  some ((-1000001 : Int32), σ)
  ) else (
  Option.bind (f_FL_freshPathOf σ p1) fun x2 =>
  Option.bind (f_Tb_get x2.2 (rc x2.1 1) p2 (9 : Int32)) fun x3 =>
  Option.bind (f_FL_within p3 (0 : Int32) x3) fun x4 =>
  if (x4 : Int32) = 0 then (
  some ((-1000002 : Int32), x2.2)
  ) else (
  Option.bind (f_Pf_heightOn x2.2 (rc x2.1 4) p2 p3) fun x5 =>
  some (x5, x2.2)
  )
  )
set_option maxHeartbeats 4000000 in
set_option maxRecDepth 100000 in
theorem cC_FL_altitudeAt (l : Launch) (g : Ge) (hi : injB wC.2 g) (σ : St) (p1 : Int32) (p2 : Int32) (p3 : Int32) (x : Int32 × St) (h : f_FL_altitudeAt σ p1 p2 p3 = some x) : Ct l wC g yC_FL_altitudeAt qC_FL_altitudeAt 7 173 [.ref (g.1 0), .int p1, .int p2, .int p3] σ (some (.int x.1), x.2) := by
  refine Ct.of (out := o_w) FC_FL_altitudeAt rfl hi rfl h (fun z hz C => ?_)
  clear h
  subst hz
  unfold f_FL_altitudeAt
  show Rt z qC_FL_altitudeAt wC g o_w 0 [(0, .ref (g.1 0)), (1, .int p1), (2, .int p2), (3, .int p3)] [] σ _
  refine q_aload_n (pc' := 1) C 0 d_FL_altitudeAt_0 rfl rfl ?_
  refine q_iload_n (pc' := 2) C 1 d_FL_altitudeAt_1 rfl rfl ?_
  refine q_iload_n (pc' := 3) C 2 d_FL_altitudeAt_2 rfl rfl ?_
  refine q_callVr (fr' := 1) (lo' := 21) (pc' := 6) C FC_FL_isLeg lmC_FL_259 d_FL_altitudeAt_3 0 (jCo kC_0) kC_0 cC_10 [.int p1, .int p2] [] rfl rfl (Nat.le_of_ble_eq_true rfl) ⟨rfl, rfl⟩ (fun x h => cC_FL_isLeg _ g hi σ p1 p2 x h) rfl (fun x1 hx1 => ?_)
  refine q_if_ne (tgt := 12) (pc' := 9) C d_FL_altitudeAt_6 rfl rfl ?_ ?_
  · refine q_aload_n (pc' := 13) C 0 d_FL_altitudeAt_12 rfl rfl ?_
    refine q_iload_n (pc' := 14) C 1 d_FL_altitudeAt_13 rfl rfl ?_
    refine q_callVnw (fr' := 6) (lo' := 151) (pc' := 17) C FC_FL_freshPathOf lmC_FL_181 d_FL_altitudeAt_14 0 (jCo kC_0) kC_0 cC_10 [.int p1] [] rfl rfl (Nat.le_of_ble_eq_true rfl) ⟨rfl, rfl⟩ (fun x h => cC_FL_freshPathOf _ g hi σ p1 x h) rfl (fun x2 hx2 => ?_)
    refine q_astore (pc' := 19) (lv' := [(4, .ref (g.1 x2.1)), (0, .ref (g.1 0)), (1, .int p1), (2, .int p2), (3, .int p3)]) C d_FL_altitudeAt_17 (by decide) rfl rfl ?_
    refine q_iload_n (pc' := 20) C 4 d_FL_altitudeAt_19 rfl rfl ?_
    refine q_iconst (pc' := 21) C d_FL_altitudeAt_20 ki_0 rfl ?_
    refine q_aload (pc' := 23) C 0 d_FL_altitudeAt_21 rfl rfl ?_
    refine gC_FL_247 (pc' := 26) C x2.1 (rc x2.1 1) (kd_FL_freshPathOf hx2) (ly_1_1 (kd_FL_freshPathOf hx2)).1 d_FL_altitudeAt_23 rfl rfl ?_
    refine q_iload_n (pc' := 27) C 3 d_FL_altitudeAt_26 rfl rfl ?_
    refine q_bipush (pc' := 29) C d_FL_altitudeAt_27 kb_9 rfl ?_
    refine q_callVr (fr' := 0) (lo' := 0) (pc' := 32) C FC_Tb_get lmC_FL_163 d_FL_altitudeAt_29 (rc x2.1 1) (jCo (ly_1_1 (kd_FL_freshPathOf hx2)).2) (ly_1_1 (kd_FL_freshPathOf hx2)).2 cC_8 [.int p2, .int (9 : Int32)] [.int (0 : Int32), .int p3] rfl rfl (Nat.le_of_ble_eq_true rfl) ⟨rfl, rfl⟩ (fun x h => cC_Tb_get _ g hi x2.2 (rc x2.1 1) (ly_1_1 (kd_FL_freshPathOf hx2)).2 p2 (9 : Int32) x h) rfl (fun x3 hx3 => ?_)
    refine q_callSr (fr' := 0) (lo' := 0) (pc' := 35) C FC_FL_within lmC_FL_75 d_FL_altitudeAt_32 [.int p3, .int (0 : Int32), .int x3] [] rfl rfl (Nat.le_of_ble_eq_true rfl) ⟨rfl, rfl⟩ (fun x h => cC_FL_within _ g hi x2.2 p3 (0 : Int32) x3 x h) rfl (fun x4 hx4 => ?_)
    refine q_if_ne (tgt := 41) (pc' := 38) C d_FL_altitudeAt_35 rfl rfl ?_ ?_
    · refine q_aload (pc' := 43) C 0 d_FL_altitudeAt_41 rfl rfl ?_
      refine gC_FL_285 (pc' := 46) C x2.1 (rc x2.1 4) (kd_FL_freshPathOf hx2) (ly_1_4 (kd_FL_freshPathOf hx2)).1 d_FL_altitudeAt_43 rfl rfl ?_
      refine q_iload_n (pc' := 47) C 3 d_FL_altitudeAt_46 rfl rfl ?_
      refine q_iload_n (pc' := 48) C 4 d_FL_altitudeAt_47 rfl rfl ?_
      refine q_callVr (fr' := 2) (lo' := 44) (pc' := 51) C FC_Pf_heightOn lmC_FL_289 d_FL_altitudeAt_48 (rc x2.1 4) (jCo (ly_1_4 (kd_FL_freshPathOf hx2)).2) (ly_1_4 (kd_FL_freshPathOf hx2)).2 cC_4 [.int p2, .int p3] [] rfl rfl (Nat.le_of_ble_eq_true rfl) ⟨rfl, rfl⟩ (fun x h => cC_Pf_heightOn _ g hi x2.2 (rc x2.1 4) (ly_1_4 (kd_FL_freshPathOf hx2)).2 p2 p3 x h) rfl (fun x5 hx5 => ?_)
      exact q_iret C rfl d_FL_altitudeAt_51 rfl
    · refine q_ldc (pc' := 40) C lcC_FL_79 d_FL_altitudeAt_38 rfl ?_
      exact q_iret C rfl d_FL_altitudeAt_40 rfl
  · refine q_ldc (pc' := 11) C lcC_FL_159 d_FL_altitudeAt_9 rfl ?_
    exact q_iret C rfl d_FL_altitudeAt_11 rfl
theorem d_FL_violation_0 : decode qC_FL_violation.1 0 = .ok (.aload_n 0, 1) := by decide +kernel
theorem d_FL_violation_1 : decode qC_FL_violation.1 1 = .ok (.iload_n 1, 1) := by decide +kernel
theorem d_FL_violation_2 : decode qC_FL_violation.1 2 = .ok (.iload_n 2, 1) := by decide +kernel
theorem d_FL_violation_3 : decode qC_FL_violation.1 3 = .ok (.bipush 15, 2) := by decide +kernel
theorem d_FL_violation_5 : decode qC_FL_violation.1 5 = .ok (.invokevirtual 266, 3) := by decide +kernel
theorem d_FL_violation_8 : decode qC_FL_violation.1 8 = .ok (.ireturn, 1) := by decide +kernel
set_option maxRecDepth 100000 in
def f_FL_violation (σ : St) (p1 : Int32) (p2 : Int32) : Option (Int32 × St) :=
  Option.bind (f_FL_pathValue σ p1 p2 (15 : Int32)) fun x1 =>
  some (x1.1, x1.2)
set_option maxHeartbeats 4000000 in
set_option maxRecDepth 100000 in
theorem cC_FL_violation (l : Launch) (g : Ge) (hi : injB wC.2 g) (σ : St) (p1 : Int32) (p2 : Int32) (x : Int32 × St) (h : f_FL_violation σ p1 p2 = some x) : Ct l wC g yC_FL_violation qC_FL_violation 7 175 [.ref (g.1 0), .int p1, .int p2] σ (some (.int x.1), x.2) := by
  refine Ct.of (out := o_w) FC_FL_violation rfl hi rfl h (fun z hz C => ?_)
  clear h
  subst hz
  unfold f_FL_violation
  show Rt z qC_FL_violation wC g o_w 0 [(0, .ref (g.1 0)), (1, .int p1), (2, .int p2)] [] σ _
  refine q_aload_n (pc' := 1) C 0 d_FL_violation_0 rfl rfl ?_
  refine q_iload_n (pc' := 2) C 1 d_FL_violation_1 rfl rfl ?_
  refine q_iload_n (pc' := 3) C 2 d_FL_violation_2 rfl rfl ?_
  refine q_bipush (pc' := 5) C d_FL_violation_3 kb_15 rfl ?_
  refine q_callVw (fr' := 6) (lo' := 151) (pc' := 8) C FC_FL_pathValue lmC_FL_266 d_FL_violation_5 0 (jCo kC_0) kC_0 cC_10 [.int p1, .int p2, .int (15 : Int32)] [] rfl rfl (Nat.le_of_ble_eq_true rfl) ⟨rfl, rfl⟩ (fun x h => cC_FL_pathValue _ g hi σ p1 p2 (15 : Int32) x h) rfl (fun x1 hx1 => ?_)
  exact q_iret C rfl d_FL_violation_8 rfl
theorem d_FL_topOfDescent_0 : decode qC_FL_topOfDescent.1 0 = .ok (.aload_n 0, 1) := by decide +kernel
theorem d_FL_topOfDescent_1 : decode qC_FL_topOfDescent.1 1 = .ok (.iload_n 1, 1) := by decide +kernel
theorem d_FL_topOfDescent_2 : decode qC_FL_topOfDescent.1 2 = .ok (.invokevirtual 248, 3) := by decide +kernel
theorem d_FL_topOfDescent_5 : decode qC_FL_topOfDescent.1 5 = .ok (.ifCond .eq 14, 3) := by decide +kernel
theorem d_FL_topOfDescent_8 : decode qC_FL_topOfDescent.1 8 = .ok (.aload_n 0, 1) := by decide +kernel
theorem d_FL_topOfDescent_9 : decode qC_FL_topOfDescent.1 9 = .ok (.iload_n 1, 1) := by decide +kernel
theorem d_FL_topOfDescent_10 : decode qC_FL_topOfDescent.1 10 = .ok (.invokevirtual 181, 3) := by decide +kernel
theorem d_FL_topOfDescent_13 : decode qC_FL_topOfDescent.1 13 = .ok (.invokevirtual 294, 3) := by decide +kernel
theorem d_FL_topOfDescent_16 : decode qC_FL_topOfDescent.1 16 = .ok (.goto 5, 3) := by decide +kernel
theorem d_FL_topOfDescent_19 : decode qC_FL_topOfDescent.1 19 = .ok (.ldc 159, 2) := by decide +kernel
theorem d_FL_topOfDescent_21 : decode qC_FL_topOfDescent.1 21 = .ok (.ireturn, 1) := by decide +kernel
set_option maxRecDepth 100000 in
def f_FL_topOfDescent (σ : St) (p1 : Int32) : Option (Int32 × St) :=
  Option.bind (f_FL_isPlan σ p1) fun x1 =>
  Jn (fun (x2 : Int32) (σ3 : St) =>
  some (x2, σ3)
  ) fun J4 =>
  if (x1 : Int32) = 0 then (
  J4 (-1000001 : Int32) σ
  ) else (
  Option.bind (f_FL_freshPathOf σ p1) fun x5 =>
  Option.bind (f_Pa_topOfDescentLength x5.2 x5.1) fun x6 =>
  J4 x6 x5.2
  )
set_option maxHeartbeats 4000000 in
set_option maxRecDepth 100000 in
theorem cC_FL_topOfDescent (l : Launch) (g : Ge) (hi : injB wC.2 g) (σ : St) (p1 : Int32) (x : Int32 × St) (h : f_FL_topOfDescent σ p1 = some x) : Ct l wC g yC_FL_topOfDescent qC_FL_topOfDescent 7 173 [.ref (g.1 0), .int p1] σ (some (.int x.1), x.2) := by
  refine Ct.of (out := o_w) FC_FL_topOfDescent rfl hi rfl h (fun z hz C => ?_)
  clear h
  subst hz
  unfold f_FL_topOfDescent
  show Rt z qC_FL_topOfDescent wC g o_w 0 [(0, .ref (g.1 0)), (1, .int p1)] [] σ _
  refine q_aload_n (pc' := 1) C 0 d_FL_topOfDescent_0 rfl rfl ?_
  refine q_iload_n (pc' := 2) C 1 d_FL_topOfDescent_1 rfl rfl ?_
  refine q_callVr (fr' := 0) (lo' := 0) (pc' := 5) C FC_FL_isPlan lmC_FL_248 d_FL_topOfDescent_2 0 (jCo kC_0) kC_0 cC_10 [.int p1] [] rfl rfl (Nat.le_of_ble_eq_true rfl) ⟨rfl, rfl⟩ (fun x h => cC_FL_isPlan _ g hi σ p1 x h) rfl (fun x1 hx1 => ?_)
  refine q_join (fun J4 : Int32 → St → Option (Int32 × St) => ∀ (x2 : Int32) (σ3 : St), Rt z qC_FL_topOfDescent wC g o_w 21 [] [.int x2] σ3 (J4 x2 σ3)) (fun x2 σ3 => ?_) (fun J4 hJ4 => ?_)
  · exact q_iret C rfl d_FL_topOfDescent_21 rfl
  refine q_if_eq (tgt := 19) (pc' := 8) C d_FL_topOfDescent_5 rfl rfl ?_ ?_
  · refine q_ldc (pc' := 21) C lcC_FL_159 d_FL_topOfDescent_19 rfl ?_
    exact Rt.sub [] rfl (hJ4 (-1000001 : Int32) σ)
  · refine q_aload_n (pc' := 9) C 0 d_FL_topOfDescent_8 rfl rfl ?_
    refine q_iload_n (pc' := 10) C 1 d_FL_topOfDescent_9 rfl rfl ?_
    refine q_callVnw (fr' := 6) (lo' := 151) (pc' := 13) C FC_FL_freshPathOf lmC_FL_181 d_FL_topOfDescent_10 0 (jCo kC_0) kC_0 cC_10 [.int p1] [] rfl rfl (Nat.le_of_ble_eq_true rfl) ⟨rfl, rfl⟩ (fun x h => cC_FL_freshPathOf _ g hi σ p1 x h) rfl (fun x5 hx5 => ?_)
    refine q_callVr (fr' := 2) (lo' := 46) (pc' := 16) C FC_Pa_topOfDescentLength lmC_FL_294 d_FL_topOfDescent_13 x5.1 (jCo (kd_FL_freshPathOf hx5)) (kd_FL_freshPathOf hx5) cC_1 [] [] rfl rfl (Nat.le_of_ble_eq_true rfl) ⟨rfl, rfl⟩ (fun x h => cC_Pa_topOfDescentLength _ g hi x5.2 x5.1 (kd_FL_freshPathOf hx5) x h) rfl (fun x6 hx6 => ?_)
    refine q_goto (tgt := 21) C d_FL_topOfDescent_16 rfl ?_
    exact Rt.sub [] rfl (hJ4 x6 x5.2)
theorem d_FL_gapCount_0 : decode qC_FL_gapCount.1 0 = .ok (.aload_n 0, 1) := by decide +kernel
theorem d_FL_gapCount_1 : decode qC_FL_gapCount.1 1 = .ok (.iload_n 1, 1) := by decide +kernel
theorem d_FL_gapCount_2 : decode qC_FL_gapCount.1 2 = .ok (.invokevirtual 248, 3) := by decide +kernel
theorem d_FL_gapCount_5 : decode qC_FL_gapCount.1 5 = .ok (.ifCond .eq 14, 3) := by decide +kernel
theorem d_FL_gapCount_8 : decode qC_FL_gapCount.1 8 = .ok (.aload_n 0, 1) := by decide +kernel
theorem d_FL_gapCount_9 : decode qC_FL_gapCount.1 9 = .ok (.iload_n 1, 1) := by decide +kernel
theorem d_FL_gapCount_10 : decode qC_FL_gapCount.1 10 = .ok (.invokevirtual 181, 3) := by decide +kernel
theorem d_FL_gapCount_13 : decode qC_FL_gapCount.1 13 = .ok (.invokevirtual 185, 3) := by decide +kernel
theorem d_FL_gapCount_16 : decode qC_FL_gapCount.1 16 = .ok (.goto 5, 3) := by decide +kernel
theorem d_FL_gapCount_19 : decode qC_FL_gapCount.1 19 = .ok (.ldc 159, 2) := by decide +kernel
theorem d_FL_gapCount_21 : decode qC_FL_gapCount.1 21 = .ok (.ireturn, 1) := by decide +kernel
set_option maxRecDepth 100000 in
def f_FL_gapCount (σ : St) (p1 : Int32) : Option (Int32 × St) :=
  Option.bind (f_FL_isPlan σ p1) fun x1 =>
  Jn (fun (x2 : Int32) (σ3 : St) =>
  some (x2, σ3)
  ) fun J4 =>
  if (x1 : Int32) = 0 then (
  J4 (-1000001 : Int32) σ
  ) else (
  Option.bind (f_FL_freshPathOf σ p1) fun x5 =>
  Option.bind (f_Pa_gaps x5.2 x5.1) fun x6 =>
  J4 x6 x5.2
  )
set_option maxHeartbeats 4000000 in
set_option maxRecDepth 100000 in
theorem cC_FL_gapCount (l : Launch) (g : Ge) (hi : injB wC.2 g) (σ : St) (p1 : Int32) (x : Int32 × St) (h : f_FL_gapCount σ p1 = some x) : Ct l wC g yC_FL_gapCount qC_FL_gapCount 7 173 [.ref (g.1 0), .int p1] σ (some (.int x.1), x.2) := by
  refine Ct.of (out := o_w) FC_FL_gapCount rfl hi rfl h (fun z hz C => ?_)
  clear h
  subst hz
  unfold f_FL_gapCount
  show Rt z qC_FL_gapCount wC g o_w 0 [(0, .ref (g.1 0)), (1, .int p1)] [] σ _
  refine q_aload_n (pc' := 1) C 0 d_FL_gapCount_0 rfl rfl ?_
  refine q_iload_n (pc' := 2) C 1 d_FL_gapCount_1 rfl rfl ?_
  refine q_callVr (fr' := 0) (lo' := 0) (pc' := 5) C FC_FL_isPlan lmC_FL_248 d_FL_gapCount_2 0 (jCo kC_0) kC_0 cC_10 [.int p1] [] rfl rfl (Nat.le_of_ble_eq_true rfl) ⟨rfl, rfl⟩ (fun x h => cC_FL_isPlan _ g hi σ p1 x h) rfl (fun x1 hx1 => ?_)
  refine q_join (fun J4 : Int32 → St → Option (Int32 × St) => ∀ (x2 : Int32) (σ3 : St), Rt z qC_FL_gapCount wC g o_w 21 [] [.int x2] σ3 (J4 x2 σ3)) (fun x2 σ3 => ?_) (fun J4 hJ4 => ?_)
  · exact q_iret C rfl d_FL_gapCount_21 rfl
  refine q_if_eq (tgt := 19) (pc' := 8) C d_FL_gapCount_5 rfl rfl ?_ ?_
  · refine q_ldc (pc' := 21) C lcC_FL_159 d_FL_gapCount_19 rfl ?_
    exact Rt.sub [] rfl (hJ4 (-1000001 : Int32) σ)
  · refine q_aload_n (pc' := 9) C 0 d_FL_gapCount_8 rfl rfl ?_
    refine q_iload_n (pc' := 10) C 1 d_FL_gapCount_9 rfl rfl ?_
    refine q_callVnw (fr' := 6) (lo' := 151) (pc' := 13) C FC_FL_freshPathOf lmC_FL_181 d_FL_gapCount_10 0 (jCo kC_0) kC_0 cC_10 [.int p1] [] rfl rfl (Nat.le_of_ble_eq_true rfl) ⟨rfl, rfl⟩ (fun x h => cC_FL_freshPathOf _ g hi σ p1 x h) rfl (fun x5 hx5 => ?_)
    refine q_callVr (fr' := 2) (lo' := 43) (pc' := 16) C FC_Pa_gaps lmC_FL_185 d_FL_gapCount_13 x5.1 (jCo (kd_FL_freshPathOf hx5)) (kd_FL_freshPathOf hx5) cC_1 [] [] rfl rfl (Nat.le_of_ble_eq_true rfl) ⟨rfl, rfl⟩ (fun x h => cC_Pa_gaps _ g hi x5.2 x5.1 (kd_FL_freshPathOf hx5) x h) rfl (fun x6 hx6 => ?_)
    refine q_goto (tgt := 21) C d_FL_gapCount_16 rfl ?_
    exact Rt.sub [] rfl (hJ4 x6 x5.2)
theorem d_FL_totalLength_0 : decode qC_FL_totalLength.1 0 = .ok (.aload_n 0, 1) := by decide +kernel
theorem d_FL_totalLength_1 : decode qC_FL_totalLength.1 1 = .ok (.iload_n 1, 1) := by decide +kernel
theorem d_FL_totalLength_2 : decode qC_FL_totalLength.1 2 = .ok (.invokevirtual 248, 3) := by decide +kernel
theorem d_FL_totalLength_5 : decode qC_FL_totalLength.1 5 = .ok (.ifCond .ne 6, 3) := by decide +kernel
theorem d_FL_totalLength_8 : decode qC_FL_totalLength.1 8 = .ok (.ldc 159, 2) := by decide +kernel
theorem d_FL_totalLength_10 : decode qC_FL_totalLength.1 10 = .ok (.ireturn, 1) := by decide +kernel
theorem d_FL_totalLength_11 : decode qC_FL_totalLength.1 11 = .ok (.aload_n 0, 1) := by decide +kernel
theorem d_FL_totalLength_12 : decode qC_FL_totalLength.1 12 = .ok (.iload_n 1, 1) := by decide +kernel
theorem d_FL_totalLength_13 : decode qC_FL_totalLength.1 13 = .ok (.invokevirtual 181, 3) := by decide +kernel
theorem d_FL_totalLength_16 : decode qC_FL_totalLength.1 16 = .ok (.iconst 0, 1) := by decide +kernel
theorem d_FL_totalLength_17 : decode qC_FL_totalLength.1 17 = .ok (.aload_n 0, 1) := by decide +kernel
theorem d_FL_totalLength_18 : decode qC_FL_totalLength.1 18 = .ok (.iload_n 1, 1) := by decide +kernel
theorem d_FL_totalLength_19 : decode qC_FL_totalLength.1 19 = .ok (.invokevirtual 251, 3) := by decide +kernel
theorem d_FL_totalLength_22 : decode qC_FL_totalLength.1 22 = .ok (.getfield 154, 3) := by decide +kernel
theorem d_FL_totalLength_25 : decode qC_FL_totalLength.1 25 = .ok (.iconst 1, 1) := by decide +kernel
theorem d_FL_totalLength_26 : decode qC_FL_totalLength.1 26 = .ok (.isub, 1) := by decide +kernel
theorem d_FL_totalLength_27 : decode qC_FL_totalLength.1 27 = .ok (.invokevirtual 244, 3) := by decide +kernel
theorem d_FL_totalLength_30 : decode qC_FL_totalLength.1 30 = .ok (.ireturn, 1) := by decide +kernel
set_option maxRecDepth 100000 in
def f_FL_totalLength (σ : St) (p1 : Int32) : Option (Int32 × St) :=
  Option.bind (f_FL_isPlan σ p1) fun x1 =>
  if (x1 : Int32) = 0 then (
  some ((-1000001 : Int32), σ)
  ) else (
  Option.bind (f_FL_freshPathOf σ p1) fun x2 =>
  Option.bind (f_FL_planOf x2.2 p1) fun x3 =>
  Option.bind (f_Pa_lengthOf x2.2 x2.1 (0 : Int32) ((x2.2 x3 1) - (1 : Int32))) fun x4 =>
  some (x4, x2.2)
  )
set_option maxHeartbeats 4000000 in
set_option maxRecDepth 100000 in
theorem cC_FL_totalLength (l : Launch) (g : Ge) (hi : injB wC.2 g) (σ : St) (p1 : Int32) (x : Int32 × St) (h : f_FL_totalLength σ p1 = some x) : Ct l wC g yC_FL_totalLength qC_FL_totalLength 7 173 [.ref (g.1 0), .int p1] σ (some (.int x.1), x.2) := by
  refine Ct.of (out := o_w) FC_FL_totalLength rfl hi rfl h (fun z hz C => ?_)
  clear h
  subst hz
  unfold f_FL_totalLength
  show Rt z qC_FL_totalLength wC g o_w 0 [(0, .ref (g.1 0)), (1, .int p1)] [] σ _
  refine q_aload_n (pc' := 1) C 0 d_FL_totalLength_0 rfl rfl ?_
  refine q_iload_n (pc' := 2) C 1 d_FL_totalLength_1 rfl rfl ?_
  refine q_callVr (fr' := 0) (lo' := 0) (pc' := 5) C FC_FL_isPlan lmC_FL_248 d_FL_totalLength_2 0 (jCo kC_0) kC_0 cC_10 [.int p1] [] rfl rfl (Nat.le_of_ble_eq_true rfl) ⟨rfl, rfl⟩ (fun x h => cC_FL_isPlan _ g hi σ p1 x h) rfl (fun x1 hx1 => ?_)
  refine q_if_ne (tgt := 11) (pc' := 8) C d_FL_totalLength_5 rfl rfl ?_ ?_
  · refine q_aload_n (pc' := 12) C 0 d_FL_totalLength_11 rfl rfl ?_
    refine q_iload_n (pc' := 13) C 1 d_FL_totalLength_12 rfl rfl ?_
    refine q_callVnw (fr' := 6) (lo' := 151) (pc' := 16) C FC_FL_freshPathOf lmC_FL_181 d_FL_totalLength_13 0 (jCo kC_0) kC_0 cC_10 [.int p1] [] rfl rfl (Nat.le_of_ble_eq_true rfl) ⟨rfl, rfl⟩ (fun x h => cC_FL_freshPathOf _ g hi σ p1 x h) rfl (fun x2 hx2 => ?_)
    refine q_iconst (pc' := 17) C d_FL_totalLength_16 ki_0 rfl ?_
    refine q_aload_n (pc' := 18) C 0 d_FL_totalLength_17 rfl rfl ?_
    refine q_iload_n (pc' := 19) C 1 d_FL_totalLength_18 rfl rfl ?_
    refine q_callVn (fr' := 0) (lo' := 0) (pc' := 22) C FC_FL_planOf lmC_FL_251 d_FL_totalLength_19 0 (jCo kC_0) kC_0 cC_10 [.int p1] [.int (0 : Int32), .ref (g.1 x2.1)] rfl rfl (Nat.le_of_ble_eq_true rfl) ⟨rfl, rfl⟩ (fun x h => cC_FL_planOf _ g hi x2.2 p1 x h) rfl (fun x3 hx3 => ?_)
    refine gC_FL_154 (pc' := 25) C x3 (kd_FL_planOf hx3) d_FL_totalLength_22 rfl rfl ?_
    refine q_iconst (pc' := 26) C d_FL_totalLength_25 ki_1 rfl ?_
    refine q_isub (pc' := 27) C d_FL_totalLength_26 rfl ?_
    refine q_callVr (fr' := 1) (lo' := 22) (pc' := 30) C FC_Pa_lengthOf lmC_FL_244 d_FL_totalLength_27 x2.1 (jCo (kd_FL_freshPathOf hx2)) (kd_FL_freshPathOf hx2) cC_1 [.int (0 : Int32), .int ((x2.2 x3 1) - (1 : Int32))] [] rfl rfl (Nat.le_of_ble_eq_true rfl) ⟨rfl, rfl⟩ (fun x h => cC_Pa_lengthOf _ g hi x2.2 x2.1 (kd_FL_freshPathOf hx2) (0 : Int32) ((x2.2 x3 1) - (1 : Int32)) x h) rfl (fun x4 hx4 => ?_)
    exact q_iret C rfl d_FL_totalLength_30 rfl
  · refine q_ldc (pc' := 10) C lcC_FL_159 d_FL_totalLength_8 rfl ?_
    exact q_iret C rfl d_FL_totalLength_10 rfl
theorem d_FL_totalTime_0 : decode qC_FL_totalTime.1 0 = .ok (.aload_n 0, 1) := by decide +kernel
theorem d_FL_totalTime_1 : decode qC_FL_totalTime.1 1 = .ok (.iload_n 1, 1) := by decide +kernel
theorem d_FL_totalTime_2 : decode qC_FL_totalTime.1 2 = .ok (.invokevirtual 248, 3) := by decide +kernel
theorem d_FL_totalTime_5 : decode qC_FL_totalTime.1 5 = .ok (.ifCond .eq 14, 3) := by decide +kernel
theorem d_FL_totalTime_8 : decode qC_FL_totalTime.1 8 = .ok (.aload_n 0, 1) := by decide +kernel
theorem d_FL_totalTime_9 : decode qC_FL_totalTime.1 9 = .ok (.iload_n 1, 1) := by decide +kernel
theorem d_FL_totalTime_10 : decode qC_FL_totalTime.1 10 = .ok (.invokevirtual 181, 3) := by decide +kernel
theorem d_FL_totalTime_13 : decode qC_FL_totalTime.1 13 = .ok (.invokevirtual 297, 3) := by decide +kernel
theorem d_FL_totalTime_16 : decode qC_FL_totalTime.1 16 = .ok (.goto 5, 3) := by decide +kernel
theorem d_FL_totalTime_19 : decode qC_FL_totalTime.1 19 = .ok (.ldc 159, 2) := by decide +kernel
theorem d_FL_totalTime_21 : decode qC_FL_totalTime.1 21 = .ok (.ireturn, 1) := by decide +kernel
set_option maxRecDepth 100000 in
def f_FL_totalTime (σ : St) (p1 : Int32) : Option (Int32 × St) :=
  Option.bind (f_FL_isPlan σ p1) fun x1 =>
  Jn (fun (x2 : Int32) (σ3 : St) =>
  some (x2, σ3)
  ) fun J4 =>
  if (x1 : Int32) = 0 then (
  J4 (-1000001 : Int32) σ
  ) else (
  Option.bind (f_FL_freshPathOf σ p1) fun x5 =>
  Option.bind (f_Pa_time x5.2 x5.1) fun x6 =>
  J4 x6 x5.2
  )
set_option maxHeartbeats 4000000 in
set_option maxRecDepth 100000 in
theorem cC_FL_totalTime (l : Launch) (g : Ge) (hi : injB wC.2 g) (σ : St) (p1 : Int32) (x : Int32 × St) (h : f_FL_totalTime σ p1 = some x) : Ct l wC g yC_FL_totalTime qC_FL_totalTime 7 173 [.ref (g.1 0), .int p1] σ (some (.int x.1), x.2) := by
  refine Ct.of (out := o_w) FC_FL_totalTime rfl hi rfl h (fun z hz C => ?_)
  clear h
  subst hz
  unfold f_FL_totalTime
  show Rt z qC_FL_totalTime wC g o_w 0 [(0, .ref (g.1 0)), (1, .int p1)] [] σ _
  refine q_aload_n (pc' := 1) C 0 d_FL_totalTime_0 rfl rfl ?_
  refine q_iload_n (pc' := 2) C 1 d_FL_totalTime_1 rfl rfl ?_
  refine q_callVr (fr' := 0) (lo' := 0) (pc' := 5) C FC_FL_isPlan lmC_FL_248 d_FL_totalTime_2 0 (jCo kC_0) kC_0 cC_10 [.int p1] [] rfl rfl (Nat.le_of_ble_eq_true rfl) ⟨rfl, rfl⟩ (fun x h => cC_FL_isPlan _ g hi σ p1 x h) rfl (fun x1 hx1 => ?_)
  refine q_join (fun J4 : Int32 → St → Option (Int32 × St) => ∀ (x2 : Int32) (σ3 : St), Rt z qC_FL_totalTime wC g o_w 21 [] [.int x2] σ3 (J4 x2 σ3)) (fun x2 σ3 => ?_) (fun J4 hJ4 => ?_)
  · exact q_iret C rfl d_FL_totalTime_21 rfl
  refine q_if_eq (tgt := 19) (pc' := 8) C d_FL_totalTime_5 rfl rfl ?_ ?_
  · refine q_ldc (pc' := 21) C lcC_FL_159 d_FL_totalTime_19 rfl ?_
    exact Rt.sub [] rfl (hJ4 (-1000001 : Int32) σ)
  · refine q_aload_n (pc' := 9) C 0 d_FL_totalTime_8 rfl rfl ?_
    refine q_iload_n (pc' := 10) C 1 d_FL_totalTime_9 rfl rfl ?_
    refine q_callVnw (fr' := 6) (lo' := 151) (pc' := 13) C FC_FL_freshPathOf lmC_FL_181 d_FL_totalTime_10 0 (jCo kC_0) kC_0 cC_10 [.int p1] [] rfl rfl (Nat.le_of_ble_eq_true rfl) ⟨rfl, rfl⟩ (fun x h => cC_FL_freshPathOf _ g hi σ p1 x h) rfl (fun x5 hx5 => ?_)
    refine q_callVr (fr' := 1) (lo' := 22) (pc' := 16) C FC_Pa_time lmC_FL_297 d_FL_totalTime_13 x5.1 (jCo (kd_FL_freshPathOf hx5)) (kd_FL_freshPathOf hx5) cC_1 [] [] rfl rfl (Nat.le_of_ble_eq_true rfl) ⟨rfl, rfl⟩ (fun x h => cC_Pa_time _ g hi x5.2 x5.1 (kd_FL_freshPathOf hx5) x h) rfl (fun x6 hx6 => ?_)
    refine q_goto (tgt := 21) C d_FL_totalTime_16 rfl ?_
    exact Rt.sub [] rfl (hJ4 x6 x5.2)
theorem d_FL_violationCount_0 : decode qC_FL_violationCount.1 0 = .ok (.aload_n 0, 1) := by decide +kernel
theorem d_FL_violationCount_1 : decode qC_FL_violationCount.1 1 = .ok (.iload_n 1, 1) := by decide +kernel
theorem d_FL_violationCount_2 : decode qC_FL_violationCount.1 2 = .ok (.invokevirtual 248, 3) := by decide +kernel
theorem d_FL_violationCount_5 : decode qC_FL_violationCount.1 5 = .ok (.ifCond .eq 14, 3) := by decide +kernel
theorem d_FL_violationCount_8 : decode qC_FL_violationCount.1 8 = .ok (.aload_n 0, 1) := by decide +kernel
theorem d_FL_violationCount_9 : decode qC_FL_violationCount.1 9 = .ok (.iload_n 1, 1) := by decide +kernel
theorem d_FL_violationCount_10 : decode qC_FL_violationCount.1 10 = .ok (.invokevirtual 181, 3) := by decide +kernel
theorem d_FL_violationCount_13 : decode qC_FL_violationCount.1 13 = .ok (.invokevirtual 188, 3) := by decide +kernel
theorem d_FL_violationCount_16 : decode qC_FL_violationCount.1 16 = .ok (.goto 5, 3) := by decide +kernel
theorem d_FL_violationCount_19 : decode qC_FL_violationCount.1 19 = .ok (.ldc 159, 2) := by decide +kernel
theorem d_FL_violationCount_21 : decode qC_FL_violationCount.1 21 = .ok (.ireturn, 1) := by decide +kernel
set_option maxRecDepth 100000 in
def f_FL_violationCount (σ : St) (p1 : Int32) : Option (Int32 × St) :=
  Option.bind (f_FL_isPlan σ p1) fun x1 =>
  Jn (fun (x2 : Int32) (σ3 : St) =>
  some (x2, σ3)
  ) fun J4 =>
  if (x1 : Int32) = 0 then (
  J4 (-1000001 : Int32) σ
  ) else (
  Option.bind (f_FL_freshPathOf σ p1) fun x5 =>
  Option.bind (f_Pa_violations x5.2 x5.1) fun x6 =>
  J4 x6 x5.2
  )
set_option maxHeartbeats 4000000 in
set_option maxRecDepth 100000 in
theorem cC_FL_violationCount (l : Launch) (g : Ge) (hi : injB wC.2 g) (σ : St) (p1 : Int32) (x : Int32 × St) (h : f_FL_violationCount σ p1 = some x) : Ct l wC g yC_FL_violationCount qC_FL_violationCount 7 173 [.ref (g.1 0), .int p1] σ (some (.int x.1), x.2) := by
  refine Ct.of (out := o_w) FC_FL_violationCount rfl hi rfl h (fun z hz C => ?_)
  clear h
  subst hz
  unfold f_FL_violationCount
  show Rt z qC_FL_violationCount wC g o_w 0 [(0, .ref (g.1 0)), (1, .int p1)] [] σ _
  refine q_aload_n (pc' := 1) C 0 d_FL_violationCount_0 rfl rfl ?_
  refine q_iload_n (pc' := 2) C 1 d_FL_violationCount_1 rfl rfl ?_
  refine q_callVr (fr' := 0) (lo' := 0) (pc' := 5) C FC_FL_isPlan lmC_FL_248 d_FL_violationCount_2 0 (jCo kC_0) kC_0 cC_10 [.int p1] [] rfl rfl (Nat.le_of_ble_eq_true rfl) ⟨rfl, rfl⟩ (fun x h => cC_FL_isPlan _ g hi σ p1 x h) rfl (fun x1 hx1 => ?_)
  refine q_join (fun J4 : Int32 → St → Option (Int32 × St) => ∀ (x2 : Int32) (σ3 : St), Rt z qC_FL_violationCount wC g o_w 21 [] [.int x2] σ3 (J4 x2 σ3)) (fun x2 σ3 => ?_) (fun J4 hJ4 => ?_)
  · exact q_iret C rfl d_FL_violationCount_21 rfl
  refine q_if_eq (tgt := 19) (pc' := 8) C d_FL_violationCount_5 rfl rfl ?_ ?_
  · refine q_ldc (pc' := 21) C lcC_FL_159 d_FL_violationCount_19 rfl ?_
    exact Rt.sub [] rfl (hJ4 (-1000001 : Int32) σ)
  · refine q_aload_n (pc' := 9) C 0 d_FL_violationCount_8 rfl rfl ?_
    refine q_iload_n (pc' := 10) C 1 d_FL_violationCount_9 rfl rfl ?_
    refine q_callVnw (fr' := 6) (lo' := 151) (pc' := 13) C FC_FL_freshPathOf lmC_FL_181 d_FL_violationCount_10 0 (jCo kC_0) kC_0 cC_10 [.int p1] [] rfl rfl (Nat.le_of_ble_eq_true rfl) ⟨rfl, rfl⟩ (fun x h => cC_FL_freshPathOf _ g hi σ p1 x h) rfl (fun x5 hx5 => ?_)
    refine q_callVr (fr' := 1) (lo' := 22) (pc' := 16) C FC_Pa_violations lmC_FL_188 d_FL_violationCount_13 x5.1 (jCo (kd_FL_freshPathOf hx5)) (kd_FL_freshPathOf hx5) cC_1 [] [] rfl rfl (Nat.le_of_ble_eq_true rfl) ⟨rfl, rfl⟩ (fun x h => cC_Pa_violations _ g hi x5.2 x5.1 (kd_FL_freshPathOf hx5) x h) rfl (fun x6 hx6 => ?_)
    refine q_goto (tgt := 21) C d_FL_violationCount_16 rfl ?_
    exact Rt.sub [] rfl (hJ4 x6 x5.2)
