/-! the methods of the program, 7 -/
theorem d_FL_type_0 : decode qC_FL_type.1 0 = .ok (.iload_n 1, 1) := by decide +kernel
theorem d_FL_type_1 : decode qC_FL_type.1 1 = .ok (.iconst 0, 1) := by decide +kernel
theorem d_FL_type_2 : decode qC_FL_type.1 2 = .ok (.sipush 255, 3) := by decide +kernel
theorem d_FL_type_5 : decode qC_FL_type.1 5 = .ok (.invokestatic 75, 3) := by decide +kernel
theorem d_FL_type_8 : decode qC_FL_type.1 8 = .ok (.ifCond .ne 6, 3) := by decide +kernel
theorem d_FL_type_11 : decode qC_FL_type.1 11 = .ok (.ldc 79, 2) := by decide +kernel
theorem d_FL_type_13 : decode qC_FL_type.1 13 = .ok (.ireturn, 1) := by decide +kernel
theorem d_FL_type_14 : decode qC_FL_type.1 14 = .ok (.aload_n 0, 1) := by decide +kernel
theorem d_FL_type_15 : decode qC_FL_type.1 15 = .ok (.getfield 21, 3) := by decide +kernel
theorem d_FL_type_18 : decode qC_FL_type.1 18 = .ok (.iload_n 1, 1) := by decide +kernel
theorem d_FL_type_19 : decode qC_FL_type.1 19 = .ok (.invokevirtual 80, 3) := by decide +kernel
theorem d_FL_type_22 : decode qC_FL_type.1 22 = .ok (.ifCond .eq 13, 3) := by decide +kernel
theorem d_FL_type_25 : decode qC_FL_type.1 25 = .ok (.aload_n 0, 1) := by decide +kernel
theorem d_FL_type_26 : decode qC_FL_type.1 26 = .ok (.getfield 21, 3) := by decide +kernel
theorem d_FL_type_29 : decode qC_FL_type.1 29 = .ok (.getfield 84, 3) := by decide +kernel
theorem d_FL_type_32 : decode qC_FL_type.1 32 = .ok (.goto 5, 3) := by decide +kernel
theorem d_FL_type_35 : decode qC_FL_type.1 35 = .ok (.ldc 88, 2) := by decide +kernel
theorem d_FL_type_37 : decode qC_FL_type.1 37 = .ok (.ireturn, 1) := by decide +kernel
set_option maxRecDepth 100000 in
def f_FL_type (σ : St) (p1 : Int32) : Option (Int32 × St) :=
  Option.bind (f_FL_within p1 (0 : Int32) (255 : Int32)) fun x1 =>
  if (x1 : Int32) = 0 then (
  some ((-1000002 : Int32), σ)
  ) else (
  Option.bind (f_Rx_append σ 4 p1) fun x2 =>
  Jn (fun (x3 : Int32) =>
  some (x3, x2.2)
  ) fun J4 =>
  if (x2.1 : Int32) = 0 then (
  J4 (-1000004 : Int32)
  ) else (
  J4 (x2.2 4 3)
  )
  )
set_option maxHeartbeats 4000000 in
set_option maxRecDepth 100000 in
theorem cC_FL_type (l : Launch) (g : Ge) (hi : injB wC.2 g) (σ : St) (p1 : Int32) (x : Int32 × St) (h : f_FL_type σ p1 = some x) : Ct l wC g yC_FL_type qC_FL_type 1 22 [.ref (g.1 0), .int p1] σ (some (.int x.1), x.2) := by
  refine Ct.of (out := o_w) FC_FL_type rfl hi rfl h (fun z hz C => ?_)
  clear h
  subst hz
  unfold f_FL_type
  show Rt z qC_FL_type wC g o_w 0 [(0, .ref (g.1 0)), (1, .int p1)] [] σ _
  refine q_iload_n (pc' := 1) C 1 d_FL_type_0 rfl rfl ?_
  refine q_iconst (pc' := 2) C d_FL_type_1 ki_0 rfl ?_
  refine q_sipush (pc' := 5) C d_FL_type_2 ks_255 rfl ?_
  refine q_callSr (fr' := 0) (lo' := 0) (pc' := 8) C FC_FL_within lmC_FL_75 d_FL_type_5 [.int p1, .int (0 : Int32), .int (255 : Int32)] [] rfl rfl (Nat.le_of_ble_eq_true rfl) ⟨rfl, rfl⟩ (fun x h => cC_FL_within _ g hi σ p1 (0 : Int32) (255 : Int32) x h) rfl (fun x1 hx1 => ?_)
  refine q_if_ne (tgt := 14) (pc' := 11) C d_FL_type_8 rfl rfl ?_ ?_
  · refine q_aload_n (pc' := 15) C 0 d_FL_type_14 rfl rfl ?_
    refine gC_FL_21 (pc' := 18) C 0 4 kC_0 rfl d_FL_type_15 rfl rfl ?_
    refine q_iload_n (pc' := 19) C 1 d_FL_type_18 rfl rfl ?_
    refine q_callVw (fr' := 0) (lo' := 0) (pc' := 22) C FC_Rx_append lmC_FL_80 d_FL_type_19 4 (jCo kC_4) kC_4 cC_6 [.int p1] [] rfl rfl (Nat.le_of_ble_eq_true rfl) ⟨rfl, rfl⟩ (fun x h => cC_Rx_append _ g hi σ 4 kC_4 p1 x h) rfl (fun x2 hx2 => ?_)
    refine q_join (fun J4 : Int32 → Option (Int32 × St) => ∀ (x3 : Int32), Rt z qC_FL_type wC g o_w 37 [] [.int x3] x2.2 (J4 x3)) (fun x3 => ?_) (fun J4 hJ4 => ?_)
    · exact q_iret C rfl d_FL_type_37 rfl
    refine q_if_eq (tgt := 35) (pc' := 25) C d_FL_type_22 rfl rfl ?_ ?_
    · refine q_ldc (pc' := 37) C lcC_FL_88 d_FL_type_35 rfl ?_
      exact Rt.sub [] rfl (hJ4 (-1000004 : Int32))
    · refine q_aload_n (pc' := 26) C 0 d_FL_type_25 rfl rfl ?_
      refine gC_FL_21 (pc' := 29) C 0 4 kC_0 rfl d_FL_type_26 rfl rfl ?_
      refine gC_FL_84 (pc' := 32) C 4 kC_4 d_FL_type_29 rfl rfl ?_
      refine q_goto (tgt := 37) C d_FL_type_32 rfl ?_
      exact Rt.sub [] rfl (hJ4 (x2.2 4 3))
  · refine q_ldc (pc' := 13) C lcC_FL_79 d_FL_type_11 rfl ?_
    exact q_iret C rfl d_FL_type_13 rfl
theorem d_FL_clearText_0 : decode qC_FL_clearText.1 0 = .ok (.aload_n 0, 1) := by decide +kernel
theorem d_FL_clearText_1 : decode qC_FL_clearText.1 1 = .ok (.getfield 21, 3) := by decide +kernel
theorem d_FL_clearText_4 : decode qC_FL_clearText.1 4 = .ok (.getfield 84, 3) := by decide +kernel
theorem d_FL_clearText_7 : decode qC_FL_clearText.1 7 = .ok (.istore_n 1, 1) := by decide +kernel
theorem d_FL_clearText_8 : decode qC_FL_clearText.1 8 = .ok (.aload_n 0, 1) := by decide +kernel
theorem d_FL_clearText_9 : decode qC_FL_clearText.1 9 = .ok (.getfield 21, 3) := by decide +kernel
theorem d_FL_clearText_12 : decode qC_FL_clearText.1 12 = .ok (.iconst 0, 1) := by decide +kernel
theorem d_FL_clearText_13 : decode qC_FL_clearText.1 13 = .ok (.putfield 84, 3) := by decide +kernel
theorem d_FL_clearText_16 : decode qC_FL_clearText.1 16 = .ok (.iload_n 1, 1) := by decide +kernel
theorem d_FL_clearText_17 : decode qC_FL_clearText.1 17 = .ok (.ireturn, 1) := by decide +kernel
set_option maxRecDepth 100000 in
def f_FL_clearText (σ : St) : Option (Int32 × St) :=
  Lt ((σ 4 3) : Int32) fun x1 =>
  Lt (s2 σ 4 3 (0 : Int32)) fun σ2 =>
  some (x1, σ2)
set_option maxHeartbeats 4000000 in
set_option maxRecDepth 100000 in
theorem cC_FL_clearText (l : Launch) (g : Ge) (hi : injB wC.2 g) (σ : St) (x : Int32 × St) (h : f_FL_clearText σ = some x) : Ct l wC g yC_FL_clearText qC_FL_clearText 0 0 [.ref (g.1 0)] σ (some (.int x.1), x.2) := by
  refine Ct.of (out := o_w) FC_FL_clearText rfl hi rfl h (fun z hz C => ?_)
  clear h
  subst hz
  unfold f_FL_clearText
  show Rt z qC_FL_clearText wC g o_w 0 [(0, .ref (g.1 0))] [] σ _
  refine q_aload_n (pc' := 1) C 0 d_FL_clearText_0 rfl rfl ?_
  refine gC_FL_21 (pc' := 4) C 0 4 kC_0 rfl d_FL_clearText_1 rfl rfl ?_
  refine gC_FL_84 (pc' := 7) C 4 kC_4 d_FL_clearText_4 rfl rfl ?_
  refine q_let (fun x1 e1 => ?_)
  refine q_topi e1 ?_
  refine q_istore_n (pc' := 8) (lv' := [(1, .int x1), (0, .ref (g.1 0))]) C d_FL_clearText_7 (by decide) rfl rfl ?_
  refine q_aload_n (pc' := 9) C 1 d_FL_clearText_8 rfl rfl ?_
  refine gC_FL_21 (pc' := 12) C 0 4 kC_0 rfl d_FL_clearText_9 rfl rfl ?_
  refine q_iconst (pc' := 13) C d_FL_clearText_12 ki_0 rfl ?_
  refine pC_FL_84 (pc' := 16) C 4 kC_4 d_FL_clearText_13 rfl rfl ?_
  refine q_let (fun σ2 e2 => ?_)
  refine q_state e2 ?_
  refine q_iload_n (pc' := 17) C 0 d_FL_clearText_16 rfl rfl ?_
  exact q_iret C rfl d_FL_clearText_17 rfl
theorem d_FL_textFault_0 : decode qC_FL_textFault.1 0 = .ok (.aload_n 0, 1) := by decide +kernel
theorem d_FL_textFault_1 : decode qC_FL_textFault.1 1 = .ok (.getfield 21, 3) := by decide +kernel
theorem d_FL_textFault_4 : decode qC_FL_textFault.1 4 = .ok (.invokevirtual 89, 3) := by decide +kernel
theorem d_FL_textFault_7 : decode qC_FL_textFault.1 7 = .ok (.ireturn, 1) := by decide +kernel
set_option maxRecDepth 100000 in
def f_FL_textFault (σ : St) : Option (Int32 × St) :=
  Option.bind (f_Rx_parse σ 4) fun x1 =>
  some (x1.1, x1.2)
set_option maxHeartbeats 4000000 in
set_option maxRecDepth 100000 in
theorem cC_FL_textFault (l : Launch) (g : Ge) (hi : injB wC.2 g) (σ : St) (x : Int32 × St) (h : f_FL_textFault σ = some x) : Ct l wC g yC_FL_textFault qC_FL_textFault 8 170 [.ref (g.1 0)] σ (some (.int x.1), x.2) := by
  refine Ct.of (out := o_w) FC_FL_textFault rfl hi rfl h (fun z hz C => ?_)
  clear h
  subst hz
  unfold f_FL_textFault
  show Rt z qC_FL_textFault wC g o_w 0 [(0, .ref (g.1 0))] [] σ _
  refine q_aload_n (pc' := 1) C 0 d_FL_textFault_0 rfl rfl ?_
  refine gC_FL_21 (pc' := 4) C 0 4 kC_0 rfl d_FL_textFault_1 rfl rfl ?_
  refine q_callVw (fr' := 7) (lo' := 149) (pc' := 7) C FC_Rx_parse lmC_FL_89 d_FL_textFault_4 4 (jCo kC_4) kC_4 cC_6 [] [] rfl rfl (Nat.le_of_ble_eq_true rfl) ⟨rfl, rfl⟩ (fun x h => cC_Rx_parse _ g hi σ 4 kC_4 x h) rfl (fun x1 hx1 => ?_)
  exact q_iret C rfl d_FL_textFault_7 rfl
theorem d_FL_addFix_0 : decode qC_FL_addFix.1 0 = .ok (.iload_n 1, 1) := by decide +kernel
theorem d_FL_addFix_1 : decode qC_FL_addFix.1 1 = .ok (.sipush (-9999), 3) := by decide +kernel
theorem d_FL_addFix_4 : decode qC_FL_addFix.1 4 = .ok (.sipush 9999, 3) := by decide +kernel
theorem d_FL_addFix_7 : decode qC_FL_addFix.1 7 = .ok (.invokestatic 75, 3) := by decide +kernel
theorem d_FL_addFix_10 : decode qC_FL_addFix.1 10 = .ok (.ifCond .eq 16, 3) := by decide +kernel
theorem d_FL_addFix_13 : decode qC_FL_addFix.1 13 = .ok (.iload_n 2, 1) := by decide +kernel
theorem d_FL_addFix_14 : decode qC_FL_addFix.1 14 = .ok (.sipush (-9999), 3) := by decide +kernel
theorem d_FL_addFix_17 : decode qC_FL_addFix.1 17 = .ok (.sipush 9999, 3) := by decide +kernel
theorem d_FL_addFix_20 : decode qC_FL_addFix.1 20 = .ok (.invokestatic 75, 3) := by decide +kernel
theorem d_FL_addFix_23 : decode qC_FL_addFix.1 23 = .ok (.ifCond .ne 6, 3) := by decide +kernel
theorem d_FL_addFix_26 : decode qC_FL_addFix.1 26 = .ok (.ldc 79, 2) := by decide +kernel
theorem d_FL_addFix_28 : decode qC_FL_addFix.1 28 = .ok (.ireturn, 1) := by decide +kernel
theorem d_FL_addFix_29 : decode qC_FL_addFix.1 29 = .ok (.aload_n 0, 1) := by decide +kernel
theorem d_FL_addFix_30 : decode qC_FL_addFix.1 30 = .ok (.getfield 10, 3) := by decide +kernel
theorem d_FL_addFix_33 : decode qC_FL_addFix.1 33 = .ok (.getfield 93, 3) := by decide +kernel
theorem d_FL_addFix_36 : decode qC_FL_addFix.1 36 = .ok (.bipush 16, 2) := by decide +kernel
theorem d_FL_addFix_38 : decode qC_FL_addFix.1 38 = .ok (.if_icmp .lt 6, 3) := by decide +kernel
theorem d_FL_addFix_41 : decode qC_FL_addFix.1 41 = .ok (.ldc 88, 2) := by decide +kernel
theorem d_FL_addFix_43 : decode qC_FL_addFix.1 43 = .ok (.ireturn, 1) := by decide +kernel
theorem d_FL_addFix_44 : decode qC_FL_addFix.1 44 = .ok (.aload_n 0, 1) := by decide +kernel
theorem d_FL_addFix_45 : decode qC_FL_addFix.1 45 = .ok (.getfield 10, 3) := by decide +kernel
theorem d_FL_addFix_48 : decode qC_FL_addFix.1 48 = .ok (.getfield 93, 3) := by decide +kernel
theorem d_FL_addFix_51 : decode qC_FL_addFix.1 51 = .ok (.istore_n 3, 1) := by decide +kernel
theorem d_FL_addFix_52 : decode qC_FL_addFix.1 52 = .ok (.aload_n 0, 1) := by decide +kernel
theorem d_FL_addFix_53 : decode qC_FL_addFix.1 53 = .ok (.getfield 10, 3) := by decide +kernel
theorem d_FL_addFix_56 : decode qC_FL_addFix.1 56 = .ok (.getfield 96, 3) := by decide +kernel
theorem d_FL_addFix_59 : decode qC_FL_addFix.1 59 = .ok (.iload_n 3, 1) := by decide +kernel
theorem d_FL_addFix_60 : decode qC_FL_addFix.1 60 = .ok (.iconst 0, 1) := by decide +kernel
theorem d_FL_addFix_61 : decode qC_FL_addFix.1 61 = .ok (.iload_n 1, 1) := by decide +kernel
theorem d_FL_addFix_62 : decode qC_FL_addFix.1 62 = .ok (.invokevirtual 100, 3) := by decide +kernel
theorem d_FL_addFix_65 : decode qC_FL_addFix.1 65 = .ok (.aload_n 0, 1) := by decide +kernel
theorem d_FL_addFix_66 : decode qC_FL_addFix.1 66 = .ok (.getfield 10, 3) := by decide +kernel
theorem d_FL_addFix_69 : decode qC_FL_addFix.1 69 = .ok (.getfield 96, 3) := by decide +kernel
theorem d_FL_addFix_72 : decode qC_FL_addFix.1 72 = .ok (.iload_n 3, 1) := by decide +kernel
theorem d_FL_addFix_73 : decode qC_FL_addFix.1 73 = .ok (.iconst 1, 1) := by decide +kernel
theorem d_FL_addFix_74 : decode qC_FL_addFix.1 74 = .ok (.iload_n 2, 1) := by decide +kernel
theorem d_FL_addFix_75 : decode qC_FL_addFix.1 75 = .ok (.invokevirtual 100, 3) := by decide +kernel
theorem d_FL_addFix_78 : decode qC_FL_addFix.1 78 = .ok (.aload_n 0, 1) := by decide +kernel
theorem d_FL_addFix_79 : decode qC_FL_addFix.1 79 = .ok (.getfield 10, 3) := by decide +kernel
theorem d_FL_addFix_82 : decode qC_FL_addFix.1 82 = .ok (.iload_n 3, 1) := by decide +kernel
theorem d_FL_addFix_83 : decode qC_FL_addFix.1 83 = .ok (.iconst 1, 1) := by decide +kernel
theorem d_FL_addFix_84 : decode qC_FL_addFix.1 84 = .ok (.iadd, 1) := by decide +kernel
theorem d_FL_addFix_85 : decode qC_FL_addFix.1 85 = .ok (.putfield 93, 3) := by decide +kernel
theorem d_FL_addFix_88 : decode qC_FL_addFix.1 88 = .ok (.iload_n 3, 1) := by decide +kernel
theorem d_FL_addFix_89 : decode qC_FL_addFix.1 89 = .ok (.ireturn, 1) := by decide +kernel
set_option maxRecDepth 100000 in
def f_FL_addFix (σ : St) (p1 : Int32) (p2 : Int32) : Option (Int32 × St) :=
  Option.bind (f_FL_within p1 (-9999 : Int32) (9999 : Int32)) fun x1 =>
  Jn (fun (_ : Unit) =>
  some ((-1000002 : Int32), σ)
  ) fun J2 =>
  if (x1 : Int32) = 0 then (
  J2 ()
  ) else (
  Option.bind (f_FL_within p2 (-9999 : Int32) (9999 : Int32)) fun x3 =>
  if (x3 : Int32) = 0 then (
  J2 ()
  ) else (
  if ((σ 1 1) : Int32) < (16 : Int32) then (
  Lt ((σ 1 1) : Int32) fun x4 =>
  Option.bind (f_Tb_put σ 2 x4 (0 : Int32) p1) fun x5 =>
  Option.bind (f_Tb_put x5 2 x4 (1 : Int32) p2) fun x6 =>
  Lt (s2 x6 1 1 (x4 + (1 : Int32))) fun σ7 =>
  some (x4, σ7)
  ) else (
  some ((-1000004 : Int32), σ)
  )
  )
  )
set_option maxHeartbeats 4000000 in
set_option maxRecDepth 100000 in
theorem cC_FL_addFix (l : Launch) (g : Ge) (hi : injB wC.2 g) (σ : St) (p1 : Int32) (p2 : Int32) (x : Int32 × St) (h : f_FL_addFix σ p1 p2 = some x) : Ct l wC g yC_FL_addFix qC_FL_addFix 1 23 [.ref (g.1 0), .int p1, .int p2] σ (some (.int x.1), x.2) := by
  refine Ct.of (out := o_w) FC_FL_addFix rfl hi rfl h (fun z hz C => ?_)
  clear h
  subst hz
  unfold f_FL_addFix
  show Rt z qC_FL_addFix wC g o_w 0 [(0, .ref (g.1 0)), (1, .int p1), (2, .int p2)] [] σ _
  refine q_iload_n (pc' := 1) C 1 d_FL_addFix_0 rfl rfl ?_
  refine q_sipush (pc' := 4) C d_FL_addFix_1 ks_m9999 rfl ?_
  refine q_sipush (pc' := 7) C d_FL_addFix_4 ks_9999 rfl ?_
  refine q_callSr (fr' := 0) (lo' := 0) (pc' := 10) C FC_FL_within lmC_FL_75 d_FL_addFix_7 [.int p1, .int (-9999 : Int32), .int (9999 : Int32)] [] rfl rfl (Nat.le_of_ble_eq_true rfl) ⟨rfl, rfl⟩ (fun x h => cC_FL_within _ g hi σ p1 (-9999 : Int32) (9999 : Int32) x h) rfl (fun x1 hx1 => ?_)
  refine q_join (fun J2 : Unit → Option (Int32 × St) => ∀ (_ : Unit), Rt z qC_FL_addFix wC g o_w 26 [] [] σ (J2 ())) (fun _ => ?_) (fun J2 hJ2 => ?_)
  · refine q_ldc (pc' := 28) C lcC_FL_79 d_FL_addFix_26 rfl ?_
    exact q_iret C rfl d_FL_addFix_28 rfl
  refine q_if_eq (tgt := 26) (pc' := 13) C d_FL_addFix_10 rfl rfl ?_ ?_
  · exact Rt.sub [] rfl (hJ2 ())
  · refine q_iload_n (pc' := 14) C 2 d_FL_addFix_13 rfl rfl ?_
    refine q_sipush (pc' := 17) C d_FL_addFix_14 ks_m9999 rfl ?_
    refine q_sipush (pc' := 20) C d_FL_addFix_17 ks_9999 rfl ?_
    refine q_callSr (fr' := 0) (lo' := 0) (pc' := 23) C FC_FL_within lmC_FL_75 d_FL_addFix_20 [.int p2, .int (-9999 : Int32), .int (9999 : Int32)] [] rfl rfl (Nat.le_of_ble_eq_true rfl) ⟨rfl, rfl⟩ (fun x h => cC_FL_within _ g hi σ p2 (-9999 : Int32) (9999 : Int32) x h) rfl (fun x3 hx3 => ?_)
    refine q_if_ne (tgt := 29) (pc' := 26) C d_FL_addFix_23 rfl rfl ?_ ?_
    · refine q_aload_n (pc' := 30) C 0 d_FL_addFix_29 rfl rfl ?_
      refine gC_FL_10 (pc' := 33) C 0 1 kC_0 rfl d_FL_addFix_30 rfl rfl ?_
      refine gC_FL_93 (pc' := 36) C 1 kC_1 d_FL_addFix_33 rfl rfl ?_
      refine q_bipush (pc' := 38) C d_FL_addFix_36 kb_16 rfl ?_
      refine q_icmp_lt (tgt := 44) (pc' := 41) C d_FL_addFix_38 rfl rfl ?_ ?_
      · refine q_aload_n (pc' := 45) C 0 d_FL_addFix_44 rfl rfl ?_
        refine gC_FL_10 (pc' := 48) C 0 1 kC_0 rfl d_FL_addFix_45 rfl rfl ?_
        refine gC_FL_93 (pc' := 51) C 1 kC_1 d_FL_addFix_48 rfl rfl ?_
        refine q_let (fun x4 e4 => ?_)
        refine q_topi e4 ?_
        refine q_istore_n (pc' := 52) (lv' := [(3, .int x4), (0, .ref (g.1 0)), (1, .int p1), (2, .int p2)]) C d_FL_addFix_51 (by decide) rfl rfl ?_
        refine q_aload_n (pc' := 53) C 1 d_FL_addFix_52 rfl rfl ?_
        refine gC_FL_10 (pc' := 56) C 0 1 kC_0 rfl d_FL_addFix_53 rfl rfl ?_
        refine gC_FL_96 (pc' := 59) C 1 2 kC_1 rfl d_FL_addFix_56 rfl rfl ?_
        refine q_iload_n (pc' := 60) C 0 d_FL_addFix_59 rfl rfl ?_
        refine q_iconst (pc' := 61) C d_FL_addFix_60 ki_0 rfl ?_
        refine q_iload_n (pc' := 62) C 2 d_FL_addFix_61 rfl rfl ?_
        refine q_callVv (fr' := 0) (lo' := 0) (pc' := 65) C FC_Tb_put lmC_FL_100 d_FL_addFix_62 2 (jCo kC_2) kC_2 cC_8 [.int x4, .int (0 : Int32), .int p1] [] rfl rfl (Nat.le_of_ble_eq_true rfl) ⟨rfl, rfl⟩ (fun x h => cC_Tb_put _ g hi σ 2 kC_2 x4 (0 : Int32) p1 x h) rfl (fun x5 hx5 => ?_)
        refine q_aload_n (pc' := 66) C 1 d_FL_addFix_65 rfl rfl ?_
        refine gC_FL_10 (pc' := 69) C 0 1 kC_0 rfl d_FL_addFix_66 rfl rfl ?_
        refine gC_FL_96 (pc' := 72) C 1 2 kC_1 rfl d_FL_addFix_69 rfl rfl ?_
        refine q_iload_n (pc' := 73) C 0 d_FL_addFix_72 rfl rfl ?_
        refine q_iconst (pc' := 74) C d_FL_addFix_73 ki_1 rfl ?_
        refine q_iload_n (pc' := 75) C 3 d_FL_addFix_74 rfl rfl ?_
        refine q_callVv (fr' := 0) (lo' := 0) (pc' := 78) C FC_Tb_put lmC_FL_100 d_FL_addFix_75 2 (jCo kC_2) kC_2 cC_8 [.int x4, .int (1 : Int32), .int p2] [] rfl rfl (Nat.le_of_ble_eq_true rfl) ⟨rfl, rfl⟩ (fun x h => cC_Tb_put _ g hi x5 2 kC_2 x4 (1 : Int32) p2 x h) rfl (fun x6 hx6 => ?_)
        refine q_aload_n (pc' := 79) C 1 d_FL_addFix_78 rfl rfl ?_
        refine gC_FL_10 (pc' := 82) C 0 1 kC_0 rfl d_FL_addFix_79 rfl rfl ?_
        refine q_iload_n (pc' := 83) C 0 d_FL_addFix_82 rfl rfl ?_
        refine q_iconst (pc' := 84) C d_FL_addFix_83 ki_1 rfl ?_
        refine q_iadd (pc' := 85) C d_FL_addFix_84 rfl ?_
        refine pC_FL_93 (pc' := 88) C 1 kC_1 d_FL_addFix_85 rfl rfl ?_
        refine q_let (fun σ7 e7 => ?_)
        refine q_state e7 ?_
        refine q_iload_n (pc' := 89) C 0 d_FL_addFix_88 rfl rfl ?_
        exact q_iret C rfl d_FL_addFix_89 rfl
      · refine q_ldc (pc' := 43) C lcC_FL_88 d_FL_addFix_41 rfl ?_
        exact q_iret C rfl d_FL_addFix_43 rfl
    · exact Rt.sub [] rfl (hJ2 ())
theorem d_FL_afterSetting_0 : decode qC_FL_afterSetting.1 0 = .ok (.aload_n 0, 1) := by decide +kernel
theorem d_FL_afterSetting_1 : decode qC_FL_afterSetting.1 1 = .ok (.getfield 45, 3) := by decide +kernel
theorem d_FL_afterSetting_4 : decode qC_FL_afterSetting.1 4 = .ok (.iconst 1, 1) := by decide +kernel
theorem d_FL_afterSetting_5 : decode qC_FL_afterSetting.1 5 = .ok (.putfield 215, 3) := by decide +kernel
theorem d_FL_afterSetting_8 : decode qC_FL_afterSetting.1 8 = .ok (.aload_n 0, 1) := by decide +kernel
theorem d_FL_afterSetting_9 : decode qC_FL_afterSetting.1 9 = .ok (.getfield 49, 3) := by decide +kernel
theorem d_FL_afterSetting_12 : decode qC_FL_afterSetting.1 12 = .ok (.iconst 1, 1) := by decide +kernel
theorem d_FL_afterSetting_13 : decode qC_FL_afterSetting.1 13 = .ok (.putfield 215, 3) := by decide +kernel
theorem d_FL_afterSetting_16 : decode qC_FL_afterSetting.1 16 = .ok (.aload_n 0, 1) := by decide +kernel
theorem d_FL_afterSetting_17 : decode qC_FL_afterSetting.1 17 = .ok (.getfield 45, 3) := by decide +kernel
theorem d_FL_afterSetting_20 : decode qC_FL_afterSetting.1 20 = .ok (.invokevirtual 231, 3) := by decide +kernel
theorem d_FL_afterSetting_23 : decode qC_FL_afterSetting.1 23 = .ok (.aload_n 0, 1) := by decide +kernel
theorem d_FL_afterSetting_24 : decode qC_FL_afterSetting.1 24 = .ok (.getfield 67, 3) := by decide +kernel
theorem d_FL_afterSetting_27 : decode qC_FL_afterSetting.1 27 = .ok (.invokevirtual 310, 3) := by decide +kernel
theorem d_FL_afterSetting_30 : decode qC_FL_afterSetting.1 30 = .ok (.return_, 1) := by decide +kernel
set_option maxRecDepth 100000 in
def f_FL_afterSetting (σ : St) : Option (St) :=
  Lt (s2 σ 17 5 (1 : Int32)) fun σ1 =>
  Lt (s2 σ1 27 5 (1 : Int32)) fun σ2 =>
  Option.bind (f_Pa_refresh σ2 17) fun x3 =>
  Option.bind (f_Pg_cutToLeg x3 52) fun x4 =>
  some x4
set_option maxHeartbeats 4000000 in
set_option maxRecDepth 100000 in
theorem cC_FL_afterSetting (l : Launch) (g : Ge) (hi : injB wC.2 g) (σ : St) (x : St) (h : f_FL_afterSetting σ = some x) : Ct l wC g yC_FL_afterSetting qC_FL_afterSetting 6 151 [.ref (g.1 0)] σ (none, x) := by
  refine Ct.of (out := o_v) FC_FL_afterSetting rfl hi rfl h (fun z hz C => ?_)
  clear h
  subst hz
  unfold f_FL_afterSetting
  show Rt z qC_FL_afterSetting wC g o_v 0 [(0, .ref (g.1 0))] [] σ _
  refine q_aload_n (pc' := 1) C 0 d_FL_afterSetting_0 rfl rfl ?_
  refine gC_FL_45 (pc' := 4) C 0 17 kC_0 rfl d_FL_afterSetting_1 rfl rfl ?_
  refine q_iconst (pc' := 5) C d_FL_afterSetting_4 ki_1 rfl ?_
  refine pC_FL_215 (pc' := 8) C 17 kC_17 d_FL_afterSetting_5 (by decide) rfl rfl ?_
  refine q_let (fun σ1 e1 => ?_)
  refine q_state e1 ?_
  refine q_aload_n (pc' := 9) C 0 d_FL_afterSetting_8 rfl rfl ?_
  refine gC_FL_49 (pc' := 12) C 0 27 kC_0 rfl d_FL_afterSetting_9 rfl rfl ?_
  refine q_iconst (pc' := 13) C d_FL_afterSetting_12 ki_1 rfl ?_
  refine pC_FL_215 (pc' := 16) C 27 kC_27 d_FL_afterSetting_13 (by decide) rfl rfl ?_
  refine q_let (fun σ2 e2 => ?_)
  refine q_state e2 ?_
  refine q_aload_n (pc' := 17) C 0 d_FL_afterSetting_16 rfl rfl ?_
  refine gC_FL_45 (pc' := 20) C 0 17 kC_0 rfl d_FL_afterSetting_17 rfl rfl ?_
  refine q_callVv (fr' := 5) (lo' := 129) (pc' := 23) C FC_Pa_refresh lmC_FL_231 d_FL_afterSetting_20 17 (jCo kC_17) kC_17 cC_1 [] [] rfl rfl (Nat.le_of_ble_eq_true rfl) ⟨rfl, rfl⟩ (fun x h => cC_Pa_refresh _ g hi σ2 17 kC_17 x h) rfl (fun x3 hx3 => ?_)
  refine q_aload_n (pc' := 24) C 0 d_FL_afterSetting_23 rfl rfl ?_
  refine gC_FL_67 (pc' := 27) C 0 52 kC_0 rfl d_FL_afterSetting_24 rfl rfl ?_
  refine q_callVv (fr' := 1) (lo' := 22) (pc' := 30) C FC_Pg_cutToLeg lmC_FL_310 d_FL_afterSetting_27 52 (jCo kC_52) kC_52 cC_5 [] [] rfl rfl (Nat.le_of_ble_eq_true rfl) ⟨rfl, rfl⟩ (fun x h => cC_Pg_cutToLeg _ g hi x3 52 kC_52 x h) rfl (fun x4 hx4 => ?_)
  exact q_vret C rfl d_FL_afterSetting_30 rfl
theorem d_FL_setWind_0 : decode qC_FL_setWind.1 0 = .ok (.iload_n 1, 1) := by decide +kernel
theorem d_FL_setWind_1 : decode qC_FL_setWind.1 1 = .ok (.bipush (-99), 2) := by decide +kernel
theorem d_FL_setWind_3 : decode qC_FL_setWind.1 3 = .ok (.bipush 99, 2) := by decide +kernel
theorem d_FL_setWind_5 : decode qC_FL_setWind.1 5 = .ok (.invokestatic 75, 3) := by decide +kernel
theorem d_FL_setWind_8 : decode qC_FL_setWind.1 8 = .ok (.ifCond .eq 14, 3) := by decide +kernel
theorem d_FL_setWind_11 : decode qC_FL_setWind.1 11 = .ok (.iload_n 2, 1) := by decide +kernel
theorem d_FL_setWind_12 : decode qC_FL_setWind.1 12 = .ok (.bipush (-99), 2) := by decide +kernel
theorem d_FL_setWind_14 : decode qC_FL_setWind.1 14 = .ok (.bipush 99, 2) := by decide +kernel
theorem d_FL_setWind_16 : decode qC_FL_setWind.1 16 = .ok (.invokestatic 75, 3) := by decide +kernel
theorem d_FL_setWind_19 : decode qC_FL_setWind.1 19 = .ok (.ifCond .ne 6, 3) := by decide +kernel
theorem d_FL_setWind_22 : decode qC_FL_setWind.1 22 = .ok (.ldc 79, 2) := by decide +kernel
theorem d_FL_setWind_24 : decode qC_FL_setWind.1 24 = .ok (.ireturn, 1) := by decide +kernel
theorem d_FL_setWind_25 : decode qC_FL_setWind.1 25 = .ok (.aload_n 0, 1) := by decide +kernel
theorem d_FL_setWind_26 : decode qC_FL_setWind.1 26 = .ok (.getfield 10, 3) := by decide +kernel
theorem d_FL_setWind_29 : decode qC_FL_setWind.1 29 = .ok (.iload_n 1, 1) := by decide +kernel
theorem d_FL_setWind_30 : decode qC_FL_setWind.1 30 = .ok (.putfield 106, 3) := by decide +kernel
theorem d_FL_setWind_33 : decode qC_FL_setWind.1 33 = .ok (.aload_n 0, 1) := by decide +kernel
theorem d_FL_setWind_34 : decode qC_FL_setWind.1 34 = .ok (.getfield 10, 3) := by decide +kernel
theorem d_FL_setWind_37 : decode qC_FL_setWind.1 37 = .ok (.iload_n 2, 1) := by decide +kernel
theorem d_FL_setWind_38 : decode qC_FL_setWind.1 38 = .ok (.putfield 109, 3) := by decide +kernel
theorem d_FL_setWind_41 : decode qC_FL_setWind.1 41 = .ok (.aload_n 0, 1) := by decide +kernel
theorem d_FL_setWind_42 : decode qC_FL_setWind.1 42 = .ok (.invokevirtual 112, 3) := by decide +kernel
theorem d_FL_setWind_45 : decode qC_FL_setWind.1 45 = .ok (.iconst 1, 1) := by decide +kernel
theorem d_FL_setWind_46 : decode qC_FL_setWind.1 46 = .ok (.ireturn, 1) := by decide +kernel
set_option maxRecDepth 100000 in
def f_FL_setWind (σ : St) (p1 : Int32) (p2 : Int32) : Option (Int32 × St) :=
  Option.bind (f_FL_within p1 (-99 : Int32) (99 : Int32)) fun x1 =>
  Jn (fun (_ : Unit) =>
  some ((-1000002 : Int32), σ)
  ) fun J2 =>
  if (x1 : Int32) = 0 then (
  J2 ()
  ) else (
  Option.bind (f_FL_within p2 (-99 : Int32) (99 : Int32)) fun x3 =>
  if (x3 : Int32) = 0 then (
  J2 ()
  ) else (
  Lt (s2 σ 1 2 p1) fun σ4 =>
  Lt (s2 σ4 1 3 p2) fun σ5 =>
  Option.bind (f_FL_afterSetting σ5) fun x6 =>
  some ((1 : Int32), x6)
  )
  )
set_option maxHeartbeats 4000000 in
set_option maxRecDepth 100000 in
theorem cC_FL_setWind (l : Launch) (g : Ge) (hi : injB wC.2 g) (σ : St) (p1 : Int32) (p2 : Int32) (x : Int32 × St) (h : f_FL_setWind σ p1 p2 = some x) : Ct l wC g yC_FL_setWind qC_FL_setWind 7 171 [.ref (g.1 0), .int p1, .int p2] σ (some (.int x.1), x.2) := by
  refine Ct.of (out := o_w) FC_FL_setWind rfl hi rfl h (fun z hz C => ?_)
  clear h
  subst hz
  unfold f_FL_setWind
  show Rt z qC_FL_setWind wC g o_w 0 [(0, .ref (g.1 0)), (1, .int p1), (2, .int p2)] [] σ _
  refine q_iload_n (pc' := 1) C 1 d_FL_setWind_0 rfl rfl ?_
  refine q_bipush (pc' := 3) C d_FL_setWind_1 kb_m99 rfl ?_
  refine q_bipush (pc' := 5) C d_FL_setWind_3 kb_99 rfl ?_
  refine q_callSr (fr' := 0) (lo' := 0) (pc' := 8) C FC_FL_within lmC_FL_75 d_FL_setWind_5 [.int p1, .int (-99 : Int32), .int (99 : Int32)] [] rfl rfl (Nat.le_of_ble_eq_true rfl) ⟨rfl, rfl⟩ (fun x h => cC_FL_within _ g hi σ p1 (-99 : Int32) (99 : Int32) x h) rfl (fun x1 hx1 => ?_)
  refine q_join (fun J2 : Unit → Option (Int32 × St) => ∀ (_ : Unit), Rt z qC_FL_setWind wC g o_w 22 [] [] σ (J2 ())) (fun _ => ?_) (fun J2 hJ2 => ?_)
  · refine q_ldc (pc' := 24) C lcC_FL_79 d_FL_setWind_22 rfl ?_
    exact q_iret C rfl d_FL_setWind_24 rfl
  refine q_if_eq (tgt := 22) (pc' := 11) C d_FL_setWind_8 rfl rfl ?_ ?_
  · exact Rt.sub [] rfl (hJ2 ())
  · refine q_iload_n (pc' := 12) C 2 d_FL_setWind_11 rfl rfl ?_
    refine q_bipush (pc' := 14) C d_FL_setWind_12 kb_m99 rfl ?_
    refine q_bipush (pc' := 16) C d_FL_setWind_14 kb_99 rfl ?_
    refine q_callSr (fr' := 0) (lo' := 0) (pc' := 19) C FC_FL_within lmC_FL_75 d_FL_setWind_16 [.int p2, .int (-99 : Int32), .int (99 : Int32)] [] rfl rfl (Nat.le_of_ble_eq_true rfl) ⟨rfl, rfl⟩ (fun x h => cC_FL_within _ g hi σ p2 (-99 : Int32) (99 : Int32) x h) rfl (fun x3 hx3 => ?_)
    refine q_if_ne (tgt := 25) (pc' := 22) C d_FL_setWind_19 rfl rfl ?_ ?_
    · refine q_aload_n (pc' := 26) C 0 d_FL_setWind_25 rfl rfl ?_
      refine gC_FL_10 (pc' := 29) C 0 1 kC_0 rfl d_FL_setWind_26 rfl rfl ?_
      refine q_iload_n (pc' := 30) C 1 d_FL_setWind_29 rfl rfl ?_
      refine pC_FL_106 (pc' := 33) C 1 kC_1 d_FL_setWind_30 rfl rfl ?_
      refine q_let (fun σ4 e4 => ?_)
      refine q_state e4 ?_
      refine q_aload_n (pc' := 34) C 0 d_FL_setWind_33 rfl rfl ?_
      refine gC_FL_10 (pc' := 37) C 0 1 kC_0 rfl d_FL_setWind_34 rfl rfl ?_
      refine q_iload_n (pc' := 38) C 2 d_FL_setWind_37 rfl rfl ?_
      refine pC_FL_109 (pc' := 41) C 1 kC_1 d_FL_setWind_38 rfl rfl ?_
      refine q_let (fun σ5 e5 => ?_)
      refine q_state e5 ?_
      refine q_aload_n (pc' := 42) C 0 d_FL_setWind_41 rfl rfl ?_
      refine q_callVv (fr' := 6) (lo' := 151) (pc' := 45) C FC_FL_afterSetting lmC_FL_112 d_FL_setWind_42 0 (jCo kC_0) kC_0 cC_10 [] [] rfl rfl (Nat.le_of_ble_eq_true rfl) ⟨rfl, rfl⟩ (fun x h => cC_FL_afterSetting _ g hi σ5 x h) rfl (fun x6 hx6 => ?_)
      refine q_iconst (pc' := 46) C d_FL_setWind_45 ki_1 rfl ?_
      exact q_iret C rfl d_FL_setWind_46 rfl
    · exact Rt.sub [] rfl (hJ2 ())
theorem d_FL_setCruise_0 : decode qC_FL_setCruise.1 0 = .ok (.iload_n 1, 1) := by decide +kernel
theorem d_FL_setCruise_1 : decode qC_FL_setCruise.1 1 = .ok (.bipush 10, 2) := by decide +kernel
theorem d_FL_setCruise_3 : decode qC_FL_setCruise.1 3 = .ok (.sipush 450, 3) := by decide +kernel
theorem d_FL_setCruise_6 : decode qC_FL_setCruise.1 6 = .ok (.invokestatic 75, 3) := by decide +kernel
theorem d_FL_setCruise_9 : decode qC_FL_setCruise.1 9 = .ok (.ifCond .eq 15, 3) := by decide +kernel
theorem d_FL_setCruise_12 : decode qC_FL_setCruise.1 12 = .ok (.iload_n 2, 1) := by decide +kernel
theorem d_FL_setCruise_13 : decode qC_FL_setCruise.1 13 = .ok (.bipush 100, 2) := by decide +kernel
theorem d_FL_setCruise_15 : decode qC_FL_setCruise.1 15 = .ok (.sipush 500, 3) := by decide +kernel
theorem d_FL_setCruise_18 : decode qC_FL_setCruise.1 18 = .ok (.invokestatic 75, 3) := by decide +kernel
theorem d_FL_setCruise_21 : decode qC_FL_setCruise.1 21 = .ok (.ifCond .ne 6, 3) := by decide +kernel
theorem d_FL_setCruise_24 : decode qC_FL_setCruise.1 24 = .ok (.ldc 79, 2) := by decide +kernel
theorem d_FL_setCruise_26 : decode qC_FL_setCruise.1 26 = .ok (.ireturn, 1) := by decide +kernel
theorem d_FL_setCruise_27 : decode qC_FL_setCruise.1 27 = .ok (.aload_n 0, 1) := by decide +kernel
theorem d_FL_setCruise_28 : decode qC_FL_setCruise.1 28 = .ok (.getfield 10, 3) := by decide +kernel
theorem d_FL_setCruise_31 : decode qC_FL_setCruise.1 31 = .ok (.getfield 115, 3) := by decide +kernel
theorem d_FL_setCruise_34 : decode qC_FL_setCruise.1 34 = .ok (.istore_n 3, 1) := by decide +kernel
theorem d_FL_setCruise_35 : decode qC_FL_setCruise.1 35 = .ok (.aload_n 0, 1) := by decide +kernel
theorem d_FL_setCruise_36 : decode qC_FL_setCruise.1 36 = .ok (.getfield 10, 3) := by decide +kernel
theorem d_FL_setCruise_39 : decode qC_FL_setCruise.1 39 = .ok (.iload_n 1, 1) := by decide +kernel
theorem d_FL_setCruise_40 : decode qC_FL_setCruise.1 40 = .ok (.putfield 115, 3) := by decide +kernel
theorem d_FL_setCruise_43 : decode qC_FL_setCruise.1 43 = .ok (.aload_n 0, 1) := by decide +kernel
theorem d_FL_setCruise_44 : decode qC_FL_setCruise.1 44 = .ok (.getfield 10, 3) := by decide +kernel
theorem d_FL_setCruise_47 : decode qC_FL_setCruise.1 47 = .ok (.iload_n 2, 1) := by decide +kernel
theorem d_FL_setCruise_48 : decode qC_FL_setCruise.1 48 = .ok (.putfield 118, 3) := by decide +kernel
theorem d_FL_setCruise_51 : decode qC_FL_setCruise.1 51 = .ok (.aload_n 0, 1) := by decide +kernel
theorem d_FL_setCruise_52 : decode qC_FL_setCruise.1 52 = .ok (.invokevirtual 112, 3) := by decide +kernel
theorem d_FL_setCruise_55 : decode qC_FL_setCruise.1 55 = .ok (.iload_n 3, 1) := by decide +kernel
theorem d_FL_setCruise_56 : decode qC_FL_setCruise.1 56 = .ok (.ireturn, 1) := by decide +kernel
set_option maxRecDepth 100000 in
def f_FL_setCruise (σ : St) (p1 : Int32) (p2 : Int32) : Option (Int32 × St) :=
  Option.bind (f_FL_within p1 (10 : Int32) (450 : Int32)) fun x1 =>
  Jn (fun (_ : Unit) =>
  some ((-1000002 : Int32), σ)
  ) fun J2 =>
  if (x1 : Int32) = 0 then (
  J2 ()
  ) else (
  Option.bind (f_FL_within p2 (100 : Int32) (500 : Int32)) fun x3 =>
  if (x3 : Int32) = 0 then (
  J2 ()
  ) else (
  Lt ((σ 1 4) : Int32) fun x4 =>
  Lt (s2 σ 1 4 p1) fun σ5 =>
  Lt (s2 σ5 1 5 p2) fun σ6 =>
  Option.bind (f_FL_afterSetting σ6) fun x7 =>
  some (x4, x7)
  )
  )
set_option maxHeartbeats 4000000 in
set_option maxRecDepth 100000 in
theorem cC_FL_setCruise (l : Launch) (g : Ge) (hi : injB wC.2 g) (σ : St) (p1 : Int32) (p2 : Int32) (x : Int32 × St) (h : f_FL_setCruise σ p1 p2 = some x) : Ct l wC g yC_FL_setCruise qC_FL_setCruise 7 171 [.ref (g.1 0), .int p1, .int p2] σ (some (.int x.1), x.2) := by
  refine Ct.of (out := o_w) FC_FL_setCruise rfl hi rfl h (fun z hz C => ?_)
  clear h
  subst hz
  unfold f_FL_setCruise
  show Rt z qC_FL_setCruise wC g o_w 0 [(0, .ref (g.1 0)), (1, .int p1), (2, .int p2)] [] σ _
  refine q_iload_n (pc' := 1) C 1 d_FL_setCruise_0 rfl rfl ?_
  refine q_bipush (pc' := 3) C d_FL_setCruise_1 kb_10 rfl ?_
  refine q_sipush (pc' := 6) C d_FL_setCruise_3 ks_450 rfl ?_
  refine q_callSr (fr' := 0) (lo' := 0) (pc' := 9) C FC_FL_within lmC_FL_75 d_FL_setCruise_6 [.int p1, .int (10 : Int32), .int (450 : Int32)] [] rfl rfl (Nat.le_of_ble_eq_true rfl) ⟨rfl, rfl⟩ (fun x h => cC_FL_within _ g hi σ p1 (10 : Int32) (450 : Int32) x h) rfl (fun x1 hx1 => ?_)
  refine q_join (fun J2 : Unit → Option (Int32 × St) => ∀ (_ : Unit), Rt z qC_FL_setCruise wC g o_w 24 [] [] σ (J2 ())) (fun _ => ?_) (fun J2 hJ2 => ?_)
  · refine q_ldc (pc' := 26) C lcC_FL_79 d_FL_setCruise_24 rfl ?_
    exact q_iret C rfl d_FL_setCruise_26 rfl
  refine q_if_eq (tgt := 24) (pc' := 12) C d_FL_setCruise_9 rfl rfl ?_ ?_
  · exact Rt.sub [] rfl (hJ2 ())
  · refine q_iload_n (pc' := 13) C 2 d_FL_setCruise_12 rfl rfl ?_
    refine q_bipush (pc' := 15) C d_FL_setCruise_13 kb_100 rfl ?_
    refine q_sipush (pc' := 18) C d_FL_setCruise_15 ks_500 rfl ?_
    refine q_callSr (fr' := 0) (lo' := 0) (pc' := 21) C FC_FL_within lmC_FL_75 d_FL_setCruise_18 [.int p2, .int (100 : Int32), .int (500 : Int32)] [] rfl rfl (Nat.le_of_ble_eq_true rfl) ⟨rfl, rfl⟩ (fun x h => cC_FL_within _ g hi σ p2 (100 : Int32) (500 : Int32) x h) rfl (fun x3 hx3 => ?_)
    refine q_if_ne (tgt := 27) (pc' := 24) C d_FL_setCruise_21 rfl rfl ?_ ?_
    · refine q_aload_n (pc' := 28) C 0 d_FL_setCruise_27 rfl rfl ?_
      refine gC_FL_10 (pc' := 31) C 0 1 kC_0 rfl d_FL_setCruise_28 rfl rfl ?_
      refine gC_FL_115 (pc' := 34) C 1 kC_1 d_FL_setCruise_31 rfl rfl ?_
      refine q_let (fun x4 e4 => ?_)
      refine q_topi e4 ?_
      refine q_istore_n (pc' := 35) (lv' := [(3, .int x4), (0, .ref (g.1 0)), (1, .int p1), (2, .int p2)]) C d_FL_setCruise_34 (by decide) rfl rfl ?_
      refine q_aload_n (pc' := 36) C 1 d_FL_setCruise_35 rfl rfl ?_
      refine gC_FL_10 (pc' := 39) C 0 1 kC_0 rfl d_FL_setCruise_36 rfl rfl ?_
      refine q_iload_n (pc' := 40) C 2 d_FL_setCruise_39 rfl rfl ?_
      refine pC_FL_115 (pc' := 43) C 1 kC_1 d_FL_setCruise_40 rfl rfl ?_
      refine q_let (fun σ5 e5 => ?_)
      refine q_state e5 ?_
      refine q_aload_n (pc' := 44) C 1 d_FL_setCruise_43 rfl rfl ?_
      refine gC_FL_10 (pc' := 47) C 0 1 kC_0 rfl d_FL_setCruise_44 rfl rfl ?_
      refine q_iload_n (pc' := 48) C 3 d_FL_setCruise_47 rfl rfl ?_
      refine pC_FL_118 (pc' := 51) C 1 kC_1 d_FL_setCruise_48 rfl rfl ?_
      refine q_let (fun σ6 e6 => ?_)
      refine q_state e6 ?_
      refine q_aload_n (pc' := 52) C 1 d_FL_setCruise_51 rfl rfl ?_
      refine q_callVv (fr' := 6) (lo' := 151) (pc' := 55) C FC_FL_afterSetting lmC_FL_112 d_FL_setCruise_52 0 (jCo kC_0) kC_0 cC_10 [] [] rfl rfl (Nat.le_of_ble_eq_true rfl) ⟨rfl, rfl⟩ (fun x h => cC_FL_afterSetting _ g hi σ6 x h) rfl (fun x7 hx7 => ?_)
      refine q_iload_n (pc' := 56) C 0 d_FL_setCruise_55 rfl rfl ?_
      exact q_iret C rfl d_FL_setCruise_56 rfl
    · exact Rt.sub [] rfl (hJ2 ())
theorem d_FL_isGradient_0 : decode qC_FL_isGradient.1 0 = .ok (.iload_n 0, 1) := by decide +kernel
theorem d_FL_isGradient_1 : decode qC_FL_isGradient.1 1 = .ok (.bipush 100, 2) := by decide +kernel
theorem d_FL_isGradient_3 : decode qC_FL_isGradient.1 3 = .ok (.sipush 900, 3) := by decide +kernel
theorem d_FL_isGradient_6 : decode qC_FL_isGradient.1 6 = .ok (.invokestatic 75, 3) := by decide +kernel
theorem d_FL_isGradient_9 : decode qC_FL_isGradient.1 9 = .ok (.ireturn, 1) := by decide +kernel
set_option maxRecDepth 100000 in
def f_FL_isGradient (p0 : Int32) : Option (Int32) :=
  Option.bind (f_FL_within p0 (100 : Int32) (900 : Int32)) fun x1 =>
  Gd ((x1 : Int32) &&& 1 = x1) <|
  some x1
set_option maxHeartbeats 4000000 in
set_option maxRecDepth 100000 in
theorem cC_FL_isGradient (l : Launch) (g : Ge) (hi : injB wC.2 g) (σ : St) (p0 : Int32) (x : Int32) (h : f_FL_isGradient p0 = some x) : Ct l wC g yC_FL_isGradient qC_FL_isGradient 1 22 [.int p0] σ (some (.int x), σ) := by
  refine Ct.of (out := (o_r σ)) FC_FL_isGradient rfl hi rfl h (fun z hz C => ?_)
  clear h
  subst hz
  unfold f_FL_isGradient
  show Rt z qC_FL_isGradient wC g (o_r σ) 0 [(0, .int p0)] [] σ _
  refine q_iload_n (pc' := 1) C 0 d_FL_isGradient_0 rfl rfl ?_
  refine q_bipush (pc' := 3) C d_FL_isGradient_1 kb_100 rfl ?_
  refine q_sipush (pc' := 6) C d_FL_isGradient_3 ks_900 rfl ?_
  refine q_callSr (fr' := 0) (lo' := 0) (pc' := 9) C FC_FL_within lmC_FL_75 d_FL_isGradient_6 [.int p0, .int (100 : Int32), .int (900 : Int32)] [] rfl rfl (Nat.le_of_ble_eq_true rfl) ⟨rfl, rfl⟩ (fun x h => cC_FL_within _ g hi σ p0 (100 : Int32) (900 : Int32) x h) rfl (fun x1 hx1 => ?_)
  refine q_guard (fun gx2 => ?_)
  exact q_zret C rfl gx2 d_FL_isGradient_9 rfl
theorem d_FL_setGradients_0 : decode qC_FL_setGradients.1 0 = .ok (.iload_n 1, 1) := by decide +kernel
theorem d_FL_setGradients_1 : decode qC_FL_setGradients.1 1 = .ok (.invokestatic 121, 3) := by decide +kernel
theorem d_FL_setGradients_4 : decode qC_FL_setGradients.1 4 = .ok (.ifCond .eq 17, 3) := by decide +kernel
theorem d_FL_setGradients_7 : decode qC_FL_setGradients.1 7 = .ok (.iload_n 2, 1) := by decide +kernel
theorem d_FL_setGradients_8 : decode qC_FL_setGradients.1 8 = .ok (.invokestatic 121, 3) := by decide +kernel
theorem d_FL_setGradients_11 : decode qC_FL_setGradients.1 11 = .ok (.ifCond .eq 10, 3) := by decide +kernel
theorem d_FL_setGradients_14 : decode qC_FL_setGradients.1 14 = .ok (.iload_n 3, 1) := by decide +kernel
theorem d_FL_setGradients_15 : decode qC_FL_setGradients.1 15 = .ok (.invokestatic 121, 3) := by decide +kernel
theorem d_FL_setGradients_18 : decode qC_FL_setGradients.1 18 = .ok (.ifCond .ne 6, 3) := by decide +kernel
theorem d_FL_setGradients_21 : decode qC_FL_setGradients.1 21 = .ok (.ldc 79, 2) := by decide +kernel
theorem d_FL_setGradients_23 : decode qC_FL_setGradients.1 23 = .ok (.ireturn, 1) := by decide +kernel
theorem d_FL_setGradients_24 : decode qC_FL_setGradients.1 24 = .ok (.aload_n 0, 1) := by decide +kernel
theorem d_FL_setGradients_25 : decode qC_FL_setGradients.1 25 = .ok (.getfield 10, 3) := by decide +kernel
theorem d_FL_setGradients_28 : decode qC_FL_setGradients.1 28 = .ok (.getfield 124, 3) := by decide +kernel
theorem d_FL_setGradients_31 : decode qC_FL_setGradients.1 31 = .ok (.istore 4, 2) := by decide +kernel
theorem d_FL_setGradients_33 : decode qC_FL_setGradients.1 33 = .ok (.aload_n 0, 1) := by decide +kernel
theorem d_FL_setGradients_34 : decode qC_FL_setGradients.1 34 = .ok (.getfield 10, 3) := by decide +kernel
theorem d_FL_setGradients_37 : decode qC_FL_setGradients.1 37 = .ok (.iload_n 1, 1) := by decide +kernel
theorem d_FL_setGradients_38 : decode qC_FL_setGradients.1 38 = .ok (.putfield 124, 3) := by decide +kernel
theorem d_FL_setGradients_41 : decode qC_FL_setGradients.1 41 = .ok (.aload_n 0, 1) := by decide +kernel
theorem d_FL_setGradients_42 : decode qC_FL_setGradients.1 42 = .ok (.getfield 10, 3) := by decide +kernel
theorem d_FL_setGradients_45 : decode qC_FL_setGradients.1 45 = .ok (.iload_n 2, 1) := by decide +kernel
theorem d_FL_setGradients_46 : decode qC_FL_setGradients.1 46 = .ok (.putfield 127, 3) := by decide +kernel
theorem d_FL_setGradients_49 : decode qC_FL_setGradients.1 49 = .ok (.aload_n 0, 1) := by decide +kernel
theorem d_FL_setGradients_50 : decode qC_FL_setGradients.1 50 = .ok (.getfield 10, 3) := by decide +kernel
theorem d_FL_setGradients_53 : decode qC_FL_setGradients.1 53 = .ok (.iload_n 3, 1) := by decide +kernel
theorem d_FL_setGradients_54 : decode qC_FL_setGradients.1 54 = .ok (.putfield 130, 3) := by decide +kernel
theorem d_FL_setGradients_57 : decode qC_FL_setGradients.1 57 = .ok (.aload_n 0, 1) := by decide +kernel
theorem d_FL_setGradients_58 : decode qC_FL_setGradients.1 58 = .ok (.invokevirtual 112, 3) := by decide +kernel
theorem d_FL_setGradients_61 : decode qC_FL_setGradients.1 61 = .ok (.iload 4, 2) := by decide +kernel
theorem d_FL_setGradients_63 : decode qC_FL_setGradients.1 63 = .ok (.ireturn, 1) := by decide +kernel
set_option maxRecDepth 100000 in
def f_FL_setGradients (σ : St) (p1 : Int32) (p2 : Int32) (p3 : Int32) : Option (Int32 × St) :=
  Option.bind (f_FL_isGradient p1) fun x1 =>
  Jn (fun (_ : Unit) =>
  some ((-1000002 : Int32), σ)
  ) fun J2 =>
  if (x1 : Int32) = 0 then (
  J2 ()
  ) else (
  Option.bind (f_FL_isGradient p2) fun x3 =>
  if (x3 : Int32) = 0 then (
  J2 ()
  ) else (
  Option.bind (f_FL_isGradient p3) fun x4 =>
  if (x4 : Int32) = 0 then (
  J2 ()
  ) else (
  Lt ((σ 1 6) : Int32) fun x5 =>
  Lt (s2 σ 1 6 p1) fun σ6 =>
  Lt (s2 σ6 1 7 p2) fun σ7 =>
  Lt (s2 σ7 1 8 p3) fun σ8 =>
  Option.bind (f_FL_afterSetting σ8) fun x9 =>
  some (x5, x9)
  )
  )
  )
set_option maxHeartbeats 4000000 in
set_option maxRecDepth 100000 in
theorem cC_FL_setGradients (l : Launch) (g : Ge) (hi : injB wC.2 g) (σ : St) (p1 : Int32) (p2 : Int32) (p3 : Int32) (x : Int32 × St) (h : f_FL_setGradients σ p1 p2 p3 = some x) : Ct l wC g yC_FL_setGradients qC_FL_setGradients 7 171 [.ref (g.1 0), .int p1, .int p2, .int p3] σ (some (.int x.1), x.2) := by
  refine Ct.of (out := o_w) FC_FL_setGradients rfl hi rfl h (fun z hz C => ?_)
  clear h
  subst hz
  unfold f_FL_setGradients
  show Rt z qC_FL_setGradients wC g o_w 0 [(0, .ref (g.1 0)), (1, .int p1), (2, .int p2), (3, .int p3)] [] σ _
  refine q_iload_n (pc' := 1) C 1 d_FL_setGradients_0 rfl rfl ?_
  refine q_callSr (fr' := 1) (lo' := 22) (pc' := 4) C FC_FL_isGradient lmC_FL_121 d_FL_setGradients_1 [.int p1] [] rfl rfl (Nat.le_of_ble_eq_true rfl) ⟨rfl, rfl⟩ (fun x h => cC_FL_isGradient _ g hi σ p1 x h) rfl (fun x1 hx1 => ?_)
  refine q_join (fun J2 : Unit → Option (Int32 × St) => ∀ (_ : Unit), Rt z qC_FL_setGradients wC g o_w 21 [] [] σ (J2 ())) (fun _ => ?_) (fun J2 hJ2 => ?_)
  · refine q_ldc (pc' := 23) C lcC_FL_79 d_FL_setGradients_21 rfl ?_
    exact q_iret C rfl d_FL_setGradients_23 rfl
  refine q_if_eq (tgt := 21) (pc' := 7) C d_FL_setGradients_4 rfl rfl ?_ ?_
  · exact Rt.sub [] rfl (hJ2 ())
  · refine q_iload_n (pc' := 8) C 2 d_FL_setGradients_7 rfl rfl ?_
    refine q_callSr (fr' := 1) (lo' := 22) (pc' := 11) C FC_FL_isGradient lmC_FL_121 d_FL_setGradients_8 [.int p2] [] rfl rfl (Nat.le_of_ble_eq_true rfl) ⟨rfl, rfl⟩ (fun x h => cC_FL_isGradient _ g hi σ p2 x h) rfl (fun x3 hx3 => ?_)
    refine q_if_eq (tgt := 21) (pc' := 14) C d_FL_setGradients_11 rfl rfl ?_ ?_
    · exact Rt.sub [] rfl (hJ2 ())
    · refine q_iload_n (pc' := 15) C 3 d_FL_setGradients_14 rfl rfl ?_
      refine q_callSr (fr' := 1) (lo' := 22) (pc' := 18) C FC_FL_isGradient lmC_FL_121 d_FL_setGradients_15 [.int p3] [] rfl rfl (Nat.le_of_ble_eq_true rfl) ⟨rfl, rfl⟩ (fun x h => cC_FL_isGradient _ g hi σ p3 x h) rfl (fun x4 hx4 => ?_)
      refine q_if_ne (tgt := 24) (pc' := 21) C d_FL_setGradients_18 rfl rfl ?_ ?_
      · refine q_aload_n (pc' := 25) C 0 d_FL_setGradients_24 rfl rfl ?_
        refine gC_FL_10 (pc' := 28) C 0 1 kC_0 rfl d_FL_setGradients_25 rfl rfl ?_
        refine gC_FL_124 (pc' := 31) C 1 kC_1 d_FL_setGradients_28 rfl rfl ?_
        refine q_let (fun x5 e5 => ?_)
        refine q_topi e5 ?_
        refine q_istore (pc' := 33) (lv' := [(4, .int x5), (0, .ref (g.1 0)), (1, .int p1), (2, .int p2), (3, .int p3)]) C d_FL_setGradients_31 (by decide) rfl rfl ?_
        refine q_aload_n (pc' := 34) C 1 d_FL_setGradients_33 rfl rfl ?_
        refine gC_FL_10 (pc' := 37) C 0 1 kC_0 rfl d_FL_setGradients_34 rfl rfl ?_
        refine q_iload_n (pc' := 38) C 2 d_FL_setGradients_37 rfl rfl ?_
        refine pC_FL_124 (pc' := 41) C 1 kC_1 d_FL_setGradients_38 rfl rfl ?_
        refine q_let (fun σ6 e6 => ?_)
        refine q_state e6 ?_
        refine q_aload_n (pc' := 42) C 1 d_FL_setGradients_41 rfl rfl ?_
        refine gC_FL_10 (pc' := 45) C 0 1 kC_0 rfl d_FL_setGradients_42 rfl rfl ?_
        refine q_iload_n (pc' := 46) C 3 d_FL_setGradients_45 rfl rfl ?_
        refine pC_FL_127 (pc' := 49) C 1 kC_1 d_FL_setGradients_46 rfl rfl ?_
        refine q_let (fun σ7 e7 => ?_)
        refine q_state e7 ?_
        refine q_aload_n (pc' := 50) C 1 d_FL_setGradients_49 rfl rfl ?_
        refine gC_FL_10 (pc' := 53) C 0 1 kC_0 rfl d_FL_setGradients_50 rfl rfl ?_
        refine q_iload_n (pc' := 54) C 4 d_FL_setGradients_53 rfl rfl ?_
        refine pC_FL_130 (pc' := 57) C 1 kC_1 d_FL_setGradients_54 rfl rfl ?_
        refine q_let (fun σ8 e8 => ?_)
        refine q_state e8 ?_
        refine q_aload_n (pc' := 58) C 1 d_FL_setGradients_57 rfl rfl ?_
        refine q_callVv (fr' := 6) (lo' := 151) (pc' := 61) C FC_FL_afterSetting lmC_FL_112 d_FL_setGradients_58 0 (jCo kC_0) kC_0 cC_10 [] [] rfl rfl (Nat.le_of_ble_eq_true rfl) ⟨rfl, rfl⟩ (fun x h => cC_FL_afterSetting _ g hi σ8 x h) rfl (fun x9 hx9 => ?_)
        refine q_iload (pc' := 63) C 0 d_FL_setGradients_61 rfl rfl ?_
        exact q_iret C rfl d_FL_setGradients_63 rfl
      · exact Rt.sub [] rfl (hJ2 ())
theorem d_FL_setEnds_0 : decode qC_FL_setEnds.1 0 = .ok (.iload_n 1, 1) := by decide +kernel
theorem d_FL_setEnds_1 : decode qC_FL_setEnds.1 1 = .ok (.iconst 0, 1) := by decide +kernel
theorem d_FL_setEnds_2 : decode qC_FL_setEnds.1 2 = .ok (.sipush 450, 3) := by decide +kernel
theorem d_FL_setEnds_5 : decode qC_FL_setEnds.1 5 = .ok (.invokestatic 75, 3) := by decide +kernel
theorem d_FL_setEnds_8 : decode qC_FL_setEnds.1 8 = .ok (.ifCond .eq 14, 3) := by decide +kernel
theorem d_FL_setEnds_11 : decode qC_FL_setEnds.1 11 = .ok (.iload_n 2, 1) := by decide +kernel
theorem d_FL_setEnds_12 : decode qC_FL_setEnds.1 12 = .ok (.iconst 0, 1) := by decide +kernel
theorem d_FL_setEnds_13 : decode qC_FL_setEnds.1 13 = .ok (.sipush 450, 3) := by decide +kernel
theorem d_FL_setEnds_16 : decode qC_FL_setEnds.1 16 = .ok (.invokestatic 75, 3) := by decide +kernel
theorem d_FL_setEnds_19 : decode qC_FL_setEnds.1 19 = .ok (.ifCond .ne 6, 3) := by decide +kernel
theorem d_FL_setEnds_22 : decode qC_FL_setEnds.1 22 = .ok (.ldc 79, 2) := by decide +kernel
theorem d_FL_setEnds_24 : decode qC_FL_setEnds.1 24 = .ok (.ireturn, 1) := by decide +kernel
theorem d_FL_setEnds_25 : decode qC_FL_setEnds.1 25 = .ok (.aload_n 0, 1) := by decide +kernel
theorem d_FL_setEnds_26 : decode qC_FL_setEnds.1 26 = .ok (.getfield 10, 3) := by decide +kernel
theorem d_FL_setEnds_29 : decode qC_FL_setEnds.1 29 = .ok (.getfield 133, 3) := by decide +kernel
theorem d_FL_setEnds_32 : decode qC_FL_setEnds.1 32 = .ok (.istore_n 3, 1) := by decide +kernel
theorem d_FL_setEnds_33 : decode qC_FL_setEnds.1 33 = .ok (.aload_n 0, 1) := by decide +kernel
theorem d_FL_setEnds_34 : decode qC_FL_setEnds.1 34 = .ok (.getfield 10, 3) := by decide +kernel
theorem d_FL_setEnds_37 : decode qC_FL_setEnds.1 37 = .ok (.iload_n 1, 1) := by decide +kernel
theorem d_FL_setEnds_38 : decode qC_FL_setEnds.1 38 = .ok (.putfield 133, 3) := by decide +kernel
theorem d_FL_setEnds_41 : decode qC_FL_setEnds.1 41 = .ok (.aload_n 0, 1) := by decide +kernel
theorem d_FL_setEnds_42 : decode qC_FL_setEnds.1 42 = .ok (.getfield 10, 3) := by decide +kernel
theorem d_FL_setEnds_45 : decode qC_FL_setEnds.1 45 = .ok (.iload_n 2, 1) := by decide +kernel
theorem d_FL_setEnds_46 : decode qC_FL_setEnds.1 46 = .ok (.putfield 136, 3) := by decide +kernel
theorem d_FL_setEnds_49 : decode qC_FL_setEnds.1 49 = .ok (.aload_n 0, 1) := by decide +kernel
theorem d_FL_setEnds_50 : decode qC_FL_setEnds.1 50 = .ok (.invokevirtual 112, 3) := by decide +kernel
theorem d_FL_setEnds_53 : decode qC_FL_setEnds.1 53 = .ok (.iload_n 3, 1) := by decide +kernel
theorem d_FL_setEnds_54 : decode qC_FL_setEnds.1 54 = .ok (.ireturn, 1) := by decide +kernel
set_option maxRecDepth 100000 in
def f_FL_setEnds (σ : St) (p1 : Int32) (p2 : Int32) : Option (Int32 × St) :=
  Option.bind (f_FL_within p1 (0 : Int32) (450 : Int32)) fun x1 =>
  Jn (fun (_ : Unit) =>
  some ((-1000002 : Int32), σ)
  ) fun J2 =>
  if (x1 : Int32) = 0 then (
  J2 ()
  ) else (
  Option.bind (f_FL_within p2 (0 : Int32) (450 : Int32)) fun x3 =>
  if (x3 : Int32) = 0 then (
  J2 ()
  ) else (
  Lt ((σ 1 9) : Int32) fun x4 =>
  Lt (s2 σ 1 9 p1) fun σ5 =>
  Lt (s2 σ5 1 10 p2) fun σ6 =>
  Option.bind (f_FL_afterSetting σ6) fun x7 =>
  some (x4, x7)
  )
  )
set_option maxHeartbeats 4000000 in
set_option maxRecDepth 100000 in
theorem cC_FL_setEnds (l : Launch) (g : Ge) (hi : injB wC.2 g) (σ : St) (p1 : Int32) (p2 : Int32) (x : Int32 × St) (h : f_FL_setEnds σ p1 p2 = some x) : Ct l wC g yC_FL_setEnds qC_FL_setEnds 7 171 [.ref (g.1 0), .int p1, .int p2] σ (some (.int x.1), x.2) := by
  refine Ct.of (out := o_w) FC_FL_setEnds rfl hi rfl h (fun z hz C => ?_)
  clear h
  subst hz
  unfold f_FL_setEnds
  show Rt z qC_FL_setEnds wC g o_w 0 [(0, .ref (g.1 0)), (1, .int p1), (2, .int p2)] [] σ _
  refine q_iload_n (pc' := 1) C 1 d_FL_setEnds_0 rfl rfl ?_
  refine q_iconst (pc' := 2) C d_FL_setEnds_1 ki_0 rfl ?_
  refine q_sipush (pc' := 5) C d_FL_setEnds_2 ks_450 rfl ?_
  refine q_callSr (fr' := 0) (lo' := 0) (pc' := 8) C FC_FL_within lmC_FL_75 d_FL_setEnds_5 [.int p1, .int (0 : Int32), .int (450 : Int32)] [] rfl rfl (Nat.le_of_ble_eq_true rfl) ⟨rfl, rfl⟩ (fun x h => cC_FL_within _ g hi σ p1 (0 : Int32) (450 : Int32) x h) rfl (fun x1 hx1 => ?_)
  refine q_join (fun J2 : Unit → Option (Int32 × St) => ∀ (_ : Unit), Rt z qC_FL_setEnds wC g o_w 22 [] [] σ (J2 ())) (fun _ => ?_) (fun J2 hJ2 => ?_)
  · refine q_ldc (pc' := 24) C lcC_FL_79 d_FL_setEnds_22 rfl ?_
    exact q_iret C rfl d_FL_setEnds_24 rfl
  refine q_if_eq (tgt := 22) (pc' := 11) C d_FL_setEnds_8 rfl rfl ?_ ?_
  · exact Rt.sub [] rfl (hJ2 ())
  · refine q_iload_n (pc' := 12) C 2 d_FL_setEnds_11 rfl rfl ?_
    refine q_iconst (pc' := 13) C d_FL_setEnds_12 ki_0 rfl ?_
    refine q_sipush (pc' := 16) C d_FL_setEnds_13 ks_450 rfl ?_
    refine q_callSr (fr' := 0) (lo' := 0) (pc' := 19) C FC_FL_within lmC_FL_75 d_FL_setEnds_16 [.int p2, .int (0 : Int32), .int (450 : Int32)] [] rfl rfl (Nat.le_of_ble_eq_true rfl) ⟨rfl, rfl⟩ (fun x h => cC_FL_within _ g hi σ p2 (0 : Int32) (450 : Int32) x h) rfl (fun x3 hx3 => ?_)
    refine q_if_ne (tgt := 25) (pc' := 22) C d_FL_setEnds_19 rfl rfl ?_ ?_
    · refine q_aload_n (pc' := 26) C 0 d_FL_setEnds_25 rfl rfl ?_
      refine gC_FL_10 (pc' := 29) C 0 1 kC_0 rfl d_FL_setEnds_26 rfl rfl ?_
      refine gC_FL_133 (pc' := 32) C 1 kC_1 d_FL_setEnds_29 rfl rfl ?_
      refine q_let (fun x4 e4 => ?_)
      refine q_topi e4 ?_
      refine q_istore_n (pc' := 33) (lv' := [(3, .int x4), (0, .ref (g.1 0)), (1, .int p1), (2, .int p2)]) C d_FL_setEnds_32 (by decide) rfl rfl ?_
      refine q_aload_n (pc' := 34) C 1 d_FL_setEnds_33 rfl rfl ?_
      refine gC_FL_10 (pc' := 37) C 0 1 kC_0 rfl d_FL_setEnds_34 rfl rfl ?_
      refine q_iload_n (pc' := 38) C 2 d_FL_setEnds_37 rfl rfl ?_
      refine pC_FL_133 (pc' := 41) C 1 kC_1 d_FL_setEnds_38 rfl rfl ?_
      refine q_let (fun σ5 e5 => ?_)
      refine q_state e5 ?_
      refine q_aload_n (pc' := 42) C 1 d_FL_setEnds_41 rfl rfl ?_
      refine gC_FL_10 (pc' := 45) C 0 1 kC_0 rfl d_FL_setEnds_42 rfl rfl ?_
      refine q_iload_n (pc' := 46) C 3 d_FL_setEnds_45 rfl rfl ?_
      refine pC_FL_136 (pc' := 49) C 1 kC_1 d_FL_setEnds_46 rfl rfl ?_
      refine q_let (fun σ6 e6 => ?_)
      refine q_state e6 ?_
      refine q_aload_n (pc' := 50) C 1 d_FL_setEnds_49 rfl rfl ?_
      refine q_callVv (fr' := 6) (lo' := 151) (pc' := 53) C FC_FL_afterSetting lmC_FL_112 d_FL_setEnds_50 0 (jCo kC_0) kC_0 cC_10 [] [] rfl rfl (Nat.le_of_ble_eq_true rfl) ⟨rfl, rfl⟩ (fun x h => cC_FL_afterSetting _ g hi σ6 x h) rfl (fun x7 hx7 => ?_)
      refine q_iload_n (pc' := 54) C 0 d_FL_setEnds_53 rfl rfl ?_
      exact q_iret C rfl d_FL_setEnds_54 rfl
    · exact Rt.sub [] rfl (hJ2 ())
theorem d_FL_beginEdit_0 : decode qC_FL_beginEdit.1 0 = .ok (.aload_n 0, 1) := by decide +kernel
theorem d_FL_beginEdit_1 : decode qC_FL_beginEdit.1 1 = .ok (.getfield 58, 3) := by decide +kernel
theorem d_FL_beginEdit_4 : decode qC_FL_beginEdit.1 4 = .ok (.aload_n 0, 1) := by decide +kernel
theorem d_FL_beginEdit_5 : decode qC_FL_beginEdit.1 5 = .ok (.getfield 71, 3) := by decide +kernel
theorem d_FL_beginEdit_8 : decode qC_FL_beginEdit.1 8 = .ok (.aload_n 0, 1) := by decide +kernel
theorem d_FL_beginEdit_9 : decode qC_FL_beginEdit.1 9 = .ok (.getfield 34, 3) := by decide +kernel
theorem d_FL_beginEdit_12 : decode qC_FL_beginEdit.1 12 = .ok (.invokevirtual 306, 3) := by decide +kernel
theorem d_FL_beginEdit_15 : decode qC_FL_beginEdit.1 15 = .ok (.aload_n 0, 1) := by decide +kernel
theorem d_FL_beginEdit_16 : decode qC_FL_beginEdit.1 16 = .ok (.getfield 71, 3) := by decide +kernel
theorem d_FL_beginEdit_19 : decode qC_FL_beginEdit.1 19 = .ok (.ifCond .ne 19, 3) := by decide +kernel
theorem d_FL_beginEdit_22 : decode qC_FL_beginEdit.1 22 = .ok (.aload_n 0, 1) := by decide +kernel
theorem d_FL_beginEdit_23 : decode qC_FL_beginEdit.1 23 = .ok (.getfield 34, 3) := by decide +kernel
theorem d_FL_beginEdit_26 : decode qC_FL_beginEdit.1 26 = .ok (.aload_n 0, 1) := by decide +kernel
theorem d_FL_beginEdit_27 : decode qC_FL_beginEdit.1 27 = .ok (.getfield 30, 3) := by decide +kernel
theorem d_FL_beginEdit_30 : decode qC_FL_beginEdit.1 30 = .ok (.invokevirtual 224, 3) := by decide +kernel
theorem d_FL_beginEdit_33 : decode qC_FL_beginEdit.1 33 = .ok (.aload_n 0, 1) := by decide +kernel
theorem d_FL_beginEdit_34 : decode qC_FL_beginEdit.1 34 = .ok (.iconst 1, 1) := by decide +kernel
theorem d_FL_beginEdit_35 : decode qC_FL_beginEdit.1 35 = .ok (.putfield 71, 3) := by decide +kernel
theorem d_FL_beginEdit_38 : decode qC_FL_beginEdit.1 38 = .ok (.aload_n 0, 1) := by decide +kernel
theorem d_FL_beginEdit_39 : decode qC_FL_beginEdit.1 39 = .ok (.getfield 49, 3) := by decide +kernel
theorem d_FL_beginEdit_42 : decode qC_FL_beginEdit.1 42 = .ok (.iconst 1, 1) := by decide +kernel
theorem d_FL_beginEdit_43 : decode qC_FL_beginEdit.1 43 = .ok (.putfield 215, 3) := by decide +kernel
theorem d_FL_beginEdit_46 : decode qC_FL_beginEdit.1 46 = .ok (.return_, 1) := by decide +kernel
set_option maxRecDepth 100000 in
def f_FL_beginEdit (σ : St) : Option (St) :=
  Option.bind (f_Hi_record σ 47 (σ 0 10) 11) fun x1 =>
  Jn (fun (σ2 : St) =>
  Lt (s2 σ2 27 5 (1 : Int32)) fun σ4 =>
  some σ4
  ) fun J3 =>
  if ((x1 0 10) : Int32) = 0 then (
  Option.bind (f_Pl_copyFrom x1 11 8) fun x5 =>
  Lt (s2 x5 0 10 (1 : Int32)) fun σ6 =>
  J3 σ6
  ) else (
  J3 x1
  )
set_option maxHeartbeats 4000000 in
set_option maxRecDepth 100000 in
theorem cC_FL_beginEdit (l : Launch) (g : Ge) (hi : injB wC.2 g) (σ : St) (x : St) (h : f_FL_beginEdit σ = some x) : Ct l wC g yC_FL_beginEdit qC_FL_beginEdit 3 72 [.ref (g.1 0)] σ (none, x) := by
  refine Ct.of (out := o_v) FC_FL_beginEdit rfl hi rfl h (fun z hz C => ?_)
  clear h
  subst hz
  unfold f_FL_beginEdit
  show Rt z qC_FL_beginEdit wC g o_v 0 [(0, .ref (g.1 0))] [] σ _
  refine q_aload_n (pc' := 1) C 0 d_FL_beginEdit_0 rfl rfl ?_
  refine gC_FL_58 (pc' := 4) C 0 47 kC_0 rfl d_FL_beginEdit_1 rfl rfl ?_
  refine q_aload_n (pc' := 5) C 0 d_FL_beginEdit_4 rfl rfl ?_
  refine gC_FL_71 (pc' := 8) C 0 kC_0 d_FL_beginEdit_5 rfl rfl ?_
  refine q_aload_n (pc' := 9) C 0 d_FL_beginEdit_8 rfl rfl ?_
  refine gC_FL_34 (pc' := 12) C 0 11 kC_0 rfl d_FL_beginEdit_9 rfl rfl ?_
  refine q_callVv (fr' := 2) (lo' := 50) (pc' := 15) C FC_Hi_record lmC_FL_306 d_FL_beginEdit_12 47 (jCo kC_47) kC_47 cC_0 [.int (σ 0 10), .ref (g.1 11)] [] rfl rfl (Nat.le_of_ble_eq_true rfl) ⟨rfl, rfl⟩ (fun x h => cC_Hi_record _ g hi σ 47 kC_47 (σ 0 10) 11 kC_11 x h) rfl (fun x1 hx1 => ?_)
  refine q_aload_n (pc' := 16) C 0 d_FL_beginEdit_15 rfl rfl ?_
  refine gC_FL_71 (pc' := 19) C 0 kC_0 d_FL_beginEdit_16 rfl rfl ?_
  refine q_join (fun J3 : St → Option (St) => ∀ (σ2 : St), Rt z qC_FL_beginEdit wC g o_v 38 [(0, .ref (g.1 0))] [] σ2 (J3 σ2)) (fun σ2 => ?_) (fun J3 hJ3 => ?_)
  · refine q_aload_n (pc' := 39) C 0 d_FL_beginEdit_38 rfl rfl ?_
    refine gC_FL_49 (pc' := 42) C 0 27 kC_0 rfl d_FL_beginEdit_39 rfl rfl ?_
    refine q_iconst (pc' := 43) C d_FL_beginEdit_42 ki_1 rfl ?_
    refine pC_FL_215 (pc' := 46) C 27 kC_27 d_FL_beginEdit_43 (by decide) rfl rfl ?_
    refine q_let (fun σ4 e4 => ?_)
    refine q_state e4 ?_
    exact q_vret C rfl d_FL_beginEdit_46 rfl
  refine q_if_ne (tgt := 38) (pc' := 22) C d_FL_beginEdit_19 rfl rfl ?_ ?_
  · exact Rt.sub [0] rfl (hJ3 x1)
  · refine q_aload_n (pc' := 23) C 0 d_FL_beginEdit_22 rfl rfl ?_
    refine gC_FL_34 (pc' := 26) C 0 11 kC_0 rfl d_FL_beginEdit_23 rfl rfl ?_
    refine q_aload_n (pc' := 27) C 0 d_FL_beginEdit_26 rfl rfl ?_
    refine gC_FL_30 (pc' := 30) C 0 8 kC_0 rfl d_FL_beginEdit_27 rfl rfl ?_
    refine q_callVv (fr' := 2) (lo' := 50) (pc' := 33) C FC_Pl_copyFrom lmC_FL_224 d_FL_beginEdit_30 11 (jCo kC_11) kC_11 cC_3 [.ref (g.1 8)] [] rfl rfl (Nat.le_of_ble_eq_true rfl) ⟨rfl, rfl⟩ (fun x h => cC_Pl_copyFrom _ g hi x1 11 kC_11 8 kC_8 x h) rfl (fun x5 hx5 => ?_)
    refine q_aload_n (pc' := 34) C 0 d_FL_beginEdit_33 rfl rfl ?_
    refine q_iconst (pc' := 35) C d_FL_beginEdit_34 ki_1 rfl ?_
    refine pC_FL_71 (pc' := 38) C 0 kC_0 d_FL_beginEdit_35 (by decide) rfl rfl ?_
    refine q_let (fun σ6 e6 => ?_)
    refine q_state e6 ?_
    exact Rt.sub [0] rfl (hJ3 σ6)
theorem d_FL_load_0 : decode qC_FL_load.1 0 = .ok (.aload_n 0, 1) := by decide +kernel
theorem d_FL_load_1 : decode qC_FL_load.1 1 = .ok (.getfield 21, 3) := by decide +kernel
theorem d_FL_load_4 : decode qC_FL_load.1 4 = .ok (.invokevirtual 89, 3) := by decide +kernel
theorem d_FL_load_7 : decode qC_FL_load.1 7 = .ok (.ldc 139, 2) := by decide +kernel
theorem d_FL_load_9 : decode qC_FL_load.1 9 = .ok (.if_icmp .eq 6, 3) := by decide +kernel
theorem d_FL_load_12 : decode qC_FL_load.1 12 = .ok (.ldc 140, 2) := by decide +kernel
theorem d_FL_load_14 : decode qC_FL_load.1 14 = .ok (.ireturn, 1) := by decide +kernel
theorem d_FL_load_15 : decode qC_FL_load.1 15 = .ok (.aload_n 0, 1) := by decide +kernel
theorem d_FL_load_16 : decode qC_FL_load.1 16 = .ok (.invokevirtual 141, 3) := by decide +kernel
theorem d_FL_load_19 : decode qC_FL_load.1 19 = .ok (.aload_n 0, 1) := by decide +kernel
theorem d_FL_load_20 : decode qC_FL_load.1 20 = .ok (.getfield 34, 3) := by decide +kernel
theorem d_FL_load_23 : decode qC_FL_load.1 23 = .ok (.aload_n 0, 1) := by decide +kernel
theorem d_FL_load_24 : decode qC_FL_load.1 24 = .ok (.getfield 21, 3) := by decide +kernel
theorem d_FL_load_27 : decode qC_FL_load.1 27 = .ok (.getfield 144, 3) := by decide +kernel
theorem d_FL_load_30 : decode qC_FL_load.1 30 = .ok (.aload_n 0, 1) := by decide +kernel
theorem d_FL_load_31 : decode qC_FL_load.1 31 = .ok (.getfield 21, 3) := by decide +kernel
theorem d_FL_load_34 : decode qC_FL_load.1 34 = .ok (.getfield 147, 3) := by decide +kernel
theorem d_FL_load_37 : decode qC_FL_load.1 37 = .ok (.invokevirtual 150, 3) := by decide +kernel
theorem d_FL_load_40 : decode qC_FL_load.1 40 = .ok (.aload_n 0, 1) := by decide +kernel
theorem d_FL_load_41 : decode qC_FL_load.1 41 = .ok (.getfield 34, 3) := by decide +kernel
theorem d_FL_load_44 : decode qC_FL_load.1 44 = .ok (.getfield 154, 3) := by decide +kernel
theorem d_FL_load_47 : decode qC_FL_load.1 47 = .ok (.ireturn, 1) := by decide +kernel
set_option maxRecDepth 100000 in
def f_FL_load (σ : St) : Option (Int32 × St) :=
  Option.bind (f_Rx_parse σ 4) fun x1 =>
  if (x1.1 : Int32) = (-1000000 : Int32) then (
  Option.bind (f_FL_beginEdit x1.2) fun x2 =>
  Option.bind (f_Pl_replaceAll x2 11 6 (x2 4 4)) fun x3 =>
  some ((x3 11 1), x3)
  ) else (
  some ((-1000003 : Int32), x1.2)
  )
set_option maxHeartbeats 4000000 in
set_option maxRecDepth 100000 in
theorem cC_FL_load (l : Launch) (g : Ge) (hi : injB wC.2 g) (σ : St) (x : Int32 × St) (h : f_FL_load σ = some x) : Ct l wC g yC_FL_load qC_FL_load 8 170 [.ref (g.1 0)] σ (some (.int x.1), x.2) := by
  refine Ct.of (out := o_w) FC_FL_load rfl hi rfl h (fun z hz C => ?_)
  clear h
  subst hz
  unfold f_FL_load
  show Rt z qC_FL_load wC g o_w 0 [(0, .ref (g.1 0))] [] σ _
  refine q_aload_n (pc' := 1) C 0 d_FL_load_0 rfl rfl ?_
  refine gC_FL_21 (pc' := 4) C 0 4 kC_0 rfl d_FL_load_1 rfl rfl ?_
  refine q_callVw (fr' := 7) (lo' := 149) (pc' := 7) C FC_Rx_parse lmC_FL_89 d_FL_load_4 4 (jCo kC_4) kC_4 cC_6 [] [] rfl rfl (Nat.le_of_ble_eq_true rfl) ⟨rfl, rfl⟩ (fun x h => cC_Rx_parse _ g hi σ 4 kC_4 x h) rfl (fun x1 hx1 => ?_)
  refine q_ldc (pc' := 9) C lcC_FL_139 d_FL_load_7 rfl ?_
  refine q_icmp_eq (tgt := 15) (pc' := 12) C d_FL_load_9 rfl rfl ?_ ?_
  · refine q_aload_n (pc' := 16) C 0 d_FL_load_15 rfl rfl ?_
    refine q_callVv (fr' := 3) (lo' := 72) (pc' := 19) C FC_FL_beginEdit lmC_FL_141 d_FL_load_16 0 (jCo kC_0) kC_0 cC_10 [] [] rfl rfl (Nat.le_of_ble_eq_true rfl) ⟨rfl, rfl⟩ (fun x h => cC_FL_beginEdit _ g hi x1.2 x h) rfl (fun x2 hx2 => ?_)
    refine q_aload_n (pc' := 20) C 0 d_FL_load_19 rfl rfl ?_
    refine gC_FL_34 (pc' := 23) C 0 11 kC_0 rfl d_FL_load_20 rfl rfl ?_
    refine q_aload_n (pc' := 24) C 0 d_FL_load_23 rfl rfl ?_
    refine gC_FL_21 (pc' := 27) C 0 4 kC_0 rfl d_FL_load_24 rfl rfl ?_
    refine gC_FL_144 (pc' := 30) C 4 6 kC_4 rfl d_FL_load_27 rfl rfl ?_
    refine q_aload_n (pc' := 31) C 0 d_FL_load_30 rfl rfl ?_
    refine gC_FL_21 (pc' := 34) C 0 4 kC_0 rfl d_FL_load_31 rfl rfl ?_
    refine gC_FL_147 (pc' := 37) C 4 kC_4 d_FL_load_34 rfl rfl ?_
    refine q_callVv (fr' := 2) (lo' := 50) (pc' := 40) C FC_Pl_replaceAll lmC_FL_150 d_FL_load_37 11 (jCo kC_11) kC_11 cC_3 [.ref (g.1 6), .int (x2 4 4)] [] rfl rfl (Nat.le_of_ble_eq_true rfl) ⟨rfl, rfl⟩ (fun x h => cC_Pl_replaceAll _ g hi x2 11 kC_11 6 kC_6 (x2 4 4) x h) rfl (fun x3 hx3 => ?_)
    refine q_aload_n (pc' := 41) C 0 d_FL_load_40 rfl rfl ?_
    refine gC_FL_34 (pc' := 44) C 0 11 kC_0 rfl d_FL_load_41 rfl rfl ?_
    refine gC_FL_154 (pc' := 47) C 11 kC_11 d_FL_load_44 rfl rfl ?_
    exact q_iret C rfl d_FL_load_47 rfl
  · refine q_ldc (pc' := 14) C lcC_FL_140 d_FL_load_12 rfl ?_
    exact q_iret C rfl d_FL_load_14 rfl
theorem d_FL_planToEdit_0 : decode qC_FL_planToEdit.1 0 = .ok (.aload_n 0, 1) := by decide +kernel
theorem d_FL_planToEdit_1 : decode qC_FL_planToEdit.1 1 = .ok (.getfield 71, 3) := by decide +kernel
theorem d_FL_planToEdit_4 : decode qC_FL_planToEdit.1 4 = .ok (.ifCond .eq 10, 3) := by decide +kernel
theorem d_FL_planToEdit_7 : decode qC_FL_planToEdit.1 7 = .ok (.aload_n 0, 1) := by decide +kernel
theorem d_FL_planToEdit_8 : decode qC_FL_planToEdit.1 8 = .ok (.getfield 34, 3) := by decide +kernel
theorem d_FL_planToEdit_11 : decode qC_FL_planToEdit.1 11 = .ok (.goto 7, 3) := by decide +kernel
theorem d_FL_planToEdit_14 : decode qC_FL_planToEdit.1 14 = .ok (.aload_n 0, 1) := by decide +kernel
theorem d_FL_planToEdit_15 : decode qC_FL_planToEdit.1 15 = .ok (.getfield 30, 3) := by decide +kernel
theorem d_FL_planToEdit_18 : decode qC_FL_planToEdit.1 18 = .ok (.areturn, 1) := by decide +kernel
set_option maxRecDepth 100000 in
def f_FL_planToEdit (σ : St) : Option (Nat) :=
  Jn (fun (x1 : Nat) =>
  some x1
  ) fun J2 =>
  if ((σ 0 10) : Int32) = 0 then (
  J2 8
  ) else (
  J2 11
  )
set_option maxHeartbeats 4000000 in
set_option maxRecDepth 100000 in
theorem cC_FL_planToEdit (l : Launch) (g : Ge) (hi : injB wC.2 g) (σ : St) (x : Nat) (h : f_FL_planToEdit σ = some x) : Ct l wC g yC_FL_planToEdit qC_FL_planToEdit 0 0 [.ref (g.1 0)] σ (some (.ref (g.1 x)), σ) := by
  refine Ct.of (out := (o_n g σ)) FC_FL_planToEdit rfl hi rfl h (fun z hz C => ?_)
  clear h
  subst hz
  unfold f_FL_planToEdit
  show Rt z qC_FL_planToEdit wC g (o_n g σ) 0 [(0, .ref (g.1 0))] [] σ _
  refine q_aload_n (pc' := 1) C 0 d_FL_planToEdit_0 rfl rfl ?_
  refine gC_FL_71 (pc' := 4) C 0 kC_0 d_FL_planToEdit_1 rfl rfl ?_
  refine q_join (fun J2 : Nat → Option (Nat) => ∀ (x1 : Nat), Rt z qC_FL_planToEdit wC g (o_n g σ) 18 [] [.ref (g.1 x1)] σ (J2 x1)) (fun x1 => ?_) (fun J2 hJ2 => ?_)
  · exact q_aret C rfl d_FL_planToEdit_18 rfl
  refine q_if_eq (tgt := 14) (pc' := 7) C d_FL_planToEdit_4 rfl rfl ?_ ?_
  · refine q_aload_n (pc' := 15) C 0 d_FL_planToEdit_14 rfl rfl ?_
    refine gC_FL_30 (pc' := 18) C 0 8 kC_0 rfl d_FL_planToEdit_15 rfl rfl ?_
    exact Rt.sub [] rfl (hJ2 8)
  · refine q_aload_n (pc' := 8) C 0 d_FL_planToEdit_7 rfl rfl ?_
    refine gC_FL_34 (pc' := 11) C 0 11 kC_0 rfl d_FL_planToEdit_8 rfl rfl ?_
    refine q_goto (tgt := 18) C d_FL_planToEdit_11 rfl ?_
    exact Rt.sub [] rfl (hJ2 11)
theorem kd_FL_planToEdit {σ : St} {x : Nat} (h : f_FL_planToEdit σ = some x) : wC.2.2.1 x = .inr (3, 4) := by
  unfold f_FL_planToEdit at h
  simp only [Jn] at h
  split at h <;> (cases h; rfl)
theorem d_FL_insert_0 : decode qC_FL_insert.1 0 = .ok (.aload_n 0, 1) := by decide +kernel
theorem d_FL_insert_1 : decode qC_FL_insert.1 1 = .ok (.invokevirtual 155, 3) := by decide +kernel
theorem d_FL_insert_4 : decode qC_FL_insert.1 4 = .ok (.astore_n 2, 1) := by decide +kernel
theorem d_FL_insert_5 : decode qC_FL_insert.1 5 = .ok (.iload_n 1, 1) := by decide +kernel
theorem d_FL_insert_6 : decode qC_FL_insert.1 6 = .ok (.iconst 0, 1) := by decide +kernel
theorem d_FL_insert_7 : decode qC_FL_insert.1 7 = .ok (.aload_n 2, 1) := by decide +kernel
theorem d_FL_insert_8 : decode qC_FL_insert.1 8 = .ok (.getfield 154, 3) := by decide +kernel
theorem d_FL_insert_11 : decode qC_FL_insert.1 11 = .ok (.invokestatic 75, 3) := by decide +kernel
theorem d_FL_insert_14 : decode qC_FL_insert.1 14 = .ok (.ifCond .ne 6, 3) := by decide +kernel
theorem d_FL_insert_17 : decode qC_FL_insert.1 17 = .ok (.ldc 159, 2) := by decide +kernel
theorem d_FL_insert_19 : decode qC_FL_insert.1 19 = .ok (.ireturn, 1) := by decide +kernel
theorem d_FL_insert_20 : decode qC_FL_insert.1 20 = .ok (.aload_n 0, 1) := by decide +kernel
theorem d_FL_insert_21 : decode qC_FL_insert.1 21 = .ok (.getfield 21, 3) := by decide +kernel
theorem d_FL_insert_24 : decode qC_FL_insert.1 24 = .ok (.invokevirtual 89, 3) := by decide +kernel
theorem d_FL_insert_27 : decode qC_FL_insert.1 27 = .ok (.ldc 139, 2) := by decide +kernel
theorem d_FL_insert_29 : decode qC_FL_insert.1 29 = .ok (.if_icmp .ne 18, 3) := by decide +kernel
theorem d_FL_insert_32 : decode qC_FL_insert.1 32 = .ok (.aload_n 2, 1) := by decide +kernel
theorem d_FL_insert_33 : decode qC_FL_insert.1 33 = .ok (.getfield 154, 3) := by decide +kernel
theorem d_FL_insert_36 : decode qC_FL_insert.1 36 = .ok (.ifCond .le 14, 3) := by decide +kernel
theorem d_FL_insert_39 : decode qC_FL_insert.1 39 = .ok (.iload_n 1, 1) := by decide +kernel
theorem d_FL_insert_40 : decode qC_FL_insert.1 40 = .ok (.aload_n 2, 1) := by decide +kernel
theorem d_FL_insert_41 : decode qC_FL_insert.1 41 = .ok (.getfield 160, 3) := by decide +kernel
theorem d_FL_insert_44 : decode qC_FL_insert.1 44 = .ok (.if_icmp .gt 6, 3) := by decide +kernel
theorem d_FL_insert_47 : decode qC_FL_insert.1 47 = .ok (.ldc 140, 2) := by decide +kernel
theorem d_FL_insert_49 : decode qC_FL_insert.1 49 = .ok (.ireturn, 1) := by decide +kernel
theorem d_FL_insert_50 : decode qC_FL_insert.1 50 = .ok (.aload_n 0, 1) := by decide +kernel
theorem d_FL_insert_51 : decode qC_FL_insert.1 51 = .ok (.getfield 21, 3) := by decide +kernel
theorem d_FL_insert_54 : decode qC_FL_insert.1 54 = .ok (.getfield 144, 3) := by decide +kernel
theorem d_FL_insert_57 : decode qC_FL_insert.1 57 = .ok (.aload_n 0, 1) := by decide +kernel
theorem d_FL_insert_58 : decode qC_FL_insert.1 58 = .ok (.getfield 21, 3) := by decide +kernel
theorem d_FL_insert_61 : decode qC_FL_insert.1 61 = .ok (.getfield 147, 3) := by decide +kernel
theorem d_FL_insert_64 : decode qC_FL_insert.1 64 = .ok (.iconst 1, 1) := by decide +kernel
theorem d_FL_insert_65 : decode qC_FL_insert.1 65 = .ok (.isub, 1) := by decide +kernel
theorem d_FL_insert_66 : decode qC_FL_insert.1 66 = .ok (.iconst 1, 1) := by decide +kernel
theorem d_FL_insert_67 : decode qC_FL_insert.1 67 = .ok (.invokevirtual 163, 3) := by decide +kernel
theorem d_FL_insert_70 : decode qC_FL_insert.1 70 = .ok (.istore_n 3, 1) := by decide +kernel
theorem d_FL_insert_71 : decode qC_FL_insert.1 71 = .ok (.aload_n 2, 1) := by decide +kernel
theorem d_FL_insert_72 : decode qC_FL_insert.1 72 = .ok (.iload_n 1, 1) := by decide +kernel
theorem d_FL_insert_73 : decode qC_FL_insert.1 73 = .ok (.iload_n 3, 1) := by decide +kernel
theorem d_FL_insert_74 : decode qC_FL_insert.1 74 = .ok (.invokevirtual 167, 3) := by decide +kernel
theorem d_FL_insert_77 : decode qC_FL_insert.1 77 = .ok (.istore 4, 2) := by decide +kernel
theorem d_FL_insert_79 : decode qC_FL_insert.1 79 = .ok (.aload_n 2, 1) := by decide +kernel
theorem d_FL_insert_80 : decode qC_FL_insert.1 80 = .ok (.getfield 154, 3) := by decide +kernel
theorem d_FL_insert_83 : decode qC_FL_insert.1 83 = .ok (.iload 4, 2) := by decide +kernel
theorem d_FL_insert_85 : decode qC_FL_insert.1 85 = .ok (.isub, 1) := by decide +kernel
theorem d_FL_insert_86 : decode qC_FL_insert.1 86 = .ok (.aload_n 0, 1) := by decide +kernel
theorem d_FL_insert_87 : decode qC_FL_insert.1 87 = .ok (.getfield 21, 3) := by decide +kernel
theorem d_FL_insert_90 : decode qC_FL_insert.1 90 = .ok (.getfield 147, 3) := by decide +kernel
theorem d_FL_insert_93 : decode qC_FL_insert.1 93 = .ok (.iadd, 1) := by decide +kernel
theorem d_FL_insert_94 : decode qC_FL_insert.1 94 = .ok (.bipush 20, 2) := by decide +kernel
theorem d_FL_insert_96 : decode qC_FL_insert.1 96 = .ok (.if_icmp .le 6, 3) := by decide +kernel
theorem d_FL_insert_99 : decode qC_FL_insert.1 99 = .ok (.ldc 88, 2) := by decide +kernel
theorem d_FL_insert_101 : decode qC_FL_insert.1 101 = .ok (.ireturn, 1) := by decide +kernel
theorem d_FL_insert_102 : decode qC_FL_insert.1 102 = .ok (.aload_n 0, 1) := by decide +kernel
theorem d_FL_insert_103 : decode qC_FL_insert.1 103 = .ok (.invokevirtual 141, 3) := by decide +kernel
theorem d_FL_insert_106 : decode qC_FL_insert.1 106 = .ok (.aload_n 0, 1) := by decide +kernel
theorem d_FL_insert_107 : decode qC_FL_insert.1 107 = .ok (.getfield 34, 3) := by decide +kernel
theorem d_FL_insert_110 : decode qC_FL_insert.1 110 = .ok (.iload_n 1, 1) := by decide +kernel
theorem d_FL_insert_111 : decode qC_FL_insert.1 111 = .ok (.iload 4, 2) := by decide +kernel
theorem d_FL_insert_113 : decode qC_FL_insert.1 113 = .ok (.aload_n 0, 1) := by decide +kernel
theorem d_FL_insert_114 : decode qC_FL_insert.1 114 = .ok (.getfield 21, 3) := by decide +kernel
theorem d_FL_insert_117 : decode qC_FL_insert.1 117 = .ok (.getfield 144, 3) := by decide +kernel
theorem d_FL_insert_120 : decode qC_FL_insert.1 120 = .ok (.aload_n 0, 1) := by decide +kernel
theorem d_FL_insert_121 : decode qC_FL_insert.1 121 = .ok (.getfield 21, 3) := by decide +kernel
theorem d_FL_insert_124 : decode qC_FL_insert.1 124 = .ok (.getfield 147, 3) := by decide +kernel
theorem d_FL_insert_127 : decode qC_FL_insert.1 127 = .ok (.invokevirtual 170, 3) := by decide +kernel
theorem d_FL_insert_130 : decode qC_FL_insert.1 130 = .ok (.aload_n 0, 1) := by decide +kernel
theorem d_FL_insert_131 : decode qC_FL_insert.1 131 = .ok (.getfield 34, 3) := by decide +kernel
theorem d_FL_insert_134 : decode qC_FL_insert.1 134 = .ok (.getfield 154, 3) := by decide +kernel
theorem d_FL_insert_137 : decode qC_FL_insert.1 137 = .ok (.ireturn, 1) := by decide +kernel
set_option maxRecDepth 100000 in
def f_FL_insert (σ : St) (p1 : Int32) : Option (Int32 × St) :=
  Option.bind (f_FL_planToEdit σ) fun x1 =>
  Option.bind (f_FL_within p1 (0 : Int32) (σ x1 1)) fun x2 =>
  if (x2 : Int32) = 0 then (
  some ((-1000001 : Int32), σ)
  ) else (
  Option.bind (f_Rx_parse σ 4) fun x3 =>
  Jn (fun (_ : Unit) =>
  some ((-1000003 : Int32), x3.2)
  ) fun J4 =>
  if (x3.1 : Int32) = (-1000000 : Int32) then (
  Jn (fun (_ : Unit) =>
  Option.bind (f_Tb_get x3.2 6 ((x3.2 4 4) - (1 : Int32)) (1 : Int32)) fun x6 =>
  Option.bind (f_Pl_legsUpToFix x3.2 x1 p1 x6) fun x7 =>
  if ((((x3.2 x1 1) - x7) + (x3.2 4 4)) : Int32) ≤ (20 : Int32) then (
  Option.bind (f_FL_beginEdit x3.2) fun x8 =>
  Option.bind (f_Pl_splice x8 11 p1 x7 6 (x8 4 4)) fun x9 =>
  some ((x9 11 1), x9)
  ) else (
  some ((-1000004 : Int32), x3.2)
  )
  ) fun J5 =>
  if ((x3.2 x1 1) : Int32) ≤ 0 then (
  J5 ()
  ) else (
  if ((x3.2 x1 2) : Int32) < p1 then (
  J5 ()
  ) else (
  J4 ()
  )
  )
  ) else (
  J4 ()
  )
  )
set_option maxHeartbeats 4000000 in
set_option maxRecDepth 100000 in
theorem cC_FL_insert (l : Launch) (g : Ge) (hi : injB wC.2 g) (σ : St) (p1 : Int32) (x : Int32 × St) (h : f_FL_insert σ p1 = some x) : Ct l wC g yC_FL_insert qC_FL_insert 8 170 [.ref (g.1 0), .int p1] σ (some (.int x.1), x.2) := by
  refine Ct.of (out := o_w) FC_FL_insert rfl hi rfl h (fun z hz C => ?_)
  clear h
  subst hz
  unfold f_FL_insert
  show Rt z qC_FL_insert wC g o_w 0 [(0, .ref (g.1 0)), (1, .int p1)] [] σ _
  refine q_aload_n (pc' := 1) C 0 d_FL_insert_0 rfl rfl ?_
  refine q_callVn (fr' := 0) (lo' := 0) (pc' := 4) C FC_FL_planToEdit lmC_FL_155 d_FL_insert_1 0 (jCo kC_0) kC_0 cC_10 [] [] rfl rfl (Nat.le_of_ble_eq_true rfl) ⟨rfl, rfl⟩ (fun x h => cC_FL_planToEdit _ g hi σ x h) rfl (fun x1 hx1 => ?_)
  refine q_astore_n (pc' := 5) (lv' := [(2, .ref (g.1 x1)), (0, .ref (g.1 0)), (1, .int p1)]) C d_FL_insert_4 (by decide) rfl rfl ?_
  refine q_iload_n (pc' := 6) C 2 d_FL_insert_5 rfl rfl ?_
  refine q_iconst (pc' := 7) C d_FL_insert_6 ki_0 rfl ?_
  refine q_aload_n (pc' := 8) C 0 d_FL_insert_7 rfl rfl ?_
  refine gC_FL_154 (pc' := 11) C x1 (kd_FL_planToEdit hx1) d_FL_insert_8 rfl rfl ?_
  refine q_callSr (fr' := 0) (lo' := 0) (pc' := 14) C FC_FL_within lmC_FL_75 d_FL_insert_11 [.int p1, .int (0 : Int32), .int (σ x1 1)] [] rfl rfl (Nat.le_of_ble_eq_true rfl) ⟨rfl, rfl⟩ (fun x h => cC_FL_within _ g hi σ p1 (0 : Int32) (σ x1 1) x h) rfl (fun x2 hx2 => ?_)
  refine q_if_ne (tgt := 20) (pc' := 17) C d_FL_insert_14 rfl rfl ?_ ?_
  · refine q_aload_n (pc' := 21) C 1 d_FL_insert_20 rfl rfl ?_
    refine gC_FL_21 (pc' := 24) C 0 4 kC_0 rfl d_FL_insert_21 rfl rfl ?_
    refine q_callVw (fr' := 7) (lo' := 149) (pc' := 27) C FC_Rx_parse lmC_FL_89 d_FL_insert_24 4 (jCo kC_4) kC_4 cC_6 [] [] rfl rfl (Nat.le_of_ble_eq_true rfl) ⟨rfl, rfl⟩ (fun x h => cC_Rx_parse _ g hi σ 4 kC_4 x h) rfl (fun x3 hx3 => ?_)
    refine q_ldc (pc' := 29) C lcC_FL_139 d_FL_insert_27 rfl ?_
    refine q_join (fun J4 : Unit → Option (Int32 × St) => ∀ (_ : Unit), Rt z qC_FL_insert wC g o_w 47 [] [] x3.2 (J4 ())) (fun _ => ?_) (fun J4 hJ4 => ?_)
    · refine q_ldc (pc' := 49) C lcC_FL_140 d_FL_insert_47 rfl ?_
      exact q_iret C rfl d_FL_insert_49 rfl
    refine q_icmp_ne (tgt := 47) (pc' := 32) C d_FL_insert_29 rfl rfl ?_ ?_
    · exact Rt.sub [] rfl (hJ4 ())
    · refine q_aload_n (pc' := 33) C 0 d_FL_insert_32 rfl rfl ?_
      refine gC_FL_154 (pc' := 36) C x1 (kd_FL_planToEdit hx1) d_FL_insert_33 rfl rfl ?_
      refine q_join (fun J5 : Unit → Option (Int32 × St) => ∀ (_ : Unit), Rt z qC_FL_insert wC g o_w 50 [(0, .ref (g.1 0)), (1, .int p1), (2, .ref (g.1 x1))] [] x3.2 (J5 ())) (fun _ => ?_) (fun J5 hJ5 => ?_)
      · refine q_aload_n (pc' := 51) C 0 d_FL_insert_50 rfl rfl ?_
        refine gC_FL_21 (pc' := 54) C 0 4 kC_0 rfl d_FL_insert_51 rfl rfl ?_
        refine gC_FL_144 (pc' := 57) C 4 6 kC_4 rfl d_FL_insert_54 rfl rfl ?_
        refine q_aload_n (pc' := 58) C 0 d_FL_insert_57 rfl rfl ?_
        refine gC_FL_21 (pc' := 61) C 0 4 kC_0 rfl d_FL_insert_58 rfl rfl ?_
        refine gC_FL_147 (pc' := 64) C 4 kC_4 d_FL_insert_61 rfl rfl ?_
        refine q_iconst (pc' := 65) C d_FL_insert_64 ki_1 rfl ?_
        refine q_isub (pc' := 66) C d_FL_insert_65 rfl ?_
        refine q_iconst (pc' := 67) C d_FL_insert_66 ki_1 rfl ?_
        refine q_callVr (fr' := 0) (lo' := 0) (pc' := 70) C FC_Tb_get lmC_FL_163 d_FL_insert_67 6 (jCo kC_6) kC_6 cC_8 [.int ((x3.2 4 4) - (1 : Int32)), .int (1 : Int32)] [] rfl rfl (Nat.le_of_ble_eq_true rfl) ⟨rfl, rfl⟩ (fun x h => cC_Tb_get _ g hi x3.2 6 kC_6 ((x3.2 4 4) - (1 : Int32)) (1 : Int32) x h) rfl (fun x6 hx6 => ?_)
        refine q_istore_n (pc' := 71) (lv' := [(3, .int x6), (0, .ref (g.1 0)), (1, .int p1), (2, .ref (g.1 x1))]) C d_FL_insert_70 (by decide) rfl rfl ?_
        refine q_aload_n (pc' := 72) C 3 d_FL_insert_71 rfl rfl ?_
        refine q_iload_n (pc' := 73) C 2 d_FL_insert_72 rfl rfl ?_
        refine q_iload_n (pc' := 74) C 0 d_FL_insert_73 rfl rfl ?_
        refine q_callVr (fr' := 1) (lo' := 22) (pc' := 77) C FC_Pl_legsUpToFix lmC_FL_167 d_FL_insert_74 x1 (jCo (kd_FL_planToEdit hx1)) (kd_FL_planToEdit hx1) cC_3 [.int p1, .int x6] [] rfl rfl (Nat.le_of_ble_eq_true rfl) ⟨rfl, rfl⟩ (fun x h => cC_Pl_legsUpToFix _ g hi x3.2 x1 (kd_FL_planToEdit hx1) p1 x6 x h) rfl (fun x7 hx7 => ?_)
        refine q_istore (pc' := 79) (lv' := [(4, .int x7), (3, .int x6), (0, .ref (g.1 0)), (1, .int p1), (2, .ref (g.1 x1))]) C d_FL_insert_77 (by decide) rfl rfl ?_
        refine q_aload_n (pc' := 80) C 4 d_FL_insert_79 rfl rfl ?_
        refine gC_FL_154 (pc' := 83) C x1 (kd_FL_planToEdit hx1) d_FL_insert_80 rfl rfl ?_
        refine q_iload (pc' := 85) C 0 d_FL_insert_83 rfl rfl ?_
        refine q_isub (pc' := 86) C d_FL_insert_85 rfl ?_
        refine q_aload_n (pc' := 87) C 2 d_FL_insert_86 rfl rfl ?_
        refine gC_FL_21 (pc' := 90) C 0 4 kC_0 rfl d_FL_insert_87 rfl rfl ?_
        refine gC_FL_147 (pc' := 93) C 4 kC_4 d_FL_insert_90 rfl rfl ?_
        refine q_iadd (pc' := 94) C d_FL_insert_93 rfl ?_
        refine q_bipush (pc' := 96) C d_FL_insert_94 kb_20 rfl ?_
        refine q_icmp_le (tgt := 102) (pc' := 99) C d_FL_insert_96 rfl rfl ?_ ?_
        · refine q_aload_n (pc' := 103) C 2 d_FL_insert_102 rfl rfl ?_
          refine q_callVv (fr' := 3) (lo' := 72) (pc' := 106) C FC_FL_beginEdit lmC_FL_141 d_FL_insert_103 0 (jCo kC_0) kC_0 cC_10 [] [] rfl rfl (Nat.le_of_ble_eq_true rfl) ⟨rfl, rfl⟩ (fun x h => cC_FL_beginEdit _ g hi x3.2 x h) rfl (fun x8 hx8 => ?_)
          refine q_aload_n (pc' := 107) C 2 d_FL_insert_106 rfl rfl ?_
          refine gC_FL_34 (pc' := 110) C 0 11 kC_0 rfl d_FL_insert_107 rfl rfl ?_
          refine q_iload_n (pc' := 111) C 3 d_FL_insert_110 rfl rfl ?_
          refine q_iload (pc' := 113) C 0 d_FL_insert_111 rfl rfl ?_
          refine q_aload_n (pc' := 114) C 2 d_FL_insert_113 rfl rfl ?_
          refine gC_FL_21 (pc' := 117) C 0 4 kC_0 rfl d_FL_insert_114 rfl rfl ?_
          refine gC_FL_144 (pc' := 120) C 4 6 kC_4 rfl d_FL_insert_117 rfl rfl ?_
          refine q_aload_n (pc' := 121) C 2 d_FL_insert_120 rfl rfl ?_
          refine gC_FL_21 (pc' := 124) C 0 4 kC_0 rfl d_FL_insert_121 rfl rfl ?_
          refine gC_FL_147 (pc' := 127) C 4 kC_4 d_FL_insert_124 rfl rfl ?_
          refine q_callVv (fr' := 2) (lo' := 50) (pc' := 130) C FC_Pl_splice lmC_FL_170 d_FL_insert_127 11 (jCo kC_11) kC_11 cC_3 [.int p1, .int x7, .ref (g.1 6), .int (x8 4 4)] [] rfl rfl (Nat.le_of_ble_eq_true rfl) ⟨rfl, rfl⟩ (fun x h => cC_Pl_splice _ g hi x8 11 kC_11 p1 x7 6 kC_6 (x8 4 4) x h) rfl (fun x9 hx9 => ?_)
          refine q_aload_n (pc' := 131) C 2 d_FL_insert_130 rfl rfl ?_
          refine gC_FL_34 (pc' := 134) C 0 11 kC_0 rfl d_FL_insert_131 rfl rfl ?_
          refine gC_FL_154 (pc' := 137) C 11 kC_11 d_FL_insert_134 rfl rfl ?_
          exact q_iret C rfl d_FL_insert_137 rfl
        · refine q_ldc (pc' := 101) C lcC_FL_88 d_FL_insert_99 rfl ?_
          exact q_iret C rfl d_FL_insert_101 rfl
      refine q_if_le (tgt := 50) (pc' := 39) C d_FL_insert_36 rfl rfl ?_ ?_
      · exact Rt.sub [1, 2, 0] rfl (hJ5 ())
      · refine q_iload_n (pc' := 40) C 2 d_FL_insert_39 rfl rfl ?_
        refine q_aload_n (pc' := 41) C 0 d_FL_insert_40 rfl rfl ?_
        refine gC_FL_160 (pc' := 44) C x1 (kd_FL_planToEdit hx1) d_FL_insert_41 rfl rfl ?_
        refine q_icmp_gt (tgt := 50) (pc' := 47) C d_FL_insert_44 rfl rfl ?_ ?_
        · exact Rt.sub [1, 2, 0] rfl (hJ5 ())
        · exact Rt.sub [] rfl (hJ4 ())
  · refine q_ldc (pc' := 19) C lcC_FL_159 d_FL_insert_17 rfl ?_
    exact q_iret C rfl d_FL_insert_19 rfl
theorem d_FL_delete_0 : decode qC_FL_delete.1 0 = .ok (.aload_n 0, 1) := by decide +kernel
theorem d_FL_delete_1 : decode qC_FL_delete.1 1 = .ok (.invokevirtual 155, 3) := by decide +kernel
theorem d_FL_delete_4 : decode qC_FL_delete.1 4 = .ok (.astore_n 2, 1) := by decide +kernel
theorem d_FL_delete_5 : decode qC_FL_delete.1 5 = .ok (.aload_n 2, 1) := by decide +kernel
theorem d_FL_delete_6 : decode qC_FL_delete.1 6 = .ok (.iload_n 1, 1) := by decide +kernel
theorem d_FL_delete_7 : decode qC_FL_delete.1 7 = .ok (.invokevirtual 174, 3) := by decide +kernel
theorem d_FL_delete_10 : decode qC_FL_delete.1 10 = .ok (.ifCond .ne 6, 3) := by decide +kernel
theorem d_FL_delete_13 : decode qC_FL_delete.1 13 = .ok (.ldc 159, 2) := by decide +kernel
theorem d_FL_delete_15 : decode qC_FL_delete.1 15 = .ok (.ireturn, 1) := by decide +kernel
theorem d_FL_delete_16 : decode qC_FL_delete.1 16 = .ok (.iload_n 1, 1) := by decide +kernel
theorem d_FL_delete_17 : decode qC_FL_delete.1 17 = .ok (.aload_n 2, 1) := by decide +kernel
theorem d_FL_delete_18 : decode qC_FL_delete.1 18 = .ok (.getfield 160, 3) := by decide +kernel
theorem d_FL_delete_21 : decode qC_FL_delete.1 21 = .ok (.if_icmp .gt 6, 3) := by decide +kernel
theorem d_FL_delete_24 : decode qC_FL_delete.1 24 = .ok (.ldc 140, 2) := by decide +kernel
theorem d_FL_delete_26 : decode qC_FL_delete.1 26 = .ok (.ireturn, 1) := by decide +kernel
theorem d_FL_delete_27 : decode qC_FL_delete.1 27 = .ok (.aload_n 0, 1) := by decide +kernel
theorem d_FL_delete_28 : decode qC_FL_delete.1 28 = .ok (.invokevirtual 141, 3) := by decide +kernel
theorem d_FL_delete_31 : decode qC_FL_delete.1 31 = .ok (.aload_n 0, 1) := by decide +kernel
theorem d_FL_delete_32 : decode qC_FL_delete.1 32 = .ok (.getfield 34, 3) := by decide +kernel
theorem d_FL_delete_35 : decode qC_FL_delete.1 35 = .ok (.iload_n 1, 1) := by decide +kernel
theorem d_FL_delete_36 : decode qC_FL_delete.1 36 = .ok (.invokevirtual 177, 3) := by decide +kernel
theorem d_FL_delete_39 : decode qC_FL_delete.1 39 = .ok (.aload_n 0, 1) := by decide +kernel
theorem d_FL_delete_40 : decode qC_FL_delete.1 40 = .ok (.getfield 34, 3) := by decide +kernel
theorem d_FL_delete_43 : decode qC_FL_delete.1 43 = .ok (.getfield 154, 3) := by decide +kernel
theorem d_FL_delete_46 : decode qC_FL_delete.1 46 = .ok (.ireturn, 1) := by decide +kernel
set_option maxRecDepth 100000 in
def f_FL_delete (σ : St) (p1 : Int32) : Option (Int32 × St) :=
  Option.bind (f_FL_planToEdit σ) fun x1 =>
  Option.bind (f_Pl_hasLeg σ x1 p1) fun x2 =>
  if (x2 : Int32) = 0 then (
  some ((-1000001 : Int32), σ)
  ) else (
  if ((σ x1 2) : Int32) < p1 then (
  Option.bind (f_FL_beginEdit σ) fun x3 =>
  Option.bind (f_Pl_removeLeg x3 11 p1) fun x4 =>
  some ((x4 11 1), x4)
  ) else (
  some ((-1000003 : Int32), σ)
  )
  )
set_option maxHeartbeats 4000000 in
set_option maxRecDepth 100000 in
theorem cC_FL_delete (l : Launch) (g : Ge) (hi : injB wC.2 g) (σ : St) (p1 : Int32) (x : Int32 × St) (h : f_FL_delete σ p1 = some x) : Ct l wC g yC_FL_delete qC_FL_delete 4 92 [.ref (g.1 0), .int p1] σ (some (.int x.1), x.2) := by
  refine Ct.of (out := o_w) FC_FL_delete rfl hi rfl h (fun z hz C => ?_)
  clear h
  subst hz
  unfold f_FL_delete
  show Rt z qC_FL_delete wC g o_w 0 [(0, .ref (g.1 0)), (1, .int p1)] [] σ _
  refine q_aload_n (pc' := 1) C 0 d_FL_delete_0 rfl rfl ?_
  refine q_callVn (fr' := 0) (lo' := 0) (pc' := 4) C FC_FL_planToEdit lmC_FL_155 d_FL_delete_1 0 (jCo kC_0) kC_0 cC_10 [] [] rfl rfl (Nat.le_of_ble_eq_true rfl) ⟨rfl, rfl⟩ (fun x h => cC_FL_planToEdit _ g hi σ x h) rfl (fun x1 hx1 => ?_)
  refine q_astore_n (pc' := 5) (lv' := [(2, .ref (g.1 x1)), (0, .ref (g.1 0)), (1, .int p1)]) C d_FL_delete_4 (by decide) rfl rfl ?_
  refine q_aload_n (pc' := 6) C 0 d_FL_delete_5 rfl rfl ?_
  refine q_iload_n (pc' := 7) C 2 d_FL_delete_6 rfl rfl ?_
  refine q_callVr (fr' := 0) (lo' := 0) (pc' := 10) C FC_Pl_hasLeg lmC_FL_174 d_FL_delete_7 x1 (jCo (kd_FL_planToEdit hx1)) (kd_FL_planToEdit hx1) cC_3 [.int p1] [] rfl rfl (Nat.le_of_ble_eq_true rfl) ⟨rfl, rfl⟩ (fun x h => cC_Pl_hasLeg _ g hi σ x1 (kd_FL_planToEdit hx1) p1 x h) rfl (fun x2 hx2 => ?_)
  refine q_if_ne (tgt := 16) (pc' := 13) C d_FL_delete_10 rfl rfl ?_ ?_
  · refine q_iload_n (pc' := 17) C 2 d_FL_delete_16 rfl rfl ?_
    refine q_aload_n (pc' := 18) C 0 d_FL_delete_17 rfl rfl ?_
    refine gC_FL_160 (pc' := 21) C x1 (kd_FL_planToEdit hx1) d_FL_delete_18 rfl rfl ?_
    refine q_icmp_gt (tgt := 27) (pc' := 24) C d_FL_delete_21 rfl rfl ?_ ?_
    · refine q_aload_n (pc' := 28) C 1 d_FL_delete_27 rfl rfl ?_
      refine q_callVv (fr' := 3) (lo' := 72) (pc' := 31) C FC_FL_beginEdit lmC_FL_141 d_FL_delete_28 0 (jCo kC_0) kC_0 cC_10 [] [] rfl rfl (Nat.le_of_ble_eq_true rfl) ⟨rfl, rfl⟩ (fun x h => cC_FL_beginEdit _ g hi σ x h) rfl (fun x3 hx3 => ?_)
      refine q_aload_n (pc' := 32) C 1 d_FL_delete_31 rfl rfl ?_
      refine gC_FL_34 (pc' := 35) C 0 11 kC_0 rfl d_FL_delete_32 rfl rfl ?_
      refine q_iload_n (pc' := 36) C 2 d_FL_delete_35 rfl rfl ?_
      refine q_callVv (fr' := 2) (lo' := 50) (pc' := 39) C FC_Pl_removeLeg lmC_FL_177 d_FL_delete_36 11 (jCo kC_11) kC_11 cC_3 [.int p1] [] rfl rfl (Nat.le_of_ble_eq_true rfl) ⟨rfl, rfl⟩ (fun x h => cC_Pl_removeLeg _ g hi x3 11 kC_11 p1 x h) rfl (fun x4 hx4 => ?_)
      refine q_aload_n (pc' := 40) C 1 d_FL_delete_39 rfl rfl ?_
      refine gC_FL_34 (pc' := 43) C 0 11 kC_0 rfl d_FL_delete_40 rfl rfl ?_
      refine gC_FL_154 (pc' := 46) C 11 kC_11 d_FL_delete_43 rfl rfl ?_
      exact q_iret C rfl d_FL_delete_46 rfl
    · refine q_ldc (pc' := 26) C lcC_FL_140 d_FL_delete_24 rfl ?_
      exact q_iret C rfl d_FL_delete_26 rfl
  · refine q_ldc (pc' := 15) C lcC_FL_159 d_FL_delete_13 rfl ?_
    exact q_iret C rfl d_FL_delete_15 rfl
theorem d_FL_pathOf_0 : decode qC_FL_pathOf.1 0 = .ok (.iload_n 1, 1) := by decide +kernel
theorem d_FL_pathOf_1 : decode qC_FL_pathOf.1 1 = .ok (.ifCond .ne 10, 3) := by decide +kernel
theorem d_FL_pathOf_4 : decode qC_FL_pathOf.1 4 = .ok (.aload_n 0, 1) := by decide +kernel
theorem d_FL_pathOf_5 : decode qC_FL_pathOf.1 5 = .ok (.getfield 45, 3) := by decide +kernel
theorem d_FL_pathOf_8 : decode qC_FL_pathOf.1 8 = .ok (.goto 7, 3) := by decide +kernel
theorem d_FL_pathOf_11 : decode qC_FL_pathOf.1 11 = .ok (.aload_n 0, 1) := by decide +kernel
theorem d_FL_pathOf_12 : decode qC_FL_pathOf.1 12 = .ok (.getfield 49, 3) := by decide +kernel
theorem d_FL_pathOf_15 : decode qC_FL_pathOf.1 15 = .ok (.areturn, 1) := by decide +kernel
set_option maxRecDepth 100000 in
def f_FL_pathOf (σ : St) (p1 : Int32) : Option (Nat) :=
  Jn (fun (x1 : Nat) =>
  some x1
  ) fun J2 =>
  if (p1 : Int32) = 0 then (
  J2 17
  ) else (
  J2 27
  )
set_option maxHeartbeats 4000000 in
set_option maxRecDepth 100000 in
theorem cC_FL_pathOf (l : Launch) (g : Ge) (hi : injB wC.2 g) (σ : St) (p1 : Int32) (x : Nat) (h : f_FL_pathOf σ p1 = some x) : Ct l wC g yC_FL_pathOf qC_FL_pathOf 0 0 [.ref (g.1 0), .int p1] σ (some (.ref (g.1 x)), σ) := by
  refine Ct.of (out := (o_n g σ)) FC_FL_pathOf rfl hi rfl h (fun z hz C => ?_)
  clear h
  subst hz
  unfold f_FL_pathOf
  show Rt z qC_FL_pathOf wC g (o_n g σ) 0 [(0, .ref (g.1 0)), (1, .int p1)] [] σ _
  refine q_iload_n (pc' := 1) C 1 d_FL_pathOf_0 rfl rfl ?_
  refine q_join (fun J2 : Nat → Option (Nat) => ∀ (x1 : Nat), Rt z qC_FL_pathOf wC g (o_n g σ) 15 [] [.ref (g.1 x1)] σ (J2 x1)) (fun x1 => ?_) (fun J2 hJ2 => ?_)
  · exact q_aret C rfl d_FL_pathOf_15 rfl
  refine q_if_ne (tgt := 11) (pc' := 4) C d_FL_pathOf_1 rfl rfl ?_ ?_
  · refine q_aload_n (pc' := 12) C 0 d_FL_pathOf_11 rfl rfl ?_
    refine gC_FL_49 (pc' := 15) C 0 27 kC_0 rfl d_FL_pathOf_12 rfl rfl ?_
    exact Rt.sub [] rfl (hJ2 27)
  · refine q_aload_n (pc' := 5) C 0 d_FL_pathOf_4 rfl rfl ?_
    refine gC_FL_45 (pc' := 8) C 0 17 kC_0 rfl d_FL_pathOf_5 rfl rfl ?_
    refine q_goto (tgt := 15) C d_FL_pathOf_8 rfl ?_
    exact Rt.sub [] rfl (hJ2 17)
theorem kd_FL_pathOf {σ : St} {p1 : Int32} {x : Nat} (h : f_FL_pathOf σ p1 = some x) : wC.2.2.1 x = .inr (1, 6) := by
  unfold f_FL_pathOf at h
  simp only [Jn] at h
  split at h <;> (cases h; rfl)
theorem d_FL_freshPathOf_0 : decode qC_FL_freshPathOf.1 0 = .ok (.aload_n 0, 1) := by decide +kernel
theorem d_FL_freshPathOf_1 : decode qC_FL_freshPathOf.1 1 = .ok (.iload_n 1, 1) := by decide +kernel
theorem d_FL_freshPathOf_2 : decode qC_FL_freshPathOf.1 2 = .ok (.invokevirtual 300, 3) := by decide +kernel
theorem d_FL_freshPathOf_5 : decode qC_FL_freshPathOf.1 5 = .ok (.astore_n 2, 1) := by decide +kernel
theorem d_FL_freshPathOf_6 : decode qC_FL_freshPathOf.1 6 = .ok (.aload_n 2, 1) := by decide +kernel
theorem d_FL_freshPathOf_7 : decode qC_FL_freshPathOf.1 7 = .ok (.invokevirtual 231, 3) := by decide +kernel
theorem d_FL_freshPathOf_10 : decode qC_FL_freshPathOf.1 10 = .ok (.aload_n 2, 1) := by decide +kernel
theorem d_FL_freshPathOf_11 : decode qC_FL_freshPathOf.1 11 = .ok (.areturn, 1) := by decide +kernel
set_option maxRecDepth 100000 in
def f_FL_freshPathOf (σ : St) (p1 : Int32) : Option (Nat × St) :=
  Option.bind (f_FL_pathOf σ p1) fun x1 =>
  Option.bind (f_Pa_refresh σ x1) fun x2 =>
  some (x1, x2)
set_option maxHeartbeats 4000000 in
set_option maxRecDepth 100000 in
theorem cC_FL_freshPathOf (l : Launch) (g : Ge) (hi : injB wC.2 g) (σ : St) (p1 : Int32) (x : Nat × St) (h : f_FL_freshPathOf σ p1 = some x) : Ct l wC g yC_FL_freshPathOf qC_FL_freshPathOf 6 151 [.ref (g.1 0), .int p1] σ (some (.ref (g.1 x.1)), x.2) := by
  refine Ct.of (out := (o_nw g)) FC_FL_freshPathOf rfl hi rfl h (fun z hz C => ?_)
  clear h
  subst hz
  unfold f_FL_freshPathOf
  show Rt z qC_FL_freshPathOf wC g (o_nw g) 0 [(0, .ref (g.1 0)), (1, .int p1)] [] σ _
  refine q_aload_n (pc' := 1) C 0 d_FL_freshPathOf_0 rfl rfl ?_
  refine q_iload_n (pc' := 2) C 1 d_FL_freshPathOf_1 rfl rfl ?_
  refine q_callVn (fr' := 0) (lo' := 0) (pc' := 5) C FC_FL_pathOf lmC_FL_300 d_FL_freshPathOf_2 0 (jCo kC_0) kC_0 cC_10 [.int p1] [] rfl rfl (Nat.le_of_ble_eq_true rfl) ⟨rfl, rfl⟩ (fun x h => cC_FL_pathOf _ g hi σ p1 x h) rfl (fun x1 hx1 => ?_)
  refine q_astore_n (pc' := 6) (lv' := [(2, .ref (g.1 x1)), (0, .ref (g.1 0)), (1, .int p1)]) C d_FL_freshPathOf_5 (by decide) rfl rfl ?_
  refine q_aload_n (pc' := 7) C 0 d_FL_freshPathOf_6 rfl rfl ?_
  refine q_callVv (fr' := 5) (lo' := 129) (pc' := 10) C FC_Pa_refresh lmC_FL_231 d_FL_freshPathOf_7 x1 (jCo (kd_FL_pathOf hx1)) (kd_FL_pathOf hx1) cC_1 [] [] rfl rfl (Nat.le_of_ble_eq_true rfl) ⟨rfl, rfl⟩ (fun x h => cC_Pa_refresh _ g hi σ x1 (kd_FL_pathOf hx1) x h) rfl (fun x2 hx2 => ?_)
  refine q_aload_n (pc' := 11) C 0 d_FL_freshPathOf_10 rfl rfl ?_
  exact q_aret C rfl d_FL_freshPathOf_11 rfl
theorem kd_FL_freshPathOf {σ : St} {p1 : Int32} {x : Nat × St} (h : f_FL_freshPathOf σ p1 = some x) : wC.2.2.1 x.1 = .inr (1, 6) := by
  unfold f_FL_freshPathOf at h
  obtain ⟨a, ha, h⟩ := Option.bind_eq_some_iff.mp h
  obtain ⟨b, hb, h⟩ := Option.bind_eq_some_iff.mp h
  cases h
  exact kd_FL_pathOf ha
theorem d_FL_closeGap_0 : decode qC_FL_closeGap.1 0 = .ok (.aload_n 0, 1) := by decide +kernel
theorem d_FL_closeGap_1 : decode qC_FL_closeGap.1 1 = .ok (.invokevirtual 155, 3) := by decide +kernel
theorem d_FL_closeGap_4 : decode qC_FL_closeGap.1 4 = .ok (.astore_n 2, 1) := by decide +kernel
theorem d_FL_closeGap_5 : decode qC_FL_closeGap.1 5 = .ok (.aload_n 2, 1) := by decide +kernel
theorem d_FL_closeGap_6 : decode qC_FL_closeGap.1 6 = .ok (.iload_n 1, 1) := by decide +kernel
theorem d_FL_closeGap_7 : decode qC_FL_closeGap.1 7 = .ok (.invokevirtual 174, 3) := by decide +kernel
theorem d_FL_closeGap_10 : decode qC_FL_closeGap.1 10 = .ok (.ifCond .ne 6, 3) := by decide +kernel
theorem d_FL_closeGap_13 : decode qC_FL_closeGap.1 13 = .ok (.ldc 159, 2) := by decide +kernel
theorem d_FL_closeGap_15 : decode qC_FL_closeGap.1 15 = .ok (.ireturn, 1) := by decide +kernel
theorem d_FL_closeGap_16 : decode qC_FL_closeGap.1 16 = .ok (.iload_n 1, 1) := by decide +kernel
theorem d_FL_closeGap_17 : decode qC_FL_closeGap.1 17 = .ok (.aload_n 2, 1) := by decide +kernel
theorem d_FL_closeGap_18 : decode qC_FL_closeGap.1 18 = .ok (.getfield 160, 3) := by decide +kernel
theorem d_FL_closeGap_21 : decode qC_FL_closeGap.1 21 = .ok (.if_icmp .le 16, 3) := by decide +kernel
theorem d_FL_closeGap_24 : decode qC_FL_closeGap.1 24 = .ok (.aload_n 2, 1) := by decide +kernel
theorem d_FL_closeGap_25 : decode qC_FL_closeGap.1 25 = .ok (.getfield 180, 3) := by decide +kernel
theorem d_FL_closeGap_28 : decode qC_FL_closeGap.1 28 = .ok (.iload_n 1, 1) := by decide +kernel
theorem d_FL_closeGap_29 : decode qC_FL_closeGap.1 29 = .ok (.bipush 13, 2) := by decide +kernel
theorem d_FL_closeGap_31 : decode qC_FL_closeGap.1 31 = .ok (.invokevirtual 163, 3) := by decide +kernel
theorem d_FL_closeGap_34 : decode qC_FL_closeGap.1 34 = .ok (.ifCond .ne 6, 3) := by decide +kernel
theorem d_FL_closeGap_37 : decode qC_FL_closeGap.1 37 = .ok (.ldc 140, 2) := by decide +kernel
theorem d_FL_closeGap_39 : decode qC_FL_closeGap.1 39 = .ok (.ireturn, 1) := by decide +kernel
theorem d_FL_closeGap_40 : decode qC_FL_closeGap.1 40 = .ok (.aload_n 0, 1) := by decide +kernel
theorem d_FL_closeGap_41 : decode qC_FL_closeGap.1 41 = .ok (.invokevirtual 141, 3) := by decide +kernel
theorem d_FL_closeGap_44 : decode qC_FL_closeGap.1 44 = .ok (.aload_n 0, 1) := by decide +kernel
theorem d_FL_closeGap_45 : decode qC_FL_closeGap.1 45 = .ok (.getfield 34, 3) := by decide +kernel
theorem d_FL_closeGap_48 : decode qC_FL_closeGap.1 48 = .ok (.getfield 180, 3) := by decide +kernel
theorem d_FL_closeGap_51 : decode qC_FL_closeGap.1 51 = .ok (.iload_n 1, 1) := by decide +kernel
theorem d_FL_closeGap_52 : decode qC_FL_closeGap.1 52 = .ok (.bipush 13, 2) := by decide +kernel
theorem d_FL_closeGap_54 : decode qC_FL_closeGap.1 54 = .ok (.iconst 0, 1) := by decide +kernel
theorem d_FL_closeGap_55 : decode qC_FL_closeGap.1 55 = .ok (.invokevirtual 100, 3) := by decide +kernel
theorem d_FL_closeGap_58 : decode qC_FL_closeGap.1 58 = .ok (.aload_n 0, 1) := by decide +kernel
theorem d_FL_closeGap_59 : decode qC_FL_closeGap.1 59 = .ok (.iconst 1, 1) := by decide +kernel
theorem d_FL_closeGap_60 : decode qC_FL_closeGap.1 60 = .ok (.invokevirtual 181, 3) := by decide +kernel
theorem d_FL_closeGap_63 : decode qC_FL_closeGap.1 63 = .ok (.invokevirtual 185, 3) := by decide +kernel
theorem d_FL_closeGap_66 : decode qC_FL_closeGap.1 66 = .ok (.ireturn, 1) := by decide +kernel
set_option maxRecDepth 100000 in
def f_FL_closeGap (σ : St) (p1 : Int32) : Option (Int32 × St) :=
  Option.bind (f_FL_planToEdit σ) fun x1 =>
  Option.bind (f_Pl_hasLeg σ x1 p1) fun x2 =>
  if (x2 : Int32) = 0 then (
  some ((-1000001 : Int32), σ)
  ) else (
  Jn (fun (_ : Unit) =>
  some ((-1000003 : Int32), σ)
  ) fun J3 =>
  if (p1 : Int32) ≤ (σ x1 2) then (
  J3 ()
  ) else (
  Option.bind (f_Tb_get σ (rc x1 0) p1 (13 : Int32)) fun x4 =>
  if (x4 : Int32) = 0 then (
  J3 ()
  ) else (
  Option.bind (f_FL_beginEdit σ) fun x5 =>
  Option.bind (f_Tb_put x5 12 p1 (13 : Int32) (0 : Int32)) fun x6 =>
  Option.bind (f_FL_freshPathOf x6 (1 : Int32)) fun x7 =>
  Option.bind (f_Pa_gaps x7.2 x7.1) fun x8 =>
  some (x8, x7.2)
  )
  )
  )
set_option maxHeartbeats 4000000 in
set_option maxRecDepth 100000 in
theorem cC_FL_closeGap (l : Launch) (g : Ge) (hi : injB wC.2 g) (σ : St) (p1 : Int32) (x : Int32 × St) (h : f_FL_closeGap σ p1 = some x) : Ct l wC g yC_FL_closeGap qC_FL_closeGap 7 173 [.ref (g.1 0), .int p1] σ (some (.int x.1), x.2) := by
  refine Ct.of (out := o_w) FC_FL_closeGap rfl hi rfl h (fun z hz C => ?_)
  clear h
  subst hz
  unfold f_FL_closeGap
  show Rt z qC_FL_closeGap wC g o_w 0 [(0, .ref (g.1 0)), (1, .int p1)] [] σ _
  refine q_aload_n (pc' := 1) C 0 d_FL_closeGap_0 rfl rfl ?_
  refine q_callVn (fr' := 0) (lo' := 0) (pc' := 4) C FC_FL_planToEdit lmC_FL_155 d_FL_closeGap_1 0 (jCo kC_0) kC_0 cC_10 [] [] rfl rfl (Nat.le_of_ble_eq_true rfl) ⟨rfl, rfl⟩ (fun x h => cC_FL_planToEdit _ g hi σ x h) rfl (fun x1 hx1 => ?_)
  refine q_astore_n (pc' := 5) (lv' := [(2, .ref (g.1 x1)), (0, .ref (g.1 0)), (1, .int p1)]) C d_FL_closeGap_4 (by decide) rfl rfl ?_
  refine q_aload_n (pc' := 6) C 0 d_FL_closeGap_5 rfl rfl ?_
  refine q_iload_n (pc' := 7) C 2 d_FL_closeGap_6 rfl rfl ?_
  refine q_callVr (fr' := 0) (lo' := 0) (pc' := 10) C FC_Pl_hasLeg lmC_FL_174 d_FL_closeGap_7 x1 (jCo (kd_FL_planToEdit hx1)) (kd_FL_planToEdit hx1) cC_3 [.int p1] [] rfl rfl (Nat.le_of_ble_eq_true rfl) ⟨rfl, rfl⟩ (fun x h => cC_Pl_hasLeg _ g hi σ x1 (kd_FL_planToEdit hx1) p1 x h) rfl (fun x2 hx2 => ?_)
  refine q_if_ne (tgt := 16) (pc' := 13) C d_FL_closeGap_10 rfl rfl ?_ ?_
  · refine q_iload_n (pc' := 17) C 2 d_FL_closeGap_16 rfl rfl ?_
    refine q_aload_n (pc' := 18) C 0 d_FL_closeGap_17 rfl rfl ?_
    refine gC_FL_160 (pc' := 21) C x1 (kd_FL_planToEdit hx1) d_FL_closeGap_18 rfl rfl ?_
    refine q_join (fun J3 : Unit → Option (Int32 × St) => ∀ (_ : Unit), Rt z qC_FL_closeGap wC g o_w 37 [] [] σ (J3 ())) (fun _ => ?_) (fun J3 hJ3 => ?_)
    · refine q_ldc (pc' := 39) C lcC_FL_140 d_FL_closeGap_37 rfl ?_
      exact q_iret C rfl d_FL_closeGap_39 rfl
    refine q_icmp_le (tgt := 37) (pc' := 24) C d_FL_closeGap_21 rfl rfl ?_ ?_
    · exact Rt.sub [] rfl (hJ3 ())
    · refine q_aload_n (pc' := 25) C 0 d_FL_closeGap_24 rfl rfl ?_
      refine gC_FL_180 (pc' := 28) C x1 (rc x1 0) (kd_FL_planToEdit hx1) (ly_3_0 (kd_FL_planToEdit hx1)).1 d_FL_closeGap_25 rfl rfl ?_
      refine q_iload_n (pc' := 29) C 2 d_FL_closeGap_28 rfl rfl ?_
      refine q_bipush (pc' := 31) C d_FL_closeGap_29 kb_13 rfl ?_
      refine q_callVr (fr' := 0) (lo' := 0) (pc' := 34) C FC_Tb_get lmC_FL_163 d_FL_closeGap_31 (rc x1 0) (jCo (ly_3_0 (kd_FL_planToEdit hx1)).2) (ly_3_0 (kd_FL_planToEdit hx1)).2 cC_8 [.int p1, .int (13 : Int32)] [] rfl rfl (Nat.le_of_ble_eq_true rfl) ⟨rfl, rfl⟩ (fun x h => cC_Tb_get _ g hi σ (rc x1 0) (ly_3_0 (kd_FL_planToEdit hx1)).2 p1 (13 : Int32) x h) rfl (fun x4 hx4 => ?_)
      refine q_if_ne (tgt := 40) (pc' := 37) C d_FL_closeGap_34 rfl rfl ?_ ?_
      · refine q_aload_n (pc' := 41) C 1 d_FL_closeGap_40 rfl rfl ?_
        refine q_callVv (fr' := 3) (lo' := 72) (pc' := 44) C FC_FL_beginEdit lmC_FL_141 d_FL_closeGap_41 0 (jCo kC_0) kC_0 cC_10 [] [] rfl rfl (Nat.le_of_ble_eq_true rfl) ⟨rfl, rfl⟩ (fun x h => cC_FL_beginEdit _ g hi σ x h) rfl (fun x5 hx5 => ?_)
        refine q_aload_n (pc' := 45) C 1 d_FL_closeGap_44 rfl rfl ?_
        refine gC_FL_34 (pc' := 48) C 0 11 kC_0 rfl d_FL_closeGap_45 rfl rfl ?_
        refine gC_FL_180 (pc' := 51) C 11 12 kC_11 rfl d_FL_closeGap_48 rfl rfl ?_
        refine q_iload_n (pc' := 52) C 2 d_FL_closeGap_51 rfl rfl ?_
        refine q_bipush (pc' := 54) C d_FL_closeGap_52 kb_13 rfl ?_
        refine q_iconst (pc' := 55) C d_FL_closeGap_54 ki_0 rfl ?_
        refine q_callVv (fr' := 0) (lo' := 0) (pc' := 58) C FC_Tb_put lmC_FL_100 d_FL_closeGap_55 12 (jCo kC_12) kC_12 cC_8 [.int p1, .int (13 : Int32), .int (0 : Int32)] [] rfl rfl (Nat.le_of_ble_eq_true rfl) ⟨rfl, rfl⟩ (fun x h => cC_Tb_put _ g hi x5 12 kC_12 p1 (13 : Int32) (0 : Int32) x h) rfl (fun x6 hx6 => ?_)
        refine q_aload_n (pc' := 59) C 1 d_FL_closeGap_58 rfl rfl ?_
        refine q_iconst (pc' := 60) C d_FL_closeGap_59 ki_1 rfl ?_
        refine q_callVnw (fr' := 6) (lo' := 151) (pc' := 63) C FC_FL_freshPathOf lmC_FL_181 d_FL_closeGap_60 0 (jCo kC_0) kC_0 cC_10 [.int (1 : Int32)] [] rfl rfl (Nat.le_of_ble_eq_true rfl) ⟨rfl, rfl⟩ (fun x h => cC_FL_freshPathOf _ g hi x6 (1 : Int32) x h) rfl (fun x7 hx7 => ?_)
        refine q_callVr (fr' := 2) (lo' := 43) (pc' := 66) C FC_Pa_gaps lmC_FL_185 d_FL_closeGap_63 x7.1 (jCo (kd_FL_freshPathOf hx7)) (kd_FL_freshPathOf hx7) cC_1 [] [] rfl rfl (Nat.le_of_ble_eq_true rfl) ⟨rfl, rfl⟩ (fun x h => cC_Pa_gaps _ g hi x7.2 x7.1 (kd_FL_freshPathOf hx7) x h) rfl (fun x8 hx8 => ?_)
        exact q_iret C rfl d_FL_closeGap_66 rfl
      · exact Rt.sub [] rfl (hJ3 ())
  · refine q_ldc (pc' := 15) C lcC_FL_159 d_FL_closeGap_13 rfl ?_
    exact q_iret C rfl d_FL_closeGap_15 rfl
theorem d_FL_setWindow_0 : decode qC_FL_setWindow.1 0 = .ok (.aload_n 0, 1) := by decide +kernel
theorem d_FL_setWindow_1 : decode qC_FL_setWindow.1 1 = .ok (.invokevirtual 155, 3) := by decide +kernel
theorem d_FL_setWindow_4 : decode qC_FL_setWindow.1 4 = .ok (.astore 4, 2) := by decide +kernel
theorem d_FL_setWindow_6 : decode qC_FL_setWindow.1 6 = .ok (.aload 4, 2) := by decide +kernel
theorem d_FL_setWindow_8 : decode qC_FL_setWindow.1 8 = .ok (.iload_n 1, 1) := by decide +kernel
theorem d_FL_setWindow_9 : decode qC_FL_setWindow.1 9 = .ok (.invokevirtual 174, 3) := by decide +kernel
theorem d_FL_setWindow_12 : decode qC_FL_setWindow.1 12 = .ok (.ifCond .ne 6, 3) := by decide +kernel
theorem d_FL_setWindow_15 : decode qC_FL_setWindow.1 15 = .ok (.ldc 159, 2) := by decide +kernel
theorem d_FL_setWindow_17 : decode qC_FL_setWindow.1 17 = .ok (.ireturn, 1) := by decide +kernel
theorem d_FL_setWindow_18 : decode qC_FL_setWindow.1 18 = .ok (.iload_n 2, 1) := by decide +kernel
theorem d_FL_setWindow_19 : decode qC_FL_setWindow.1 19 = .ok (.iconst 0, 1) := by decide +kernel
theorem d_FL_setWindow_20 : decode qC_FL_setWindow.1 20 = .ok (.sipush 450, 3) := by decide +kernel
theorem d_FL_setWindow_23 : decode qC_FL_setWindow.1 23 = .ok (.invokestatic 75, 3) := by decide +kernel
theorem d_FL_setWindow_26 : decode qC_FL_setWindow.1 26 = .ok (.ifCond .eq 14, 3) := by decide +kernel
theorem d_FL_setWindow_29 : decode qC_FL_setWindow.1 29 = .ok (.iload_n 3, 1) := by decide +kernel
theorem d_FL_setWindow_30 : decode qC_FL_setWindow.1 30 = .ok (.iload_n 2, 1) := by decide +kernel
theorem d_FL_setWindow_31 : decode qC_FL_setWindow.1 31 = .ok (.sipush 450, 3) := by decide +kernel
theorem d_FL_setWindow_34 : decode qC_FL_setWindow.1 34 = .ok (.invokestatic 75, 3) := by decide +kernel
theorem d_FL_setWindow_37 : decode qC_FL_setWindow.1 37 = .ok (.ifCond .ne 6, 3) := by decide +kernel
theorem d_FL_setWindow_40 : decode qC_FL_setWindow.1 40 = .ok (.ldc 79, 2) := by decide +kernel
theorem d_FL_setWindow_42 : decode qC_FL_setWindow.1 42 = .ok (.ireturn, 1) := by decide +kernel
theorem d_FL_setWindow_43 : decode qC_FL_setWindow.1 43 = .ok (.iload_n 1, 1) := by decide +kernel
theorem d_FL_setWindow_44 : decode qC_FL_setWindow.1 44 = .ok (.aload 4, 2) := by decide +kernel
theorem d_FL_setWindow_46 : decode qC_FL_setWindow.1 46 = .ok (.getfield 160, 3) := by decide +kernel
theorem d_FL_setWindow_49 : decode qC_FL_setWindow.1 49 = .ok (.if_icmp .ge 6, 3) := by decide +kernel
theorem d_FL_setWindow_52 : decode qC_FL_setWindow.1 52 = .ok (.ldc 140, 2) := by decide +kernel
theorem d_FL_setWindow_54 : decode qC_FL_setWindow.1 54 = .ok (.ireturn, 1) := by decide +kernel
theorem d_FL_setWindow_55 : decode qC_FL_setWindow.1 55 = .ok (.aload_n 0, 1) := by decide +kernel
theorem d_FL_setWindow_56 : decode qC_FL_setWindow.1 56 = .ok (.invokevirtual 141, 3) := by decide +kernel
theorem d_FL_setWindow_59 : decode qC_FL_setWindow.1 59 = .ok (.aload_n 0, 1) := by decide +kernel
theorem d_FL_setWindow_60 : decode qC_FL_setWindow.1 60 = .ok (.getfield 34, 3) := by decide +kernel
theorem d_FL_setWindow_63 : decode qC_FL_setWindow.1 63 = .ok (.getfield 180, 3) := by decide +kernel
theorem d_FL_setWindow_66 : decode qC_FL_setWindow.1 66 = .ok (.iload_n 1, 1) := by decide +kernel
theorem d_FL_setWindow_67 : decode qC_FL_setWindow.1 67 = .ok (.bipush 9, 2) := by decide +kernel
theorem d_FL_setWindow_69 : decode qC_FL_setWindow.1 69 = .ok (.iload_n 2, 1) := by decide +kernel
theorem d_FL_setWindow_70 : decode qC_FL_setWindow.1 70 = .ok (.invokevirtual 100, 3) := by decide +kernel
theorem d_FL_setWindow_73 : decode qC_FL_setWindow.1 73 = .ok (.aload_n 0, 1) := by decide +kernel
theorem d_FL_setWindow_74 : decode qC_FL_setWindow.1 74 = .ok (.getfield 34, 3) := by decide +kernel
theorem d_FL_setWindow_77 : decode qC_FL_setWindow.1 77 = .ok (.getfield 180, 3) := by decide +kernel
theorem d_FL_setWindow_80 : decode qC_FL_setWindow.1 80 = .ok (.iload_n 1, 1) := by decide +kernel
theorem d_FL_setWindow_81 : decode qC_FL_setWindow.1 81 = .ok (.bipush 10, 2) := by decide +kernel
theorem d_FL_setWindow_83 : decode qC_FL_setWindow.1 83 = .ok (.iload_n 3, 1) := by decide +kernel
theorem d_FL_setWindow_84 : decode qC_FL_setWindow.1 84 = .ok (.invokevirtual 100, 3) := by decide +kernel
theorem d_FL_setWindow_87 : decode qC_FL_setWindow.1 87 = .ok (.aload_n 0, 1) := by decide +kernel
theorem d_FL_setWindow_88 : decode qC_FL_setWindow.1 88 = .ok (.iconst 1, 1) := by decide +kernel
theorem d_FL_setWindow_89 : decode qC_FL_setWindow.1 89 = .ok (.invokevirtual 181, 3) := by decide +kernel
theorem d_FL_setWindow_92 : decode qC_FL_setWindow.1 92 = .ok (.invokevirtual 188, 3) := by decide +kernel
theorem d_FL_setWindow_95 : decode qC_FL_setWindow.1 95 = .ok (.ireturn, 1) := by decide +kernel
set_option maxRecDepth 100000 in
def f_FL_setWindow (σ : St) (p1 : Int32) (p2 : Int32) (p3 : Int32) : Option (Int32 × St) :=
  Option.bind (f_FL_planToEdit σ) fun x1 =>
  Option.bind (f_Pl_hasLeg σ x1 p1) fun x2 =>
  if (x2 : Int32) = 0 then (
  some ((-1000001 : Int32), σ)
  ) else (
  Option.bind (f_FL_within p2 (0 : Int32) (450 : Int32)) fun x3 =>
  Jn (fun (_ : Unit) =>
  some ((-1000002 : Int32), σ)
  ) fun J4 =>
  if (x3 : Int32) = 0 then (
  J4 ()
  ) else (
  Option.bind (f_FL_within p3 p2 (450 : Int32)) fun x5 =>
  if (x5 : Int32) = 0 then (
  J4 ()
  ) else (
  if ((σ x1 2) : Int32) ≤ p1 then (
  Option.bind (f_FL_beginEdit σ) fun x6 =>
  Option.bind (f_Tb_put x6 12 p1 (9 : Int32) p2) fun x7 =>
  Option.bind (f_Tb_put x7 12 p1 (10 : Int32) p3) fun x8 =>
  Option.bind (f_FL_freshPathOf x8 (1 : Int32)) fun x9 =>
  Option.bind (f_Pa_violations x9.2 x9.1) fun x10 =>
  some (x10, x9.2)
  ) else (
  some ((-1000003 : Int32), σ)
  )
  )
  )
  )
set_option maxHeartbeats 4000000 in
set_option maxRecDepth 100000 in
theorem cC_FL_setWindow (l : Launch) (g : Ge) (hi : injB wC.2 g) (σ : St) (p1 : Int32) (p2 : Int32) (p3 : Int32) (x : Int32 × St) (h : f_FL_setWindow σ p1 p2 p3 = some x) : Ct l wC g yC_FL_setWindow qC_FL_setWindow 7 173 [.ref (g.1 0), .int p1, .int p2, .int p3] σ (some (.int x.1), x.2) := by
  refine Ct.of (out := o_w) FC_FL_setWindow rfl hi rfl h (fun z hz C => ?_)
  clear h
  subst hz
  unfold f_FL_setWindow
  show Rt z qC_FL_setWindow wC g o_w 0 [(0, .ref (g.1 0)), (1, .int p1), (2, .int p2), (3, .int p3)] [] σ _
  refine q_aload_n (pc' := 1) C 0 d_FL_setWindow_0 rfl rfl ?_
  refine q_callVn (fr' := 0) (lo' := 0) (pc' := 4) C FC_FL_planToEdit lmC_FL_155 d_FL_setWindow_1 0 (jCo kC_0) kC_0 cC_10 [] [] rfl rfl (Nat.le_of_ble_eq_true rfl) ⟨rfl, rfl⟩ (fun x h => cC_FL_planToEdit _ g hi σ x h) rfl (fun x1 hx1 => ?_)
  refine q_astore (pc' := 6) (lv' := [(4, .ref (g.1 x1)), (0, .ref (g.1 0)), (1, .int p1), (2, .int p2), (3, .int p3)]) C d_FL_setWindow_4 (by decide) rfl rfl ?_
  refine q_aload (pc' := 8) C 0 d_FL_setWindow_6 rfl rfl ?_
  refine q_iload_n (pc' := 9) C 2 d_FL_setWindow_8 rfl rfl ?_
  refine q_callVr (fr' := 0) (lo' := 0) (pc' := 12) C FC_Pl_hasLeg lmC_FL_174 d_FL_setWindow_9 x1 (jCo (kd_FL_planToEdit hx1)) (kd_FL_planToEdit hx1) cC_3 [.int p1] [] rfl rfl (Nat.le_of_ble_eq_true rfl) ⟨rfl, rfl⟩ (fun x h => cC_Pl_hasLeg _ g hi σ x1 (kd_FL_planToEdit hx1) p1 x h) rfl (fun x2 hx2 => ?_)
  refine q_if_ne (tgt := 18) (pc' := 15) C d_FL_setWindow_12 rfl rfl ?_ ?_
  · refine q_iload_n (pc' := 19) C 3 d_FL_setWindow_18 rfl rfl ?_
    refine q_iconst (pc' := 20) C d_FL_setWindow_19 ki_0 rfl ?_
    refine q_sipush (pc' := 23) C d_FL_setWindow_20 ks_450 rfl ?_
    refine q_callSr (fr' := 0) (lo' := 0) (pc' := 26) C FC_FL_within lmC_FL_75 d_FL_setWindow_23 [.int p2, .int (0 : Int32), .int (450 : Int32)] [] rfl rfl (Nat.le_of_ble_eq_true rfl) ⟨rfl, rfl⟩ (fun x h => cC_FL_within _ g hi σ p2 (0 : Int32) (450 : Int32) x h) rfl (fun x3 hx3 => ?_)
    refine q_join (fun J4 : Unit → Option (Int32 × St) => ∀ (_ : Unit), Rt z qC_FL_setWindow wC g o_w 40 [] [] σ (J4 ())) (fun _ => ?_) (fun J4 hJ4 => ?_)
    · refine q_ldc (pc' := 42) C lcC_FL_79 d_FL_setWindow_40 rfl ?_
      exact q_iret C rfl d_FL_setWindow_42 rfl
    refine q_if_eq (tgt := 40) (pc' := 29) C d_FL_setWindow_26 rfl rfl ?_ ?_
    · exact Rt.sub [] rfl (hJ4 ())
    · refine q_iload_n (pc' := 30) C 4 d_FL_setWindow_29 rfl rfl ?_
      refine q_iload_n (pc' := 31) C 3 d_FL_setWindow_30 rfl rfl ?_
      refine q_sipush (pc' := 34) C d_FL_setWindow_31 ks_450 rfl ?_
      refine q_callSr (fr' := 0) (lo' := 0) (pc' := 37) C FC_FL_within lmC_FL_75 d_FL_setWindow_34 [.int p3, .int p2, .int (450 : Int32)] [] rfl rfl (Nat.le_of_ble_eq_true rfl) ⟨rfl, rfl⟩ (fun x h => cC_FL_within _ g hi σ p3 p2 (450 : Int32) x h) rfl (fun x5 hx5 => ?_)
      refine q_if_ne (tgt := 43) (pc' := 40) C d_FL_setWindow_37 rfl rfl ?_ ?_
      · refine q_iload_n (pc' := 44) C 2 d_FL_setWindow_43 rfl rfl ?_
        refine q_aload (pc' := 46) C 0 d_FL_setWindow_44 rfl rfl ?_
        refine gC_FL_160 (pc' := 49) C x1 (kd_FL_planToEdit hx1) d_FL_setWindow_46 rfl rfl ?_
        refine q_icmp_ge (tgt := 55) (pc' := 52) C d_FL_setWindow_49 rfl rfl ?_ ?_
        · refine q_aload_n (pc' := 56) C 1 d_FL_setWindow_55 rfl rfl ?_
          refine q_callVv (fr' := 3) (lo' := 72) (pc' := 59) C FC_FL_beginEdit lmC_FL_141 d_FL_setWindow_56 0 (jCo kC_0) kC_0 cC_10 [] [] rfl rfl (Nat.le_of_ble_eq_true rfl) ⟨rfl, rfl⟩ (fun x h => cC_FL_beginEdit _ g hi σ x h) rfl (fun x6 hx6 => ?_)
          refine q_aload_n (pc' := 60) C 1 d_FL_setWindow_59 rfl rfl ?_
          refine gC_FL_34 (pc' := 63) C 0 11 kC_0 rfl d_FL_setWindow_60 rfl rfl ?_
          refine gC_FL_180 (pc' := 66) C 11 12 kC_11 rfl d_FL_setWindow_63 rfl rfl ?_
          refine q_iload_n (pc' := 67) C 2 d_FL_setWindow_66 rfl rfl ?_
          refine q_bipush (pc' := 69) C d_FL_setWindow_67 kb_9 rfl ?_
          refine q_iload_n (pc' := 70) C 3 d_FL_setWindow_69 rfl rfl ?_
          refine q_callVv (fr' := 0) (lo' := 0) (pc' := 73) C FC_Tb_put lmC_FL_100 d_FL_setWindow_70 12 (jCo kC_12) kC_12 cC_8 [.int p1, .int (9 : Int32), .int p2] [] rfl rfl (Nat.le_of_ble_eq_true rfl) ⟨rfl, rfl⟩ (fun x h => cC_Tb_put _ g hi x6 12 kC_12 p1 (9 : Int32) p2 x h) rfl (fun x7 hx7 => ?_)
          refine q_aload_n (pc' := 74) C 1 d_FL_setWindow_73 rfl rfl ?_
          refine gC_FL_34 (pc' := 77) C 0 11 kC_0 rfl d_FL_setWindow_74 rfl rfl ?_
          refine gC_FL_180 (pc' := 80) C 11 12 kC_11 rfl d_FL_setWindow_77 rfl rfl ?_
          refine q_iload_n (pc' := 81) C 2 d_FL_setWindow_80 rfl rfl ?_
          refine q_bipush (pc' := 83) C d_FL_setWindow_81 kb_10 rfl ?_
          refine q_iload_n (pc' := 84) C 4 d_FL_setWindow_83 rfl rfl ?_
          refine q_callVv (fr' := 0) (lo' := 0) (pc' := 87) C FC_Tb_put lmC_FL_100 d_FL_setWindow_84 12 (jCo kC_12) kC_12 cC_8 [.int p1, .int (10 : Int32), .int p3] [] rfl rfl (Nat.le_of_ble_eq_true rfl) ⟨rfl, rfl⟩ (fun x h => cC_Tb_put _ g hi x7 12 kC_12 p1 (10 : Int32) p3 x h) rfl (fun x8 hx8 => ?_)
          refine q_aload_n (pc' := 88) C 1 d_FL_setWindow_87 rfl rfl ?_
          refine q_iconst (pc' := 89) C d_FL_setWindow_88 ki_1 rfl ?_
          refine q_callVnw (fr' := 6) (lo' := 151) (pc' := 92) C FC_FL_freshPathOf lmC_FL_181 d_FL_setWindow_89 0 (jCo kC_0) kC_0 cC_10 [.int (1 : Int32)] [] rfl rfl (Nat.le_of_ble_eq_true rfl) ⟨rfl, rfl⟩ (fun x h => cC_FL_freshPathOf _ g hi x8 (1 : Int32) x h) rfl (fun x9 hx9 => ?_)
          refine q_callVr (fr' := 1) (lo' := 22) (pc' := 95) C FC_Pa_violations lmC_FL_188 d_FL_setWindow_92 x9.1 (jCo (kd_FL_freshPathOf hx9)) (kd_FL_freshPathOf hx9) cC_1 [] [] rfl rfl (Nat.le_of_ble_eq_true rfl) ⟨rfl, rfl⟩ (fun x h => cC_Pa_violations _ g hi x9.2 x9.1 (kd_FL_freshPathOf hx9) x h) rfl (fun x10 hx10 => ?_)
          exact q_iret C rfl d_FL_setWindow_95 rfl
        · refine q_ldc (pc' := 54) C lcC_FL_140 d_FL_setWindow_52 rfl ?_
          exact q_iret C rfl d_FL_setWindow_54 rfl
      · exact Rt.sub [] rfl (hJ4 ())
  · refine q_ldc (pc' := 17) C lcC_FL_159 d_FL_setWindow_15 rfl ?_
    exact q_iret C rfl d_FL_setWindow_17 rfl
theorem d_FL_setSpeedLimit_0 : decode qC_FL_setSpeedLimit.1 0 = .ok (.aload_n 0, 1) := by decide +kernel
theorem d_FL_setSpeedLimit_1 : decode qC_FL_setSpeedLimit.1 1 = .ok (.invokevirtual 155, 3) := by decide +kernel
theorem d_FL_setSpeedLimit_4 : decode qC_FL_setSpeedLimit.1 4 = .ok (.astore_n 3, 1) := by decide +kernel
theorem d_FL_setSpeedLimit_5 : decode qC_FL_setSpeedLimit.1 5 = .ok (.aload_n 3, 1) := by decide +kernel
theorem d_FL_setSpeedLimit_6 : decode qC_FL_setSpeedLimit.1 6 = .ok (.iload_n 1, 1) := by decide +kernel
theorem d_FL_setSpeedLimit_7 : decode qC_FL_setSpeedLimit.1 7 = .ok (.invokevirtual 174, 3) := by decide +kernel
theorem d_FL_setSpeedLimit_10 : decode qC_FL_setSpeedLimit.1 10 = .ok (.ifCond .ne 6, 3) := by decide +kernel
theorem d_FL_setSpeedLimit_13 : decode qC_FL_setSpeedLimit.1 13 = .ok (.ldc 159, 2) := by decide +kernel
theorem d_FL_setSpeedLimit_15 : decode qC_FL_setSpeedLimit.1 15 = .ok (.ireturn, 1) := by decide +kernel
theorem d_FL_setSpeedLimit_16 : decode qC_FL_setSpeedLimit.1 16 = .ok (.iload_n 2, 1) := by decide +kernel
theorem d_FL_setSpeedLimit_17 : decode qC_FL_setSpeedLimit.1 17 = .ok (.bipush 100, 2) := by decide +kernel
theorem d_FL_setSpeedLimit_19 : decode qC_FL_setSpeedLimit.1 19 = .ok (.sipush 500, 3) := by decide +kernel
theorem d_FL_setSpeedLimit_22 : decode qC_FL_setSpeedLimit.1 22 = .ok (.invokestatic 75, 3) := by decide +kernel
theorem d_FL_setSpeedLimit_25 : decode qC_FL_setSpeedLimit.1 25 = .ok (.ifCond .ne 13, 3) := by decide +kernel
theorem d_FL_setSpeedLimit_28 : decode qC_FL_setSpeedLimit.1 28 = .ok (.iload_n 2, 1) := by decide +kernel
theorem d_FL_setSpeedLimit_29 : decode qC_FL_setSpeedLimit.1 29 = .ok (.sipush 999, 3) := by decide +kernel
theorem d_FL_setSpeedLimit_32 : decode qC_FL_setSpeedLimit.1 32 = .ok (.if_icmp .eq 6, 3) := by decide +kernel
theorem d_FL_setSpeedLimit_35 : decode qC_FL_setSpeedLimit.1 35 = .ok (.ldc 79, 2) := by decide +kernel
theorem d_FL_setSpeedLimit_37 : decode qC_FL_setSpeedLimit.1 37 = .ok (.ireturn, 1) := by decide +kernel
theorem d_FL_setSpeedLimit_38 : decode qC_FL_setSpeedLimit.1 38 = .ok (.iload_n 1, 1) := by decide +kernel
theorem d_FL_setSpeedLimit_39 : decode qC_FL_setSpeedLimit.1 39 = .ok (.aload_n 3, 1) := by decide +kernel
theorem d_FL_setSpeedLimit_40 : decode qC_FL_setSpeedLimit.1 40 = .ok (.getfield 160, 3) := by decide +kernel
theorem d_FL_setSpeedLimit_43 : decode qC_FL_setSpeedLimit.1 43 = .ok (.if_icmp .ge 6, 3) := by decide +kernel
theorem d_FL_setSpeedLimit_46 : decode qC_FL_setSpeedLimit.1 46 = .ok (.ldc 140, 2) := by decide +kernel
theorem d_FL_setSpeedLimit_48 : decode qC_FL_setSpeedLimit.1 48 = .ok (.ireturn, 1) := by decide +kernel
theorem d_FL_setSpeedLimit_49 : decode qC_FL_setSpeedLimit.1 49 = .ok (.aload_n 0, 1) := by decide +kernel
theorem d_FL_setSpeedLimit_50 : decode qC_FL_setSpeedLimit.1 50 = .ok (.invokevirtual 141, 3) := by decide +kernel
theorem d_FL_setSpeedLimit_53 : decode qC_FL_setSpeedLimit.1 53 = .ok (.aload_n 0, 1) := by decide +kernel
theorem d_FL_setSpeedLimit_54 : decode qC_FL_setSpeedLimit.1 54 = .ok (.getfield 34, 3) := by decide +kernel
theorem d_FL_setSpeedLimit_57 : decode qC_FL_setSpeedLimit.1 57 = .ok (.getfield 180, 3) := by decide +kernel
theorem d_FL_setSpeedLimit_60 : decode qC_FL_setSpeedLimit.1 60 = .ok (.iload_n 1, 1) := by decide +kernel
theorem d_FL_setSpeedLimit_61 : decode qC_FL_setSpeedLimit.1 61 = .ok (.bipush 11, 2) := by decide +kernel
theorem d_FL_setSpeedLimit_63 : decode qC_FL_setSpeedLimit.1 63 = .ok (.invokevirtual 163, 3) := by decide +kernel
theorem d_FL_setSpeedLimit_66 : decode qC_FL_setSpeedLimit.1 66 = .ok (.istore 4, 2) := by decide +kernel
theorem d_FL_setSpeedLimit_68 : decode qC_FL_setSpeedLimit.1 68 = .ok (.aload_n 0, 1) := by decide +kernel
theorem d_FL_setSpeedLimit_69 : decode qC_FL_setSpeedLimit.1 69 = .ok (.getfield 34, 3) := by decide +kernel
theorem d_FL_setSpeedLimit_72 : decode qC_FL_setSpeedLimit.1 72 = .ok (.getfield 180, 3) := by decide +kernel
theorem d_FL_setSpeedLimit_75 : decode qC_FL_setSpeedLimit.1 75 = .ok (.iload_n 1, 1) := by decide +kernel
theorem d_FL_setSpeedLimit_76 : decode qC_FL_setSpeedLimit.1 76 = .ok (.bipush 11, 2) := by decide +kernel
theorem d_FL_setSpeedLimit_78 : decode qC_FL_setSpeedLimit.1 78 = .ok (.iload_n 2, 1) := by decide +kernel
theorem d_FL_setSpeedLimit_79 : decode qC_FL_setSpeedLimit.1 79 = .ok (.invokevirtual 100, 3) := by decide +kernel
theorem d_FL_setSpeedLimit_82 : decode qC_FL_setSpeedLimit.1 82 = .ok (.iload 4, 2) := by decide +kernel
theorem d_FL_setSpeedLimit_84 : decode qC_FL_setSpeedLimit.1 84 = .ok (.ireturn, 1) := by decide +kernel
set_option maxRecDepth 100000 in
def f_FL_setSpeedLimit (σ : St) (p1 : Int32) (p2 : Int32) : Option (Int32 × St) :=
  Option.bind (f_FL_planToEdit σ) fun x1 =>
  Option.bind (f_Pl_hasLeg σ x1 p1) fun x2 =>
  if (x2 : Int32) = 0 then (
  some ((-1000001 : Int32), σ)
  ) else (
  Option.bind (f_FL_within p2 (100 : Int32) (500 : Int32)) fun x3 =>
  Jn (fun (_ : Unit) =>
  if ((σ x1 2) : Int32) ≤ p1 then (
  Option.bind (f_FL_beginEdit σ) fun x5 =>
  Option.bind (f_Tb_get x5 12 p1 (11 : Int32)) fun x6 =>
  Option.bind (f_Tb_put x5 12 p1 (11 : Int32) p2) fun x7 =>
  some (x6, x7)
  ) else (
  some ((-1000003 : Int32), σ)
  )
  ) fun J4 =>
  if (x3 : Int32) = 0 then (
  if (p2 : Int32) = (999 : Int32) then (
  J4 ()
  ) else (
  some ((-1000002 : Int32), σ)
  )
  ) else (
  J4 ()
  )
  )
set_option maxHeartbeats 4000000 in
set_option maxRecDepth 100000 in
theorem cC_FL_setSpeedLimit (l : Launch) (g : Ge) (hi : injB wC.2 g) (σ : St) (p1 : Int32) (p2 : Int32) (x : Int32 × St) (h : f_FL_setSpeedLimit σ p1 p2 = some x) : Ct l wC g yC_FL_setSpeedLimit qC_FL_setSpeedLimit 4 92 [.ref (g.1 0), .int p1, .int p2] σ (some (.int x.1), x.2) := by
  refine Ct.of (out := o_w) FC_FL_setSpeedLimit rfl hi rfl h (fun z hz C => ?_)
  clear h
  subst hz
  unfold f_FL_setSpeedLimit
  show Rt z qC_FL_setSpeedLimit wC g o_w 0 [(0, .ref (g.1 0)), (1, .int p1), (2, .int p2)] [] σ _
  refine q_aload_n (pc' := 1) C 0 d_FL_setSpeedLimit_0 rfl rfl ?_
  refine q_callVn (fr' := 0) (lo' := 0) (pc' := 4) C FC_FL_planToEdit lmC_FL_155 d_FL_setSpeedLimit_1 0 (jCo kC_0) kC_0 cC_10 [] [] rfl rfl (Nat.le_of_ble_eq_true rfl) ⟨rfl, rfl⟩ (fun x h => cC_FL_planToEdit _ g hi σ x h) rfl (fun x1 hx1 => ?_)
  refine q_astore_n (pc' := 5) (lv' := [(3, .ref (g.1 x1)), (0, .ref (g.1 0)), (1, .int p1), (2, .int p2)]) C d_FL_setSpeedLimit_4 (by decide) rfl rfl ?_
  refine q_aload_n (pc' := 6) C 0 d_FL_setSpeedLimit_5 rfl rfl ?_
  refine q_iload_n (pc' := 7) C 2 d_FL_setSpeedLimit_6 rfl rfl ?_
  refine q_callVr (fr' := 0) (lo' := 0) (pc' := 10) C FC_Pl_hasLeg lmC_FL_174 d_FL_setSpeedLimit_7 x1 (jCo (kd_FL_planToEdit hx1)) (kd_FL_planToEdit hx1) cC_3 [.int p1] [] rfl rfl (Nat.le_of_ble_eq_true rfl) ⟨rfl, rfl⟩ (fun x h => cC_Pl_hasLeg _ g hi σ x1 (kd_FL_planToEdit hx1) p1 x h) rfl (fun x2 hx2 => ?_)
  refine q_if_ne (tgt := 16) (pc' := 13) C d_FL_setSpeedLimit_10 rfl rfl ?_ ?_
  · refine q_iload_n (pc' := 17) C 3 d_FL_setSpeedLimit_16 rfl rfl ?_
    refine q_bipush (pc' := 19) C d_FL_setSpeedLimit_17 kb_100 rfl ?_
    refine q_sipush (pc' := 22) C d_FL_setSpeedLimit_19 ks_500 rfl ?_
    refine q_callSr (fr' := 0) (lo' := 0) (pc' := 25) C FC_FL_within lmC_FL_75 d_FL_setSpeedLimit_22 [.int p2, .int (100 : Int32), .int (500 : Int32)] [] rfl rfl (Nat.le_of_ble_eq_true rfl) ⟨rfl, rfl⟩ (fun x h => cC_FL_within _ g hi σ p2 (100 : Int32) (500 : Int32) x h) rfl (fun x3 hx3 => ?_)
    refine q_join (fun J4 : Unit → Option (Int32 × St) => ∀ (_ : Unit), Rt z qC_FL_setSpeedLimit wC g o_w 38 [(0, .ref (g.1 0)), (1, .int p1), (2, .int p2), (3, .ref (g.1 x1))] [] σ (J4 ())) (fun _ => ?_) (fun J4 hJ4 => ?_)
    · refine q_iload_n (pc' := 39) C 1 d_FL_setSpeedLimit_38 rfl rfl ?_
      refine q_aload_n (pc' := 40) C 3 d_FL_setSpeedLimit_39 rfl rfl ?_
      refine gC_FL_160 (pc' := 43) C x1 (kd_FL_planToEdit hx1) d_FL_setSpeedLimit_40 rfl rfl ?_
      refine q_icmp_ge (tgt := 49) (pc' := 46) C d_FL_setSpeedLimit_43 rfl rfl ?_ ?_
      · refine q_aload_n (pc' := 50) C 0 d_FL_setSpeedLimit_49 rfl rfl ?_
        refine q_callVv (fr' := 3) (lo' := 72) (pc' := 53) C FC_FL_beginEdit lmC_FL_141 d_FL_setSpeedLimit_50 0 (jCo kC_0) kC_0 cC_10 [] [] rfl rfl (Nat.le_of_ble_eq_true rfl) ⟨rfl, rfl⟩ (fun x h => cC_FL_beginEdit _ g hi σ x h) rfl (fun x5 hx5 => ?_)
        refine q_aload_n (pc' := 54) C 0 d_FL_setSpeedLimit_53 rfl rfl ?_
        refine gC_FL_34 (pc' := 57) C 0 11 kC_0 rfl d_FL_setSpeedLimit_54 rfl rfl ?_
        refine gC_FL_180 (pc' := 60) C 11 12 kC_11 rfl d_FL_setSpeedLimit_57 rfl rfl ?_
        refine q_iload_n (pc' := 61) C 1 d_FL_setSpeedLimit_60 rfl rfl ?_
        refine q_bipush (pc' := 63) C d_FL_setSpeedLimit_61 kb_11 rfl ?_
        refine q_callVr (fr' := 0) (lo' := 0) (pc' := 66) C FC_Tb_get lmC_FL_163 d_FL_setSpeedLimit_63 12 (jCo kC_12) kC_12 cC_8 [.int p1, .int (11 : Int32)] [] rfl rfl (Nat.le_of_ble_eq_true rfl) ⟨rfl, rfl⟩ (fun x h => cC_Tb_get _ g hi x5 12 kC_12 p1 (11 : Int32) x h) rfl (fun x6 hx6 => ?_)
        refine q_istore (pc' := 68) (lv' := [(4, .int x6), (0, .ref (g.1 0)), (1, .int p1), (2, .int p2), (3, .ref (g.1 x1))]) C d_FL_setSpeedLimit_66 (by decide) rfl rfl ?_
        refine q_aload_n (pc' := 69) C 1 d_FL_setSpeedLimit_68 rfl rfl ?_
        refine gC_FL_34 (pc' := 72) C 0 11 kC_0 rfl d_FL_setSpeedLimit_69 rfl rfl ?_
        refine gC_FL_180 (pc' := 75) C 11 12 kC_11 rfl d_FL_setSpeedLimit_72 rfl rfl ?_
        refine q_iload_n (pc' := 76) C 2 d_FL_setSpeedLimit_75 rfl rfl ?_
        refine q_bipush (pc' := 78) C d_FL_setSpeedLimit_76 kb_11 rfl ?_
        refine q_iload_n (pc' := 79) C 3 d_FL_setSpeedLimit_78 rfl rfl ?_
        refine q_callVv (fr' := 0) (lo' := 0) (pc' := 82) C FC_Tb_put lmC_FL_100 d_FL_setSpeedLimit_79 12 (jCo kC_12) kC_12 cC_8 [.int p1, .int (11 : Int32), .int p2] [] rfl rfl (Nat.le_of_ble_eq_true rfl) ⟨rfl, rfl⟩ (fun x h => cC_Tb_put _ g hi x5 12 kC_12 p1 (11 : Int32) p2 x h) rfl (fun x7 hx7 => ?_)
        refine q_iload (pc' := 84) C 0 d_FL_setSpeedLimit_82 rfl rfl ?_
        exact q_iret C rfl d_FL_setSpeedLimit_84 rfl
      · refine q_ldc (pc' := 48) C lcC_FL_140 d_FL_setSpeedLimit_46 rfl ?_
        exact q_iret C rfl d_FL_setSpeedLimit_48 rfl
    refine q_if_ne (tgt := 38) (pc' := 28) C d_FL_setSpeedLimit_25 rfl rfl ?_ ?_
    · exact Rt.sub [1, 2, 3, 0] rfl (hJ4 ())
    · refine q_iload_n (pc' := 29) C 3 d_FL_setSpeedLimit_28 rfl rfl ?_
      refine q_sipush (pc' := 32) C d_FL_setSpeedLimit_29 ks_999 rfl ?_
      refine q_icmp_eq (tgt := 38) (pc' := 35) C d_FL_setSpeedLimit_32 rfl rfl ?_ ?_
      · exact Rt.sub [1, 2, 3, 0] rfl (hJ4 ())
      · refine q_ldc (pc' := 37) C lcC_FL_79 d_FL_setSpeedLimit_35 rfl ?_
        exact q_iret C rfl d_FL_setSpeedLimit_37 rfl
  · refine q_ldc (pc' := 15) C lcC_FL_159 d_FL_setSpeedLimit_13 rfl ?_
    exact q_iret C rfl d_FL_setSpeedLimit_15 rfl
theorem d_FL_setFlyOver_0 : decode qC_FL_setFlyOver.1 0 = .ok (.aload_n 0, 1) := by decide +kernel
theorem d_FL_setFlyOver_1 : decode qC_FL_setFlyOver.1 1 = .ok (.invokevirtual 155, 3) := by decide +kernel
theorem d_FL_setFlyOver_4 : decode qC_FL_setFlyOver.1 4 = .ok (.astore_n 3, 1) := by decide +kernel
theorem d_FL_setFlyOver_5 : decode qC_FL_setFlyOver.1 5 = .ok (.aload_n 3, 1) := by decide +kernel
theorem d_FL_setFlyOver_6 : decode qC_FL_setFlyOver.1 6 = .ok (.iload_n 1, 1) := by decide +kernel
theorem d_FL_setFlyOver_7 : decode qC_FL_setFlyOver.1 7 = .ok (.invokevirtual 174, 3) := by decide +kernel
theorem d_FL_setFlyOver_10 : decode qC_FL_setFlyOver.1 10 = .ok (.ifCond .ne 6, 3) := by decide +kernel
theorem d_FL_setFlyOver_13 : decode qC_FL_setFlyOver.1 13 = .ok (.ldc 159, 2) := by decide +kernel
theorem d_FL_setFlyOver_15 : decode qC_FL_setFlyOver.1 15 = .ok (.ireturn, 1) := by decide +kernel
theorem d_FL_setFlyOver_16 : decode qC_FL_setFlyOver.1 16 = .ok (.iload_n 1, 1) := by decide +kernel
theorem d_FL_setFlyOver_17 : decode qC_FL_setFlyOver.1 17 = .ok (.aload_n 3, 1) := by decide +kernel
theorem d_FL_setFlyOver_18 : decode qC_FL_setFlyOver.1 18 = .ok (.getfield 160, 3) := by decide +kernel
theorem d_FL_setFlyOver_21 : decode qC_FL_setFlyOver.1 21 = .ok (.if_icmp .ge 6, 3) := by decide +kernel
theorem d_FL_setFlyOver_24 : decode qC_FL_setFlyOver.1 24 = .ok (.ldc 140, 2) := by decide +kernel
theorem d_FL_setFlyOver_26 : decode qC_FL_setFlyOver.1 26 = .ok (.ireturn, 1) := by decide +kernel
theorem d_FL_setFlyOver_27 : decode qC_FL_setFlyOver.1 27 = .ok (.aload_n 0, 1) := by decide +kernel
theorem d_FL_setFlyOver_28 : decode qC_FL_setFlyOver.1 28 = .ok (.invokevirtual 141, 3) := by decide +kernel
theorem d_FL_setFlyOver_31 : decode qC_FL_setFlyOver.1 31 = .ok (.aload_n 0, 1) := by decide +kernel
theorem d_FL_setFlyOver_32 : decode qC_FL_setFlyOver.1 32 = .ok (.getfield 34, 3) := by decide +kernel
theorem d_FL_setFlyOver_35 : decode qC_FL_setFlyOver.1 35 = .ok (.getfield 180, 3) := by decide +kernel
theorem d_FL_setFlyOver_38 : decode qC_FL_setFlyOver.1 38 = .ok (.iload_n 1, 1) := by decide +kernel
theorem d_FL_setFlyOver_39 : decode qC_FL_setFlyOver.1 39 = .ok (.bipush 12, 2) := by decide +kernel
theorem d_FL_setFlyOver_41 : decode qC_FL_setFlyOver.1 41 = .ok (.invokevirtual 163, 3) := by decide +kernel
theorem d_FL_setFlyOver_44 : decode qC_FL_setFlyOver.1 44 = .ok (.istore 4, 2) := by decide +kernel
theorem d_FL_setFlyOver_46 : decode qC_FL_setFlyOver.1 46 = .ok (.aload_n 0, 1) := by decide +kernel
theorem d_FL_setFlyOver_47 : decode qC_FL_setFlyOver.1 47 = .ok (.getfield 34, 3) := by decide +kernel
theorem d_FL_setFlyOver_50 : decode qC_FL_setFlyOver.1 50 = .ok (.getfield 180, 3) := by decide +kernel
theorem d_FL_setFlyOver_53 : decode qC_FL_setFlyOver.1 53 = .ok (.iload_n 1, 1) := by decide +kernel
theorem d_FL_setFlyOver_54 : decode qC_FL_setFlyOver.1 54 = .ok (.bipush 12, 2) := by decide +kernel
theorem d_FL_setFlyOver_56 : decode qC_FL_setFlyOver.1 56 = .ok (.iload_n 2, 1) := by decide +kernel
theorem d_FL_setFlyOver_57 : decode qC_FL_setFlyOver.1 57 = .ok (.ifCond .eq 7, 3) := by decide +kernel
theorem d_FL_setFlyOver_60 : decode qC_FL_setFlyOver.1 60 = .ok (.iconst 1, 1) := by decide +kernel
theorem d_FL_setFlyOver_61 : decode qC_FL_setFlyOver.1 61 = .ok (.goto 4, 3) := by decide +kernel
theorem d_FL_setFlyOver_64 : decode qC_FL_setFlyOver.1 64 = .ok (.iconst 0, 1) := by decide +kernel
theorem d_FL_setFlyOver_65 : decode qC_FL_setFlyOver.1 65 = .ok (.invokevirtual 100, 3) := by decide +kernel
theorem d_FL_setFlyOver_68 : decode qC_FL_setFlyOver.1 68 = .ok (.iload 4, 2) := by decide +kernel
theorem d_FL_setFlyOver_70 : decode qC_FL_setFlyOver.1 70 = .ok (.ireturn, 1) := by decide +kernel
set_option maxRecDepth 100000 in
def f_FL_setFlyOver (σ : St) (p1 : Int32) (p2 : Int32) : Option (Int32 × St) :=
  Option.bind (f_FL_planToEdit σ) fun x1 =>
  Option.bind (f_Pl_hasLeg σ x1 p1) fun x2 =>
  if (x2 : Int32) = 0 then (
  some ((-1000001 : Int32), σ)
  ) else (
  if ((σ x1 2) : Int32) ≤ p1 then (
  Option.bind (f_FL_beginEdit σ) fun x3 =>
  Option.bind (f_Tb_get x3 12 p1 (12 : Int32)) fun x4 =>
  Jn (fun (x5 : Int32) =>
  Option.bind (f_Tb_put x3 12 p1 (12 : Int32) x5) fun x7 =>
  some (x4, x7)
  ) fun J6 =>
  if (p2 : Int32) = 0 then (
  J6 (0 : Int32)
  ) else (
  J6 (1 : Int32)
  )
  ) else (
  some ((-1000003 : Int32), σ)
  )
  )
set_option maxHeartbeats 4000000 in
set_option maxRecDepth 100000 in
theorem cC_FL_setFlyOver (l : Launch) (g : Ge) (hi : injB wC.2 g) (σ : St) (p1 : Int32) (p2 : Int32) (x : Int32 × St) (h : f_FL_setFlyOver σ p1 p2 = some x) : Ct l wC g yC_FL_setFlyOver qC_FL_setFlyOver 4 92 [.ref (g.1 0), .int p1, .int p2] σ (some (.int x.1), x.2) := by
  refine Ct.of (out := o_w) FC_FL_setFlyOver rfl hi rfl h (fun z hz C => ?_)
  clear h
  subst hz
  unfold f_FL_setFlyOver
  show Rt z qC_FL_setFlyOver wC g o_w 0 [(0, .ref (g.1 0)), (1, .int p1), (2, .int p2)] [] σ _
  refine q_aload_n (pc' := 1) C 0 d_FL_setFlyOver_0 rfl rfl ?_
  refine q_callVn (fr' := 0) (lo' := 0) (pc' := 4) C FC_FL_planToEdit lmC_FL_155 d_FL_setFlyOver_1 0 (jCo kC_0) kC_0 cC_10 [] [] rfl rfl (Nat.le_of_ble_eq_true rfl) ⟨rfl, rfl⟩ (fun x h => cC_FL_planToEdit _ g hi σ x h) rfl (fun x1 hx1 => ?_)
  refine q_astore_n (pc' := 5) (lv' := [(3, .ref (g.1 x1)), (0, .ref (g.1 0)), (1, .int p1), (2, .int p2)]) C d_FL_setFlyOver_4 (by decide) rfl rfl ?_
  refine q_aload_n (pc' := 6) C 0 d_FL_setFlyOver_5 rfl rfl ?_
  refine q_iload_n (pc' := 7) C 2 d_FL_setFlyOver_6 rfl rfl ?_
  refine q_callVr (fr' := 0) (lo' := 0) (pc' := 10) C FC_Pl_hasLeg lmC_FL_174 d_FL_setFlyOver_7 x1 (jCo (kd_FL_planToEdit hx1)) (kd_FL_planToEdit hx1) cC_3 [.int p1] [] rfl rfl (Nat.le_of_ble_eq_true rfl) ⟨rfl, rfl⟩ (fun x h => cC_Pl_hasLeg _ g hi σ x1 (kd_FL_planToEdit hx1) p1 x h) rfl (fun x2 hx2 => ?_)
  refine q_if_ne (tgt := 16) (pc' := 13) C d_FL_setFlyOver_10 rfl rfl ?_ ?_
  · refine q_iload_n (pc' := 17) C 2 d_FL_setFlyOver_16 rfl rfl ?_
    refine q_aload_n (pc' := 18) C 0 d_FL_setFlyOver_17 rfl rfl ?_
    refine gC_FL_160 (pc' := 21) C x1 (kd_FL_planToEdit hx1) d_FL_setFlyOver_18 rfl rfl ?_
    refine q_icmp_ge (tgt := 27) (pc' := 24) C d_FL_setFlyOver_21 rfl rfl ?_ ?_
    · refine q_aload_n (pc' := 28) C 1 d_FL_setFlyOver_27 rfl rfl ?_
      refine q_callVv (fr' := 3) (lo' := 72) (pc' := 31) C FC_FL_beginEdit lmC_FL_141 d_FL_setFlyOver_28 0 (jCo kC_0) kC_0 cC_10 [] [] rfl rfl (Nat.le_of_ble_eq_true rfl) ⟨rfl, rfl⟩ (fun x h => cC_FL_beginEdit _ g hi σ x h) rfl (fun x3 hx3 => ?_)
      refine q_aload_n (pc' := 32) C 1 d_FL_setFlyOver_31 rfl rfl ?_
      refine gC_FL_34 (pc' := 35) C 0 11 kC_0 rfl d_FL_setFlyOver_32 rfl rfl ?_
      refine gC_FL_180 (pc' := 38) C 11 12 kC_11 rfl d_FL_setFlyOver_35 rfl rfl ?_
      refine q_iload_n (pc' := 39) C 2 d_FL_setFlyOver_38 rfl rfl ?_
      refine q_bipush (pc' := 41) C d_FL_setFlyOver_39 kb_12 rfl ?_
      refine q_callVr (fr' := 0) (lo' := 0) (pc' := 44) C FC_Tb_get lmC_FL_163 d_FL_setFlyOver_41 12 (jCo kC_12) kC_12 cC_8 [.int p1, .int (12 : Int32)] [] rfl rfl (Nat.le_of_ble_eq_true rfl) ⟨rfl, rfl⟩ (fun x h => cC_Tb_get _ g hi x3 12 kC_12 p1 (12 : Int32) x h) rfl (fun x4 hx4 => ?_)
      refine q_istore (pc' := 46) (lv' := [(4, .int x4), (3, .ref (g.1 x1)), (0, .ref (g.1 0)), (1, .int p1), (2, .int p2)]) C d_FL_setFlyOver_44 (by decide) rfl rfl ?_
      refine q_aload_n (pc' := 47) C 2 d_FL_setFlyOver_46 rfl rfl ?_
      refine gC_FL_34 (pc' := 50) C 0 11 kC_0 rfl d_FL_setFlyOver_47 rfl rfl ?_
      refine gC_FL_180 (pc' := 53) C 11 12 kC_11 rfl d_FL_setFlyOver_50 rfl rfl ?_
      refine q_iload_n (pc' := 54) C 3 d_FL_setFlyOver_53 rfl rfl ?_
      refine q_bipush (pc' := 56) C d_FL_setFlyOver_54 kb_12 rfl ?_
      refine q_iload_n (pc' := 57) C 4 d_FL_setFlyOver_56 rfl rfl ?_
      refine q_join (fun J6 : Int32 → Option (Int32 × St) => ∀ (x5 : Int32), Rt z qC_FL_setFlyOver wC g o_w 65 [(4, .int x4)] [.int x5, .int (12 : Int32), .int p1, .ref (g.1 12)] x3 (J6 x5)) (fun x5 => ?_) (fun J6 hJ6 => ?_)
      · refine q_callVv (fr' := 0) (lo' := 0) (pc' := 68) C FC_Tb_put lmC_FL_100 d_FL_setFlyOver_65 12 (jCo kC_12) kC_12 cC_8 [.int p1, .int (12 : Int32), .int x5] [] rfl rfl (Nat.le_of_ble_eq_true rfl) ⟨rfl, rfl⟩ (fun x h => cC_Tb_put _ g hi x3 12 kC_12 p1 (12 : Int32) x5 x h) rfl (fun x7 hx7 => ?_)
        refine q_iload (pc' := 70) C 0 d_FL_setFlyOver_68 rfl rfl ?_
        exact q_iret C rfl d_FL_setFlyOver_70 rfl
      refine q_if_eq (tgt := 64) (pc' := 60) C d_FL_setFlyOver_57 rfl rfl ?_ ?_
      · refine q_iconst (pc' := 65) C d_FL_setFlyOver_64 ki_0 rfl ?_
        exact Rt.sub [0] rfl (hJ6 (0 : Int32))
      · refine q_iconst (pc' := 61) C d_FL_setFlyOver_60 ki_1 rfl ?_
        refine q_goto (tgt := 65) C d_FL_setFlyOver_61 rfl ?_
        exact Rt.sub [0] rfl (hJ6 (1 : Int32))
    · refine q_ldc (pc' := 26) C lcC_FL_140 d_FL_setFlyOver_24 rfl ?_
      exact q_iret C rfl d_FL_setFlyOver_26 rfl
  · refine q_ldc (pc' := 15) C lcC_FL_159 d_FL_setFlyOver_13 rfl ?_
    exact q_iret C rfl d_FL_setFlyOver_15 rfl
theorem d_FL_hasPosition_0 : decode qC_FL_hasPosition.1 0 = .ok (.aload_n 0, 1) := by decide +kernel
theorem d_FL_hasPosition_1 : decode qC_FL_hasPosition.1 1 = .ok (.getfield 45, 3) := by decide +kernel
theorem d_FL_hasPosition_4 : decode qC_FL_hasPosition.1 4 = .ok (.invokevirtual 231, 3) := by decide +kernel
theorem d_FL_hasPosition_7 : decode qC_FL_hasPosition.1 7 = .ok (.aload_n 0, 1) := by decide +kernel
theorem d_FL_hasPosition_8 : decode qC_FL_hasPosition.1 8 = .ok (.getfield 67, 3) := by decide +kernel
theorem d_FL_hasPosition_11 : decode qC_FL_hasPosition.1 11 = .ok (.invokevirtual 313, 3) := by decide +kernel
theorem d_FL_hasPosition_14 : decode qC_FL_hasPosition.1 14 = .ok (.ireturn, 1) := by decide +kernel
set_option maxRecDepth 100000 in
def f_FL_hasPosition (σ : St) : Option (Int32 × St) :=
  Option.bind (f_Pa_refresh σ 17) fun x1 =>
  Option.bind (f_Pg_locate x1 52) fun x2 =>
  Gd ((x2.1 : Int32) &&& 1 = x2.1) <|
  some (x2.1, x2.2)
set_option maxHeartbeats 4000000 in
set_option maxRecDepth 100000 in
theorem cC_FL_hasPosition (l : Launch) (g : Ge) (hi : injB wC.2 g) (σ : St) (x : Int32 × St) (h : f_FL_hasPosition σ = some x) : Ct l wC g yC_FL_hasPosition qC_FL_hasPosition 6 151 [.ref (g.1 0)] σ (some (.int x.1), x.2) := by
  refine Ct.of (out := o_w) FC_FL_hasPosition rfl hi rfl h (fun z hz C => ?_)
  clear h
  subst hz
  unfold f_FL_hasPosition
  show Rt z qC_FL_hasPosition wC g o_w 0 [(0, .ref (g.1 0))] [] σ _
  refine q_aload_n (pc' := 1) C 0 d_FL_hasPosition_0 rfl rfl ?_
  refine gC_FL_45 (pc' := 4) C 0 17 kC_0 rfl d_FL_hasPosition_1 rfl rfl ?_
  refine q_callVv (fr' := 5) (lo' := 129) (pc' := 7) C FC_Pa_refresh lmC_FL_231 d_FL_hasPosition_4 17 (jCo kC_17) kC_17 cC_1 [] [] rfl rfl (Nat.le_of_ble_eq_true rfl) ⟨rfl, rfl⟩ (fun x h => cC_Pa_refresh _ g hi σ 17 kC_17 x h) rfl (fun x1 hx1 => ?_)
  refine q_aload_n (pc' := 8) C 0 d_FL_hasPosition_7 rfl rfl ?_
  refine gC_FL_67 (pc' := 11) C 0 52 kC_0 rfl d_FL_hasPosition_8 rfl rfl ?_
  refine q_callVw (fr' := 3) (lo' := 65) (pc' := 14) C FC_Pg_locate lmC_FL_313 d_FL_hasPosition_11 52 (jCo kC_52) kC_52 cC_5 [] [] rfl rfl (Nat.le_of_ble_eq_true rfl) ⟨rfl, rfl⟩ (fun x h => cC_Pg_locate _ g hi x1 52 kC_52 x h) rfl (fun x2 hx2 => ?_)
  refine q_guard (fun gx3 => ?_)
  exact q_zret C rfl gx3 d_FL_hasPosition_14 rfl
theorem d_FL_directTo_0 : decode qC_FL_directTo.1 0 = .ok (.aload_n 0, 1) := by decide +kernel
theorem d_FL_directTo_1 : decode qC_FL_directTo.1 1 = .ok (.invokevirtual 155, 3) := by decide +kernel
theorem d_FL_directTo_4 : decode qC_FL_directTo.1 4 = .ok (.astore_n 2, 1) := by decide +kernel
theorem d_FL_directTo_5 : decode qC_FL_directTo.1 5 = .ok (.aload_n 2, 1) := by decide +kernel
theorem d_FL_directTo_6 : decode qC_FL_directTo.1 6 = .ok (.iload_n 1, 1) := by decide +kernel
theorem d_FL_directTo_7 : decode qC_FL_directTo.1 7 = .ok (.invokevirtual 174, 3) := by decide +kernel
theorem d_FL_directTo_10 : decode qC_FL_directTo.1 10 = .ok (.ifCond .ne 6, 3) := by decide +kernel
theorem d_FL_directTo_13 : decode qC_FL_directTo.1 13 = .ok (.ldc 159, 2) := by decide +kernel
theorem d_FL_directTo_15 : decode qC_FL_directTo.1 15 = .ok (.ireturn, 1) := by decide +kernel
theorem d_FL_directTo_16 : decode qC_FL_directTo.1 16 = .ok (.iload_n 1, 1) := by decide +kernel
theorem d_FL_directTo_17 : decode qC_FL_directTo.1 17 = .ok (.aload_n 2, 1) := by decide +kernel
theorem d_FL_directTo_18 : decode qC_FL_directTo.1 18 = .ok (.getfield 160, 3) := by decide +kernel
theorem d_FL_directTo_21 : decode qC_FL_directTo.1 21 = .ok (.if_icmp .lt 24, 3) := by decide +kernel
theorem d_FL_directTo_24 : decode qC_FL_directTo.1 24 = .ok (.aload_n 2, 1) := by decide +kernel
theorem d_FL_directTo_25 : decode qC_FL_directTo.1 25 = .ok (.getfield 180, 3) := by decide +kernel
theorem d_FL_directTo_28 : decode qC_FL_directTo.1 28 = .ok (.iload_n 1, 1) := by decide +kernel
theorem d_FL_directTo_29 : decode qC_FL_directTo.1 29 = .ok (.iconst 1, 1) := by decide +kernel
theorem d_FL_directTo_30 : decode qC_FL_directTo.1 30 = .ok (.invokevirtual 163, 3) := by decide +kernel
theorem d_FL_directTo_33 : decode qC_FL_directTo.1 33 = .ok (.ldc 139, 2) := by decide +kernel
theorem d_FL_directTo_35 : decode qC_FL_directTo.1 35 = .ok (.if_icmp .eq 10, 3) := by decide +kernel
theorem d_FL_directTo_38 : decode qC_FL_directTo.1 38 = .ok (.aload_n 0, 1) := by decide +kernel
theorem d_FL_directTo_39 : decode qC_FL_directTo.1 39 = .ok (.invokevirtual 191, 3) := by decide +kernel
theorem d_FL_directTo_42 : decode qC_FL_directTo.1 42 = .ok (.ifCond .ne 6, 3) := by decide +kernel
theorem d_FL_directTo_45 : decode qC_FL_directTo.1 45 = .ok (.ldc 140, 2) := by decide +kernel
theorem d_FL_directTo_47 : decode qC_FL_directTo.1 47 = .ok (.ireturn, 1) := by decide +kernel
theorem d_FL_directTo_48 : decode qC_FL_directTo.1 48 = .ok (.aload_n 2, 1) := by decide +kernel
theorem d_FL_directTo_49 : decode qC_FL_directTo.1 49 = .ok (.getfield 154, 3) := by decide +kernel
theorem d_FL_directTo_52 : decode qC_FL_directTo.1 52 = .ok (.iload_n 1, 1) := by decide +kernel
theorem d_FL_directTo_53 : decode qC_FL_directTo.1 53 = .ok (.isub, 1) := by decide +kernel
theorem d_FL_directTo_54 : decode qC_FL_directTo.1 54 = .ok (.iconst 1, 1) := by decide +kernel
theorem d_FL_directTo_55 : decode qC_FL_directTo.1 55 = .ok (.iadd, 1) := by decide +kernel
theorem d_FL_directTo_56 : decode qC_FL_directTo.1 56 = .ok (.bipush 20, 2) := by decide +kernel
theorem d_FL_directTo_58 : decode qC_FL_directTo.1 58 = .ok (.if_icmp .le 6, 3) := by decide +kernel
theorem d_FL_directTo_61 : decode qC_FL_directTo.1 61 = .ok (.ldc 88, 2) := by decide +kernel
theorem d_FL_directTo_63 : decode qC_FL_directTo.1 63 = .ok (.ireturn, 1) := by decide +kernel
theorem d_FL_directTo_64 : decode qC_FL_directTo.1 64 = .ok (.aload_n 0, 1) := by decide +kernel
theorem d_FL_directTo_65 : decode qC_FL_directTo.1 65 = .ok (.invokevirtual 141, 3) := by decide +kernel
theorem d_FL_directTo_68 : decode qC_FL_directTo.1 68 = .ok (.aload_n 0, 1) := by decide +kernel
theorem d_FL_directTo_69 : decode qC_FL_directTo.1 69 = .ok (.getfield 34, 3) := by decide +kernel
theorem d_FL_directTo_72 : decode qC_FL_directTo.1 72 = .ok (.iload_n 1, 1) := by decide +kernel
theorem d_FL_directTo_73 : decode qC_FL_directTo.1 73 = .ok (.aload_n 0, 1) := by decide +kernel
theorem d_FL_directTo_74 : decode qC_FL_directTo.1 74 = .ok (.getfield 67, 3) := by decide +kernel
theorem d_FL_directTo_77 : decode qC_FL_directTo.1 77 = .ok (.getfield 195, 3) := by decide +kernel
theorem d_FL_directTo_80 : decode qC_FL_directTo.1 80 = .ok (.aload_n 0, 1) := by decide +kernel
theorem d_FL_directTo_81 : decode qC_FL_directTo.1 81 = .ok (.getfield 67, 3) := by decide +kernel
theorem d_FL_directTo_84 : decode qC_FL_directTo.1 84 = .ok (.getfield 198, 3) := by decide +kernel
theorem d_FL_directTo_87 : decode qC_FL_directTo.1 87 = .ok (.aload_n 0, 1) := by decide +kernel
theorem d_FL_directTo_88 : decode qC_FL_directTo.1 88 = .ok (.getfield 67, 3) := by decide +kernel
theorem d_FL_directTo_91 : decode qC_FL_directTo.1 91 = .ok (.getfield 201, 3) := by decide +kernel
theorem d_FL_directTo_94 : decode qC_FL_directTo.1 94 = .ok (.invokevirtual 204, 3) := by decide +kernel
theorem d_FL_directTo_97 : decode qC_FL_directTo.1 97 = .ok (.aload_n 0, 1) := by decide +kernel
theorem d_FL_directTo_98 : decode qC_FL_directTo.1 98 = .ok (.getfield 34, 3) := by decide +kernel
theorem d_FL_directTo_101 : decode qC_FL_directTo.1 101 = .ok (.getfield 154, 3) := by decide +kernel
theorem d_FL_directTo_104 : decode qC_FL_directTo.1 104 = .ok (.ireturn, 1) := by decide +kernel
set_option maxRecDepth 100000 in
def f_FL_directTo (σ : St) (p1 : Int32) : Option (Int32 × St) :=
  Option.bind (f_FL_planToEdit σ) fun x1 =>
  Option.bind (f_Pl_hasLeg σ x1 p1) fun x2 =>
  if (x2 : Int32) = 0 then (
  some ((-1000001 : Int32), σ)
  ) else (
  Jn (fun (σ3 : St) =>
  some ((-1000003 : Int32), σ3)
  ) fun J4 =>
  if (p1 : Int32) < (σ x1 2) then (
  J4 σ
  ) else (
  Option.bind (f_Tb_get σ (rc x1 0) p1 (1 : Int32)) fun x5 =>
  if (x5 : Int32) = (-1000000 : Int32) then (
  J4 σ
  ) else (
  Option.bind (f_FL_hasPosition σ) fun x6 =>
  if (x6.1 : Int32) = 0 then (
  J4 x6.2
  ) else (
  if ((((x6.2 x1 1) - p1) + (1 : Int32)) : Int32) ≤ (20 : Int32) then (
  Option.bind (f_FL_beginEdit x6.2) fun x7 =>
  Option.bind (f_Pl_goDirect x7 11 p1 (x7 52 3) (x7 52 4) (x7 52 5)) fun x8 =>
  some ((x8 11 1), x8)
  ) else (
  some ((-1000004 : Int32), x6.2)
  )
  )
  )
  )
  )
set_option maxHeartbeats 4000000 in
set_option maxRecDepth 100000 in
theorem cC_FL_directTo (l : Launch) (g : Ge) (hi : injB wC.2 g) (σ : St) (p1 : Int32) (x : Int32 × St) (h : f_FL_directTo σ p1 = some x) : Ct l wC g yC_FL_directTo qC_FL_directTo 7 171 [.ref (g.1 0), .int p1] σ (some (.int x.1), x.2) := by
  refine Ct.of (out := o_w) FC_FL_directTo rfl hi rfl h (fun z hz C => ?_)
  clear h
  subst hz
  unfold f_FL_directTo
  show Rt z qC_FL_directTo wC g o_w 0 [(0, .ref (g.1 0)), (1, .int p1)] [] σ _
  refine q_aload_n (pc' := 1) C 0 d_FL_directTo_0 rfl rfl ?_
  refine q_callVn (fr' := 0) (lo' := 0) (pc' := 4) C FC_FL_planToEdit lmC_FL_155 d_FL_directTo_1 0 (jCo kC_0) kC_0 cC_10 [] [] rfl rfl (Nat.le_of_ble_eq_true rfl) ⟨rfl, rfl⟩ (fun x h => cC_FL_planToEdit _ g hi σ x h) rfl (fun x1 hx1 => ?_)
  refine q_astore_n (pc' := 5) (lv' := [(2, .ref (g.1 x1)), (0, .ref (g.1 0)), (1, .int p1)]) C d_FL_directTo_4 (by decide) rfl rfl ?_
  refine q_aload_n (pc' := 6) C 0 d_FL_directTo_5 rfl rfl ?_
  refine q_iload_n (pc' := 7) C 2 d_FL_directTo_6 rfl rfl ?_
  refine q_callVr (fr' := 0) (lo' := 0) (pc' := 10) C FC_Pl_hasLeg lmC_FL_174 d_FL_directTo_7 x1 (jCo (kd_FL_planToEdit hx1)) (kd_FL_planToEdit hx1) cC_3 [.int p1] [] rfl rfl (Nat.le_of_ble_eq_true rfl) ⟨rfl, rfl⟩ (fun x h => cC_Pl_hasLeg _ g hi σ x1 (kd_FL_planToEdit hx1) p1 x h) rfl (fun x2 hx2 => ?_)
  refine q_if_ne (tgt := 16) (pc' := 13) C d_FL_directTo_10 rfl rfl ?_ ?_
  · refine q_iload_n (pc' := 17) C 2 d_FL_directTo_16 rfl rfl ?_
    refine q_aload_n (pc' := 18) C 0 d_FL_directTo_17 rfl rfl ?_
    refine gC_FL_160 (pc' := 21) C x1 (kd_FL_planToEdit hx1) d_FL_directTo_18 rfl rfl ?_
    refine q_join (fun J4 : St → Option (Int32 × St) => ∀ (σ3 : St), Rt z qC_FL_directTo wC g o_w 45 [] [] σ3 (J4 σ3)) (fun σ3 => ?_) (fun J4 hJ4 => ?_)
    · refine q_ldc (pc' := 47) C lcC_FL_140 d_FL_directTo_45 rfl ?_
      exact q_iret C rfl d_FL_directTo_47 rfl
    refine q_icmp_lt (tgt := 45) (pc' := 24) C d_FL_directTo_21 rfl rfl ?_ ?_
    · exact Rt.sub [] rfl (hJ4 σ)
    · refine q_aload_n (pc' := 25) C 0 d_FL_directTo_24 rfl rfl ?_
      refine gC_FL_180 (pc' := 28) C x1 (rc x1 0) (kd_FL_planToEdit hx1) (ly_3_0 (kd_FL_planToEdit hx1)).1 d_FL_directTo_25 rfl rfl ?_
      refine q_iload_n (pc' := 29) C 2 d_FL_directTo_28 rfl rfl ?_
      refine q_iconst (pc' := 30) C d_FL_directTo_29 ki_1 rfl ?_
      refine q_callVr (fr' := 0) (lo' := 0) (pc' := 33) C FC_Tb_get lmC_FL_163 d_FL_directTo_30 (rc x1 0) (jCo (ly_3_0 (kd_FL_planToEdit hx1)).2) (ly_3_0 (kd_FL_planToEdit hx1)).2 cC_8 [.int p1, .int (1 : Int32)] [] rfl rfl (Nat.le_of_ble_eq_true rfl) ⟨rfl, rfl⟩ (fun x h => cC_Tb_get _ g hi σ (rc x1 0) (ly_3_0 (kd_FL_planToEdit hx1)).2 p1 (1 : Int32) x h) rfl (fun x5 hx5 => ?_)
      refine q_ldc (pc' := 35) C lcC_FL_139 d_FL_directTo_33 rfl ?_
      refine q_icmp_eq (tgt := 45) (pc' := 38) C d_FL_directTo_35 rfl rfl ?_ ?_
      · exact Rt.sub [] rfl (hJ4 σ)
      · refine q_aload_n (pc' := 39) C 1 d_FL_directTo_38 rfl rfl ?_
        refine q_callVw (fr' := 6) (lo' := 151) (pc' := 42) C FC_FL_hasPosition lmC_FL_191 d_FL_directTo_39 0 (jCo kC_0) kC_0 cC_10 [] [] rfl rfl (Nat.le_of_ble_eq_true rfl) ⟨rfl, rfl⟩ (fun x h => cC_FL_hasPosition _ g hi σ x h) rfl (fun x6 hx6 => ?_)
        refine q_if_ne (tgt := 48) (pc' := 45) C d_FL_directTo_42 rfl rfl ?_ ?_
        · refine q_aload_n (pc' := 49) C 0 d_FL_directTo_48 rfl rfl ?_
          refine gC_FL_154 (pc' := 52) C x1 (kd_FL_planToEdit hx1) d_FL_directTo_49 rfl rfl ?_
          refine q_iload_n (pc' := 53) C 2 d_FL_directTo_52 rfl rfl ?_
          refine q_isub (pc' := 54) C d_FL_directTo_53 rfl ?_
          refine q_iconst (pc' := 55) C d_FL_directTo_54 ki_1 rfl ?_
          refine q_iadd (pc' := 56) C d_FL_directTo_55 rfl ?_
          refine q_bipush (pc' := 58) C d_FL_directTo_56 kb_20 rfl ?_
          refine q_icmp_le (tgt := 64) (pc' := 61) C d_FL_directTo_58 rfl rfl ?_ ?_
          · refine q_aload_n (pc' := 65) C 1 d_FL_directTo_64 rfl rfl ?_
            refine q_callVv (fr' := 3) (lo' := 72) (pc' := 68) C FC_FL_beginEdit lmC_FL_141 d_FL_directTo_65 0 (jCo kC_0) kC_0 cC_10 [] [] rfl rfl (Nat.le_of_ble_eq_true rfl) ⟨rfl, rfl⟩ (fun x h => cC_FL_beginEdit _ g hi x6.2 x h) rfl (fun x7 hx7 => ?_)
            refine q_aload_n (pc' := 69) C 1 d_FL_directTo_68 rfl rfl ?_
            refine gC_FL_34 (pc' := 72) C 0 11 kC_0 rfl d_FL_directTo_69 rfl rfl ?_
            refine q_iload_n (pc' := 73) C 2 d_FL_directTo_72 rfl rfl ?_
            refine q_aload_n (pc' := 74) C 1 d_FL_directTo_73 rfl rfl ?_
            refine gC_FL_67 (pc' := 77) C 0 52 kC_0 rfl d_FL_directTo_74 rfl rfl ?_
            refine gC_FL_195 (pc' := 80) C 52 kC_52 d_FL_directTo_77 rfl rfl ?_
            refine q_aload_n (pc' := 81) C 1 d_FL_directTo_80 rfl rfl ?_
            refine gC_FL_67 (pc' := 84) C 0 52 kC_0 rfl d_FL_directTo_81 rfl rfl ?_
            refine gC_FL_198 (pc' := 87) C 52 kC_52 d_FL_directTo_84 rfl rfl ?_
            refine q_aload_n (pc' := 88) C 1 d_FL_directTo_87 rfl rfl ?_
            refine gC_FL_67 (pc' := 91) C 0 52 kC_0 rfl d_FL_directTo_88 rfl rfl ?_
            refine gC_FL_201 (pc' := 94) C 52 kC_52 d_FL_directTo_91 rfl rfl ?_
            refine q_callVv (fr' := 2) (lo' := 50) (pc' := 97) C FC_Pl_goDirect lmC_FL_204 d_FL_directTo_94 11 (jCo kC_11) kC_11 cC_3 [.int p1, .int (x7 52 3), .int (x7 52 4), .int (x7 52 5)] [] rfl rfl (Nat.le_of_ble_eq_true rfl) ⟨rfl, rfl⟩ (fun x h => cC_Pl_goDirect _ g hi x7 11 kC_11 p1 (x7 52 3) (x7 52 4) (x7 52 5) x h) rfl (fun x8 hx8 => ?_)
            refine q_aload_n (pc' := 98) C 1 d_FL_directTo_97 rfl rfl ?_
            refine gC_FL_34 (pc' := 101) C 0 11 kC_0 rfl d_FL_directTo_98 rfl rfl ?_
            refine gC_FL_154 (pc' := 104) C 11 kC_11 d_FL_directTo_101 rfl rfl ?_
            exact q_iret C rfl d_FL_directTo_104 rfl
          · refine q_ldc (pc' := 63) C lcC_FL_88 d_FL_directTo_61 rfl ?_
            exact q_iret C rfl d_FL_directTo_63 rfl
        · exact Rt.sub [] rfl (hJ4 x6.2)
  · refine q_ldc (pc' := 15) C lcC_FL_159 d_FL_directTo_13 rfl ?_
    exact q_iret C rfl d_FL_directTo_15 rfl
theorem d_FL_undo_0 : decode qC_FL_undo.1 0 = .ok (.aload_n 0, 1) := by decide +kernel
theorem d_FL_undo_1 : decode qC_FL_undo.1 1 = .ok (.getfield 58, 3) := by decide +kernel
theorem d_FL_undo_4 : decode qC_FL_undo.1 4 = .ok (.getfield 208, 3) := by decide +kernel
theorem d_FL_undo_7 : decode qC_FL_undo.1 7 = .ok (.ifCond .ne 6, 3) := by decide +kernel
theorem d_FL_undo_10 : decode qC_FL_undo.1 10 = .ok (.ldc 140, 2) := by decide +kernel
theorem d_FL_undo_12 : decode qC_FL_undo.1 12 = .ok (.ireturn, 1) := by decide +kernel
theorem d_FL_undo_13 : decode qC_FL_undo.1 13 = .ok (.aload_n 0, 1) := by decide +kernel
theorem d_FL_undo_14 : decode qC_FL_undo.1 14 = .ok (.aload_n 0, 1) := by decide +kernel
theorem d_FL_undo_15 : decode qC_FL_undo.1 15 = .ok (.getfield 58, 3) := by decide +kernel
theorem d_FL_undo_18 : decode qC_FL_undo.1 18 = .ok (.aload_n 0, 1) := by decide +kernel
theorem d_FL_undo_19 : decode qC_FL_undo.1 19 = .ok (.getfield 34, 3) := by decide +kernel
theorem d_FL_undo_22 : decode qC_FL_undo.1 22 = .ok (.invokevirtual 211, 3) := by decide +kernel
theorem d_FL_undo_25 : decode qC_FL_undo.1 25 = .ok (.putfield 71, 3) := by decide +kernel
theorem d_FL_undo_28 : decode qC_FL_undo.1 28 = .ok (.aload_n 0, 1) := by decide +kernel
theorem d_FL_undo_29 : decode qC_FL_undo.1 29 = .ok (.getfield 49, 3) := by decide +kernel
theorem d_FL_undo_32 : decode qC_FL_undo.1 32 = .ok (.iconst 1, 1) := by decide +kernel
theorem d_FL_undo_33 : decode qC_FL_undo.1 33 = .ok (.putfield 215, 3) := by decide +kernel
theorem d_FL_undo_36 : decode qC_FL_undo.1 36 = .ok (.aload_n 0, 1) := by decide +kernel
theorem d_FL_undo_37 : decode qC_FL_undo.1 37 = .ok (.getfield 58, 3) := by decide +kernel
theorem d_FL_undo_40 : decode qC_FL_undo.1 40 = .ok (.getfield 208, 3) := by decide +kernel
theorem d_FL_undo_43 : decode qC_FL_undo.1 43 = .ok (.ireturn, 1) := by decide +kernel
set_option maxRecDepth 100000 in
def f_FL_undo (σ : St) : Option (Int32 × St) :=
  if ((σ 47 3) : Int32) = 0 then (
  some ((-1000003 : Int32), σ)
  ) else (
  Option.bind (f_Hi_restore σ 47 11) fun x1 =>
  Gd ((x1.1 : Int32) &&& 1 = x1.1) <|
  Lt (s2 x1.2 0 10 x1.1) fun σ3 =>
  Lt (s2 σ3 27 5 (1 : Int32)) fun σ4 =>
  some ((σ4 47 3), σ4)
  )
set_option maxHeartbeats 4000000 in
set_option maxRecDepth 100000 in
theorem cC_FL_undo (l : Launch) (g : Ge) (hi : injB wC.2 g) (σ : St) (x : Int32 × St) (h : f_FL_undo σ = some x) : Ct l wC g yC_FL_undo qC_FL_undo 3 71 [.ref (g.1 0)] σ (some (.int x.1), x.2) := by
  refine Ct.of (out := o_w) FC_FL_undo rfl hi rfl h (fun z hz C => ?_)
  clear h
  subst hz
  unfold f_FL_undo
  show Rt z qC_FL_undo wC g o_w 0 [(0, .ref (g.1 0))] [] σ _
  refine q_aload_n (pc' := 1) C 0 d_FL_undo_0 rfl rfl ?_
  refine gC_FL_58 (pc' := 4) C 0 47 kC_0 rfl d_FL_undo_1 rfl rfl ?_
  refine gC_FL_208 (pc' := 7) C 47 kC_47 d_FL_undo_4 rfl rfl ?_
  refine q_if_ne (tgt := 13) (pc' := 10) C d_FL_undo_7 rfl rfl ?_ ?_
  · refine q_aload_n (pc' := 14) C 0 d_FL_undo_13 rfl rfl ?_
    refine q_aload_n (pc' := 15) C 0 d_FL_undo_14 rfl rfl ?_
    refine gC_FL_58 (pc' := 18) C 0 47 kC_0 rfl d_FL_undo_15 rfl rfl ?_
    refine q_aload_n (pc' := 19) C 0 d_FL_undo_18 rfl rfl ?_
    refine gC_FL_34 (pc' := 22) C 0 11 kC_0 rfl d_FL_undo_19 rfl rfl ?_
    refine q_callVw (fr' := 2) (lo' := 50) (pc' := 25) C FC_Hi_restore lmC_FL_211 d_FL_undo_22 47 (jCo kC_47) kC_47 cC_0 [.ref (g.1 11)] [.ref (g.1 0)] rfl rfl (Nat.le_of_ble_eq_true rfl) ⟨rfl, rfl⟩ (fun x h => cC_Hi_restore _ g hi σ 47 kC_47 11 kC_11 x h) rfl (fun x1 hx1 => ?_)
    refine q_guard (fun gx2 => ?_)
    refine pC_FL_71 (pc' := 28) C 0 kC_0 d_FL_undo_25 gx2 rfl rfl ?_
    refine q_let (fun σ3 e3 => ?_)
    refine q_state e3 ?_
    refine q_aload_n (pc' := 29) C 0 d_FL_undo_28 rfl rfl ?_
    refine gC_FL_49 (pc' := 32) C 0 27 kC_0 rfl d_FL_undo_29 rfl rfl ?_
    refine q_iconst (pc' := 33) C d_FL_undo_32 ki_1 rfl ?_
    refine pC_FL_215 (pc' := 36) C 27 kC_27 d_FL_undo_33 (by decide) rfl rfl ?_
    refine q_let (fun σ4 e4 => ?_)
    refine q_state e4 ?_
    refine q_aload_n (pc' := 37) C 0 d_FL_undo_36 rfl rfl ?_
    refine gC_FL_58 (pc' := 40) C 0 47 kC_0 rfl d_FL_undo_37 rfl rfl ?_
    refine gC_FL_208 (pc' := 43) C 47 kC_47 d_FL_undo_40 rfl rfl ?_
    exact q_iret C rfl d_FL_undo_43 rfl
  · refine q_ldc (pc' := 12) C lcC_FL_140 d_FL_undo_10 rfl ?_
    exact q_iret C rfl d_FL_undo_12 rfl
