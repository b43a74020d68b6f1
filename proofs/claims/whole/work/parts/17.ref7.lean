/-! the reference, methods 7 -/
theorem d_M_closeGap_0 : decode qM_closeGap.1 0 = .ok (.aload_n 0, 1) := by decide +kernel
theorem d_M_closeGap_1 : decode qM_closeGap.1 1 = .ok (.invokevirtual 490, 3) := by decide +kernel
theorem d_M_closeGap_4 : decode qM_closeGap.1 4 = .ok (.istore_n 2, 1) := by decide +kernel
theorem d_M_closeGap_5 : decode qM_closeGap.1 5 = .ok (.aload_n 0, 1) := by decide +kernel
theorem d_M_closeGap_6 : decode qM_closeGap.1 6 = .ok (.iload_n 2, 1) := by decide +kernel
theorem d_M_closeGap_7 : decode qM_closeGap.1 7 = .ok (.iload_n 1, 1) := by decide +kernel
theorem d_M_closeGap_8 : decode qM_closeGap.1 8 = .ok (.invokevirtual 503, 3) := by decide +kernel
theorem d_M_closeGap_11 : decode qM_closeGap.1 11 = .ok (.ifCond .ne 7, 3) := by decide +kernel
theorem d_M_closeGap_14 : decode qM_closeGap.1 14 = .ok (.ldc_w 493, 3) := by decide +kernel
theorem d_M_closeGap_17 : decode qM_closeGap.1 17 = .ok (.ireturn, 1) := by decide +kernel
theorem d_M_closeGap_18 : decode qM_closeGap.1 18 = .ok (.iload_n 1, 1) := by decide +kernel
theorem d_M_closeGap_19 : decode qM_closeGap.1 19 = .ok (.aload_n 0, 1) := by decide +kernel
theorem d_M_closeGap_20 : decode qM_closeGap.1 20 = .ok (.getfield 7, 3) := by decide +kernel
theorem d_M_closeGap_23 : decode qM_closeGap.1 23 = .ok (.iload_n 2, 1) := by decide +kernel
theorem d_M_closeGap_24 : decode qM_closeGap.1 24 = .ok (.iconst 1, 1) := by decide +kernel
theorem d_M_closeGap_25 : decode qM_closeGap.1 25 = .ok (.iadd, 1) := by decide +kernel
theorem d_M_closeGap_26 : decode qM_closeGap.1 26 = .ok (.iaload, 1) := by decide +kernel
theorem d_M_closeGap_27 : decode qM_closeGap.1 27 = .ok (.if_icmp .le 14, 3) := by decide +kernel
theorem d_M_closeGap_30 : decode qM_closeGap.1 30 = .ok (.aload_n 0, 1) := by decide +kernel
theorem d_M_closeGap_31 : decode qM_closeGap.1 31 = .ok (.iload_n 2, 1) := by decide +kernel
theorem d_M_closeGap_32 : decode qM_closeGap.1 32 = .ok (.iload_n 1, 1) := by decide +kernel
theorem d_M_closeGap_33 : decode qM_closeGap.1 33 = .ok (.bipush 13, 2) := by decide +kernel
theorem d_M_closeGap_35 : decode qM_closeGap.1 35 = .ok (.invokevirtual 168, 3) := by decide +kernel
theorem d_M_closeGap_38 : decode qM_closeGap.1 38 = .ok (.ifCond .ne 7, 3) := by decide +kernel
theorem d_M_closeGap_41 : decode qM_closeGap.1 41 = .ok (.ldc_w 483, 3) := by decide +kernel
theorem d_M_closeGap_44 : decode qM_closeGap.1 44 = .ok (.ireturn, 1) := by decide +kernel
theorem d_M_closeGap_45 : decode qM_closeGap.1 45 = .ok (.aload_n 0, 1) := by decide +kernel
theorem d_M_closeGap_46 : decode qM_closeGap.1 46 = .ok (.invokevirtual 484, 3) := by decide +kernel
theorem d_M_closeGap_49 : decode qM_closeGap.1 49 = .ok (.aload_n 0, 1) := by decide +kernel
theorem d_M_closeGap_50 : decode qM_closeGap.1 50 = .ok (.sipush 297, 3) := by decide +kernel
theorem d_M_closeGap_53 : decode qM_closeGap.1 53 = .ok (.iload_n 1, 1) := by decide +kernel
theorem d_M_closeGap_54 : decode qM_closeGap.1 54 = .ok (.bipush 13, 2) := by decide +kernel
theorem d_M_closeGap_56 : decode qM_closeGap.1 56 = .ok (.iconst 0, 1) := by decide +kernel
theorem d_M_closeGap_57 : decode qM_closeGap.1 57 = .ok (.invokevirtual 500, 3) := by decide +kernel
theorem d_M_closeGap_60 : decode qM_closeGap.1 60 = .ok (.aload_n 0, 1) := by decide +kernel
theorem d_M_closeGap_61 : decode qM_closeGap.1 61 = .ok (.sipush 297, 3) := by decide +kernel
theorem d_M_closeGap_64 : decode qM_closeGap.1 64 = .ok (.invokevirtual 359, 3) := by decide +kernel
theorem d_M_closeGap_67 : decode qM_closeGap.1 67 = .ok (.aload_n 0, 1) := by decide +kernel
theorem d_M_closeGap_68 : decode qM_closeGap.1 68 = .ok (.sipush 297, 3) := by decide +kernel
theorem d_M_closeGap_71 : decode qM_closeGap.1 71 = .ok (.invokevirtual 506, 3) := by decide +kernel
theorem d_M_closeGap_74 : decode qM_closeGap.1 74 = .ok (.ireturn, 1) := by decide +kernel
set_option maxRecDepth 100000 in
def m_closeGap (σ : St) (p1 : Int32) : Option (Int32 × St) :=
  Option.bind (m_edited σ) fun x1 =>
  Option.bind (m_isLeg σ x1 p1) fun x2 =>
  if (x2 : Int32) = 0 then (
  some ((-1000001 : Int32), σ)
  ) else (
  Gd (Ix (x1 + (1 : Int32)) 2673) <|
  Jn (fun (_ : Unit) =>
  some ((-1000003 : Int32), σ)
  ) fun J3 =>
  if (p1 : Int32) ≤ (σ 1 (Int32.toNatClampNeg (x1 + (1 : Int32)))) then (
  J3 ()
  ) else (
  Option.bind (m_of σ x1 p1 (13 : Int32)) fun x4 =>
  if (x4 : Int32) = 0 then (
  J3 ()
  ) else (
  Option.bind (m_begins σ) fun x5 =>
  Option.bind (m_sets x5 (297 : Int32) p1 (13 : Int32) (0 : Int32)) fun x6 =>
  Option.bind (m_lays x6 (297 : Int32)) fun x7 =>
  Option.bind (m_gaps x7 (297 : Int32)) fun x8 =>
  some (x8, x7)
  )
  )
  )
set_option maxHeartbeats 4000000 in
set_option maxRecDepth 100000 in
theorem cM_closeGap (l : Launch) (g : Ge) (hi : injB wM.2 g) (σ : St) (p1 : Int32) (x : Int32 × St) (h : m_closeGap σ p1 = some x) : Ct l wM g yM_closeGap qM_closeGap 8 199 [.ref (g.1 0), .int p1] σ (some (.int x.1), x.2) := by
  refine Ct.of (out := o_w) FM_closeGap rfl hi rfl h (fun z hz C => ?_)
  clear h
  subst hz
  unfold m_closeGap
  show Rt z qM_closeGap wM g o_w 0 [(0, .ref (g.1 0)), (1, .int p1)] [] σ _
  refine q_aload_n (pc' := 1) C 0 d_M_closeGap_0 rfl rfl ?_
  refine q_callVr (fr' := 0) (lo' := 0) (pc' := 4) C FM_edited lmM_490 d_M_closeGap_1 0 jM_0 kM_0 cM0 [] [] rfl rfl (Nat.le_of_ble_eq_true rfl) ⟨rfl, rfl⟩ (fun x h => cM_edited _ g hi σ x h) rfl (fun x1 _ => ?_)
  refine q_istore_n (pc' := 5) (lv' := [(2, .int x1), (0, .ref (g.1 0)), (1, .int p1)]) C d_M_closeGap_4 (by decide) rfl rfl ?_
  refine q_aload_n (pc' := 6) C 1 d_M_closeGap_5 rfl rfl ?_
  refine q_iload_n (pc' := 7) C 0 d_M_closeGap_6 rfl rfl ?_
  refine q_iload_n (pc' := 8) C 2 d_M_closeGap_7 rfl rfl ?_
  refine q_callVr (fr' := 1) (lo' := 25) (pc' := 11) C FM_isLeg lmM_503 d_M_closeGap_8 0 jM_0 kM_0 cM0 [.int x1, .int p1] [] rfl rfl (Nat.le_of_ble_eq_true rfl) ⟨rfl, rfl⟩ (fun x h => cM_isLeg _ g hi σ x1 p1 x h) rfl (fun x2 _ => ?_)
  refine q_if_ne (tgt := 18) (pc' := 14) C d_M_closeGap_11 rfl rfl ?_ ?_
  · refine q_iload_n (pc' := 19) C 2 d_M_closeGap_18 rfl rfl ?_
    refine q_aload_n (pc' := 20) C 1 d_M_closeGap_19 rfl rfl ?_
    refine gM_7 (pc' := 23) C d_M_closeGap_20 rfl rfl ?_
    refine q_iload_n (pc' := 24) C 0 d_M_closeGap_23 rfl rfl ?_
    refine q_iconst (pc' := 25) C d_M_closeGap_24 ki_1 rfl ?_
    refine q_iadd (pc' := 26) C d_M_closeGap_25 rfl ?_
    refine q_iald (pc' := 27) C 1 jM_1 kM_1 d_M_closeGap_26 rfl ?_
    refine q_join (fun J3 : Unit → Option (Int32 × St) => ∀ (_ : Unit), Rt z qM_closeGap wM g o_w 41 [] [] σ (J3 ())) (fun _ => ?_) (fun J3 hJ3 => ?_)
    · refine q_ldcw (pc' := 44) C lcM_483 d_M_closeGap_41 rfl ?_
      exact q_iret C rfl d_M_closeGap_44 rfl
    refine q_icmp_le (tgt := 41) (pc' := 30) C d_M_closeGap_27 rfl rfl ?_ ?_
    · exact Rt.sub [] rfl (hJ3 ())
    · refine q_aload_n (pc' := 31) C 1 d_M_closeGap_30 rfl rfl ?_
      refine q_iload_n (pc' := 32) C 0 d_M_closeGap_31 rfl rfl ?_
      refine q_iload_n (pc' := 33) C 2 d_M_closeGap_32 rfl rfl ?_
      refine q_bipush (pc' := 35) C d_M_closeGap_33 kb_13 rfl ?_
      refine q_callVr (fr' := 0) (lo' := 0) (pc' := 38) C FM_of lmM_168 d_M_closeGap_35 0 jM_0 kM_0 cM0 [.int x1, .int p1, .int (13 : Int32)] [] rfl rfl (Nat.le_of_ble_eq_true rfl) ⟨rfl, rfl⟩ (fun x h => cM_of _ g hi σ x1 p1 (13 : Int32) x h) rfl (fun x4 _ => ?_)
      refine q_if_ne (tgt := 45) (pc' := 41) C d_M_closeGap_38 rfl rfl ?_ ?_
      · refine q_aload_n (pc' := 46) C 1 d_M_closeGap_45 rfl rfl ?_
        refine q_callVv (fr' := 1) (lo' := 23) (pc' := 49) C FM_begins lmM_484 d_M_closeGap_46 0 jM_0 kM_0 cM0 [] [] rfl rfl (Nat.le_of_ble_eq_true rfl) ⟨rfl, rfl⟩ (fun x h => cM_begins _ g hi σ x h) rfl (fun x5 _ => ?_)
        refine q_aload_n (pc' := 50) C 1 d_M_closeGap_49 rfl rfl ?_
        refine q_sipush (pc' := 53) C d_M_closeGap_50 ks_297 rfl ?_
        refine q_iload_n (pc' := 54) C 2 d_M_closeGap_53 rfl rfl ?_
        refine q_bipush (pc' := 56) C d_M_closeGap_54 kb_13 rfl ?_
        refine q_iconst (pc' := 57) C d_M_closeGap_56 ki_0 rfl ?_
        refine q_callVv (fr' := 0) (lo' := 0) (pc' := 60) C FM_sets lmM_500 d_M_closeGap_57 0 jM_0 kM_0 cM0 [.int (297 : Int32), .int p1, .int (13 : Int32), .int (0 : Int32)] [] rfl rfl (Nat.le_of_ble_eq_true rfl) ⟨rfl, rfl⟩ (fun x h => cM_sets _ g hi x5 (297 : Int32) p1 (13 : Int32) (0 : Int32) x h) rfl (fun x6 _ => ?_)
        refine q_aload_n (pc' := 61) C 1 d_M_closeGap_60 rfl rfl ?_
        refine q_sipush (pc' := 64) C d_M_closeGap_61 ks_297 rfl ?_
        refine q_callVv (fr' := 7) (lo' := 176) (pc' := 67) C FM_lays lmM_359 d_M_closeGap_64 0 jM_0 kM_0 cM0 [.int (297 : Int32)] [] rfl rfl (Nat.le_of_ble_eq_true rfl) ⟨rfl, rfl⟩ (fun x h => cM_lays _ g hi x6 (297 : Int32) x h) rfl (fun x7 _ => ?_)
        refine q_aload_n (pc' := 68) C 1 d_M_closeGap_67 rfl rfl ?_
        refine q_sipush (pc' := 71) C d_M_closeGap_68 ks_297 rfl ?_
        refine q_callVr (fr' := 1) (lo' := 21) (pc' := 74) C FM_gaps lmM_506 d_M_closeGap_71 0 jM_0 kM_0 cM0 [.int (297 : Int32)] [] rfl rfl (Nat.le_of_ble_eq_true rfl) ⟨rfl, rfl⟩ (fun x h => cM_gaps _ g hi x7 (297 : Int32) x h) rfl (fun x8 _ => ?_)
        exact q_iret C rfl d_M_closeGap_74 rfl
      · exact Rt.sub [] rfl (hJ3 ())
  · refine q_ldcw (pc' := 17) C lcM_493 d_M_closeGap_14 rfl ?_
    exact q_iret C rfl d_M_closeGap_17 rfl
theorem d_M_setWindow_0 : decode qM_setWindow.1 0 = .ok (.aload_n 0, 1) := by decide +kernel
theorem d_M_setWindow_1 : decode qM_setWindow.1 1 = .ok (.invokevirtual 490, 3) := by decide +kernel
theorem d_M_setWindow_4 : decode qM_setWindow.1 4 = .ok (.istore 4, 2) := by decide +kernel
theorem d_M_setWindow_6 : decode qM_setWindow.1 6 = .ok (.aload_n 0, 1) := by decide +kernel
theorem d_M_setWindow_7 : decode qM_setWindow.1 7 = .ok (.iload 4, 2) := by decide +kernel
theorem d_M_setWindow_9 : decode qM_setWindow.1 9 = .ok (.iload_n 1, 1) := by decide +kernel
theorem d_M_setWindow_10 : decode qM_setWindow.1 10 = .ok (.invokevirtual 503, 3) := by decide +kernel
theorem d_M_setWindow_13 : decode qM_setWindow.1 13 = .ok (.ifCond .ne 7, 3) := by decide +kernel
theorem d_M_setWindow_16 : decode qM_setWindow.1 16 = .ok (.ldc_w 493, 3) := by decide +kernel
theorem d_M_setWindow_19 : decode qM_setWindow.1 19 = .ok (.ireturn, 1) := by decide +kernel
theorem d_M_setWindow_20 : decode qM_setWindow.1 20 = .ok (.iload_n 2, 1) := by decide +kernel
theorem d_M_setWindow_21 : decode qM_setWindow.1 21 = .ok (.i2l, 1) := by decide +kernel
theorem d_M_setWindow_22 : decode qM_setWindow.1 22 = .ok (.lconst 0, 1) := by decide +kernel
theorem d_M_setWindow_23 : decode qM_setWindow.1 23 = .ok (.ldc2_w 465, 3) := by decide +kernel
theorem d_M_setWindow_26 : decode qM_setWindow.1 26 = .ok (.invokestatic 232, 3) := by decide +kernel
theorem d_M_setWindow_29 : decode qM_setWindow.1 29 = .ok (.ifCond .eq 16, 3) := by decide +kernel
theorem d_M_setWindow_32 : decode qM_setWindow.1 32 = .ok (.iload_n 3, 1) := by decide +kernel
theorem d_M_setWindow_33 : decode qM_setWindow.1 33 = .ok (.i2l, 1) := by decide +kernel
theorem d_M_setWindow_34 : decode qM_setWindow.1 34 = .ok (.iload_n 2, 1) := by decide +kernel
theorem d_M_setWindow_35 : decode qM_setWindow.1 35 = .ok (.i2l, 1) := by decide +kernel
theorem d_M_setWindow_36 : decode qM_setWindow.1 36 = .ok (.ldc2_w 465, 3) := by decide +kernel
theorem d_M_setWindow_39 : decode qM_setWindow.1 39 = .ok (.invokestatic 232, 3) := by decide +kernel
theorem d_M_setWindow_42 : decode qM_setWindow.1 42 = .ok (.ifCond .ne 7, 3) := by decide +kernel
theorem d_M_setWindow_45 : decode qM_setWindow.1 45 = .ok (.ldc_w 376, 3) := by decide +kernel
theorem d_M_setWindow_48 : decode qM_setWindow.1 48 = .ok (.ireturn, 1) := by decide +kernel
theorem d_M_setWindow_49 : decode qM_setWindow.1 49 = .ok (.iload_n 1, 1) := by decide +kernel
theorem d_M_setWindow_50 : decode qM_setWindow.1 50 = .ok (.aload_n 0, 1) := by decide +kernel
theorem d_M_setWindow_51 : decode qM_setWindow.1 51 = .ok (.getfield 7, 3) := by decide +kernel
theorem d_M_setWindow_54 : decode qM_setWindow.1 54 = .ok (.iload 4, 2) := by decide +kernel
theorem d_M_setWindow_56 : decode qM_setWindow.1 56 = .ok (.iconst 1, 1) := by decide +kernel
theorem d_M_setWindow_57 : decode qM_setWindow.1 57 = .ok (.iadd, 1) := by decide +kernel
theorem d_M_setWindow_58 : decode qM_setWindow.1 58 = .ok (.iaload, 1) := by decide +kernel
theorem d_M_setWindow_59 : decode qM_setWindow.1 59 = .ok (.if_icmp .ge 7, 3) := by decide +kernel
theorem d_M_setWindow_62 : decode qM_setWindow.1 62 = .ok (.ldc_w 483, 3) := by decide +kernel
theorem d_M_setWindow_65 : decode qM_setWindow.1 65 = .ok (.ireturn, 1) := by decide +kernel
theorem d_M_setWindow_66 : decode qM_setWindow.1 66 = .ok (.aload_n 0, 1) := by decide +kernel
theorem d_M_setWindow_67 : decode qM_setWindow.1 67 = .ok (.invokevirtual 484, 3) := by decide +kernel
theorem d_M_setWindow_70 : decode qM_setWindow.1 70 = .ok (.aload_n 0, 1) := by decide +kernel
theorem d_M_setWindow_71 : decode qM_setWindow.1 71 = .ok (.sipush 297, 3) := by decide +kernel
theorem d_M_setWindow_74 : decode qM_setWindow.1 74 = .ok (.iload_n 1, 1) := by decide +kernel
theorem d_M_setWindow_75 : decode qM_setWindow.1 75 = .ok (.bipush 9, 2) := by decide +kernel
theorem d_M_setWindow_77 : decode qM_setWindow.1 77 = .ok (.iload_n 2, 1) := by decide +kernel
theorem d_M_setWindow_78 : decode qM_setWindow.1 78 = .ok (.invokevirtual 500, 3) := by decide +kernel
theorem d_M_setWindow_81 : decode qM_setWindow.1 81 = .ok (.aload_n 0, 1) := by decide +kernel
theorem d_M_setWindow_82 : decode qM_setWindow.1 82 = .ok (.sipush 297, 3) := by decide +kernel
theorem d_M_setWindow_85 : decode qM_setWindow.1 85 = .ok (.iload_n 1, 1) := by decide +kernel
theorem d_M_setWindow_86 : decode qM_setWindow.1 86 = .ok (.bipush 10, 2) := by decide +kernel
theorem d_M_setWindow_88 : decode qM_setWindow.1 88 = .ok (.iload_n 3, 1) := by decide +kernel
theorem d_M_setWindow_89 : decode qM_setWindow.1 89 = .ok (.invokevirtual 500, 3) := by decide +kernel
theorem d_M_setWindow_92 : decode qM_setWindow.1 92 = .ok (.aload_n 0, 1) := by decide +kernel
theorem d_M_setWindow_93 : decode qM_setWindow.1 93 = .ok (.sipush 297, 3) := by decide +kernel
theorem d_M_setWindow_96 : decode qM_setWindow.1 96 = .ok (.invokevirtual 359, 3) := by decide +kernel
theorem d_M_setWindow_99 : decode qM_setWindow.1 99 = .ok (.aload_n 0, 1) := by decide +kernel
theorem d_M_setWindow_100 : decode qM_setWindow.1 100 = .ok (.sipush 297, 3) := by decide +kernel
theorem d_M_setWindow_103 : decode qM_setWindow.1 103 = .ok (.invokevirtual 509, 3) := by decide +kernel
theorem d_M_setWindow_106 : decode qM_setWindow.1 106 = .ok (.ireturn, 1) := by decide +kernel
set_option maxRecDepth 100000 in
def m_setWindow (σ : St) (p1 : Int32) (p2 : Int32) (p3 : Int32) : Option (Int32 × St) :=
  Option.bind (m_edited σ) fun x1 =>
  Option.bind (m_isLeg σ x1 p1) fun x2 =>
  if (x2 : Int32) = 0 then (
  some ((-1000001 : Int32), σ)
  ) else (
  Option.bind (m_in (Int32.toInt64 p2) (0 : Int64) (450 : Int64)) fun x3 =>
  Jn (fun (_ : Unit) =>
  some ((-1000002 : Int32), σ)
  ) fun J4 =>
  if (x3 : Int32) = 0 then (
  J4 ()
  ) else (
  Option.bind (m_in (Int32.toInt64 p3) (Int32.toInt64 p2) (450 : Int64)) fun x5 =>
  if (x5 : Int32) = 0 then (
  J4 ()
  ) else (
  Gd (Ix (x1 + (1 : Int32)) 2673) <|
  if ((σ 1 (Int32.toNatClampNeg (x1 + (1 : Int32)))) : Int32) ≤ p1 then (
  Option.bind (m_begins σ) fun x6 =>
  Option.bind (m_sets x6 (297 : Int32) p1 (9 : Int32) p2) fun x7 =>
  Option.bind (m_sets x7 (297 : Int32) p1 (10 : Int32) p3) fun x8 =>
  Option.bind (m_lays x8 (297 : Int32)) fun x9 =>
  Option.bind (m_violations x9 (297 : Int32)) fun x10 =>
  some (x10, x9)
  ) else (
  some ((-1000003 : Int32), σ)
  )
  )
  )
  )
set_option maxHeartbeats 4000000 in
set_option maxRecDepth 100000 in
theorem cM_setWindow (l : Launch) (g : Ge) (hi : injB wM.2 g) (σ : St) (p1 : Int32) (p2 : Int32) (p3 : Int32) (x : Int32 × St) (h : m_setWindow σ p1 p2 p3 = some x) : Ct l wM g yM_setWindow qM_setWindow 8 199 [.ref (g.1 0), .int p1, .int p2, .int p3] σ (some (.int x.1), x.2) := by
  refine Ct.of (out := o_w) FM_setWindow rfl hi rfl h (fun z hz C => ?_)
  clear h
  subst hz
  unfold m_setWindow
  show Rt z qM_setWindow wM g o_w 0 [(0, .ref (g.1 0)), (1, .int p1), (2, .int p2), (3, .int p3)] [] σ _
  refine q_aload_n (pc' := 1) C 0 d_M_setWindow_0 rfl rfl ?_
  refine q_callVr (fr' := 0) (lo' := 0) (pc' := 4) C FM_edited lmM_490 d_M_setWindow_1 0 jM_0 kM_0 cM0 [] [] rfl rfl (Nat.le_of_ble_eq_true rfl) ⟨rfl, rfl⟩ (fun x h => cM_edited _ g hi σ x h) rfl (fun x1 _ => ?_)
  refine q_istore (pc' := 6) (lv' := [(4, .int x1), (0, .ref (g.1 0)), (1, .int p1), (2, .int p2), (3, .int p3)]) C d_M_setWindow_4 (by decide) rfl rfl ?_
  refine q_aload_n (pc' := 7) C 1 d_M_setWindow_6 rfl rfl ?_
  refine q_iload (pc' := 9) C 0 d_M_setWindow_7 rfl rfl ?_
  refine q_iload_n (pc' := 10) C 2 d_M_setWindow_9 rfl rfl ?_
  refine q_callVr (fr' := 1) (lo' := 25) (pc' := 13) C FM_isLeg lmM_503 d_M_setWindow_10 0 jM_0 kM_0 cM0 [.int x1, .int p1] [] rfl rfl (Nat.le_of_ble_eq_true rfl) ⟨rfl, rfl⟩ (fun x h => cM_isLeg _ g hi σ x1 p1 x h) rfl (fun x2 _ => ?_)
  refine q_if_ne (tgt := 20) (pc' := 16) C d_M_setWindow_13 rfl rfl ?_ ?_
  · refine q_iload_n (pc' := 21) C 3 d_M_setWindow_20 rfl rfl ?_
    refine q_i2l (pc' := 22) C d_M_setWindow_21 rfl ?_
    refine q_lconst (pc' := 23) C d_M_setWindow_22 kl_0 rfl ?_
    refine q_ldc2 (pc' := 26) C lLM_465 d_M_setWindow_23 rfl ?_
    refine q_callSr (fr' := 0) (lo' := 0) (pc' := 29) C FM_in lmM_232 d_M_setWindow_26 [.long (Int32.toInt64 p2), .long (0 : Int64), .long (450 : Int64)] [] rfl rfl (Nat.le_of_ble_eq_true rfl) ⟨rfl, rfl⟩ (fun x h => cM_in _ g hi σ (Int32.toInt64 p2) (0 : Int64) (450 : Int64) x h) rfl (fun x3 _ => ?_)
    refine q_join (fun J4 : Unit → Option (Int32 × St) => ∀ (_ : Unit), Rt z qM_setWindow wM g o_w 45 [] [] σ (J4 ())) (fun _ => ?_) (fun J4 hJ4 => ?_)
    · refine q_ldcw (pc' := 48) C lcM_376 d_M_setWindow_45 rfl ?_
      exact q_iret C rfl d_M_setWindow_48 rfl
    refine q_if_eq (tgt := 45) (pc' := 32) C d_M_setWindow_29 rfl rfl ?_ ?_
    · exact Rt.sub [] rfl (hJ4 ())
    · refine q_iload_n (pc' := 33) C 4 d_M_setWindow_32 rfl rfl ?_
      refine q_i2l (pc' := 34) C d_M_setWindow_33 rfl ?_
      refine q_iload_n (pc' := 35) C 3 d_M_setWindow_34 rfl rfl ?_
      refine q_i2l (pc' := 36) C d_M_setWindow_35 rfl ?_
      refine q_ldc2 (pc' := 39) C lLM_465 d_M_setWindow_36 rfl ?_
      refine q_callSr (fr' := 0) (lo' := 0) (pc' := 42) C FM_in lmM_232 d_M_setWindow_39 [.long (Int32.toInt64 p3), .long (Int32.toInt64 p2), .long (450 : Int64)] [] rfl rfl (Nat.le_of_ble_eq_true rfl) ⟨rfl, rfl⟩ (fun x h => cM_in _ g hi σ (Int32.toInt64 p3) (Int32.toInt64 p2) (450 : Int64) x h) rfl (fun x5 _ => ?_)
      refine q_if_ne (tgt := 49) (pc' := 45) C d_M_setWindow_42 rfl rfl ?_ ?_
      · refine q_iload_n (pc' := 50) C 2 d_M_setWindow_49 rfl rfl ?_
        refine q_aload_n (pc' := 51) C 1 d_M_setWindow_50 rfl rfl ?_
        refine gM_7 (pc' := 54) C d_M_setWindow_51 rfl rfl ?_
        refine q_iload (pc' := 56) C 0 d_M_setWindow_54 rfl rfl ?_
        refine q_iconst (pc' := 57) C d_M_setWindow_56 ki_1 rfl ?_
        refine q_iadd (pc' := 58) C d_M_setWindow_57 rfl ?_
        refine q_iald (pc' := 59) C 1 jM_1 kM_1 d_M_setWindow_58 rfl ?_
        refine q_icmp_ge (tgt := 66) (pc' := 62) C d_M_setWindow_59 rfl rfl ?_ ?_
        · refine q_aload_n (pc' := 67) C 1 d_M_setWindow_66 rfl rfl ?_
          refine q_callVv (fr' := 1) (lo' := 23) (pc' := 70) C FM_begins lmM_484 d_M_setWindow_67 0 jM_0 kM_0 cM0 [] [] rfl rfl (Nat.le_of_ble_eq_true rfl) ⟨rfl, rfl⟩ (fun x h => cM_begins _ g hi σ x h) rfl (fun x6 _ => ?_)
          refine q_aload_n (pc' := 71) C 1 d_M_setWindow_70 rfl rfl ?_
          refine q_sipush (pc' := 74) C d_M_setWindow_71 ks_297 rfl ?_
          refine q_iload_n (pc' := 75) C 2 d_M_setWindow_74 rfl rfl ?_
          refine q_bipush (pc' := 77) C d_M_setWindow_75 kb_9 rfl ?_
          refine q_iload_n (pc' := 78) C 3 d_M_setWindow_77 rfl rfl ?_
          refine q_callVv (fr' := 0) (lo' := 0) (pc' := 81) C FM_sets lmM_500 d_M_setWindow_78 0 jM_0 kM_0 cM0 [.int (297 : Int32), .int p1, .int (9 : Int32), .int p2] [] rfl rfl (Nat.le_of_ble_eq_true rfl) ⟨rfl, rfl⟩ (fun x h => cM_sets _ g hi x6 (297 : Int32) p1 (9 : Int32) p2 x h) rfl (fun x7 _ => ?_)
          refine q_aload_n (pc' := 82) C 1 d_M_setWindow_81 rfl rfl ?_
          refine q_sipush (pc' := 85) C d_M_setWindow_82 ks_297 rfl ?_
          refine q_iload_n (pc' := 86) C 2 d_M_setWindow_85 rfl rfl ?_
          refine q_bipush (pc' := 88) C d_M_setWindow_86 kb_10 rfl ?_
          refine q_iload_n (pc' := 89) C 4 d_M_setWindow_88 rfl rfl ?_
          refine q_callVv (fr' := 0) (lo' := 0) (pc' := 92) C FM_sets lmM_500 d_M_setWindow_89 0 jM_0 kM_0 cM0 [.int (297 : Int32), .int p1, .int (10 : Int32), .int p3] [] rfl rfl (Nat.le_of_ble_eq_true rfl) ⟨rfl, rfl⟩ (fun x h => cM_sets _ g hi x7 (297 : Int32) p1 (10 : Int32) p3 x h) rfl (fun x8 _ => ?_)
          refine q_aload_n (pc' := 93) C 1 d_M_setWindow_92 rfl rfl ?_
          refine q_sipush (pc' := 96) C d_M_setWindow_93 ks_297 rfl ?_
          refine q_callVv (fr' := 7) (lo' := 176) (pc' := 99) C FM_lays lmM_359 d_M_setWindow_96 0 jM_0 kM_0 cM0 [.int (297 : Int32)] [] rfl rfl (Nat.le_of_ble_eq_true rfl) ⟨rfl, rfl⟩ (fun x h => cM_lays _ g hi x8 (297 : Int32) x h) rfl (fun x9 _ => ?_)
          refine q_aload_n (pc' := 100) C 1 d_M_setWindow_99 rfl rfl ?_
          refine q_sipush (pc' := 103) C d_M_setWindow_100 ks_297 rfl ?_
          refine q_callVr (fr' := 4) (lo' := 88) (pc' := 106) C FM_violations lmM_509 d_M_setWindow_103 0 jM_0 kM_0 cM0 [.int (297 : Int32)] [] rfl rfl (Nat.le_of_ble_eq_true rfl) ⟨rfl, rfl⟩ (fun x h => cM_violations _ g hi x9 (297 : Int32) x h) rfl (fun x10 _ => ?_)
          exact q_iret C rfl d_M_setWindow_106 rfl
        · refine q_ldcw (pc' := 65) C lcM_483 d_M_setWindow_62 rfl ?_
          exact q_iret C rfl d_M_setWindow_65 rfl
      · exact Rt.sub [] rfl (hJ4 ())
  · refine q_ldcw (pc' := 19) C lcM_493 d_M_setWindow_16 rfl ?_
    exact q_iret C rfl d_M_setWindow_19 rfl
theorem d_M_setSpeedLimit_0 : decode qM_setSpeedLimit.1 0 = .ok (.aload_n 0, 1) := by decide +kernel
theorem d_M_setSpeedLimit_1 : decode qM_setSpeedLimit.1 1 = .ok (.invokevirtual 490, 3) := by decide +kernel
theorem d_M_setSpeedLimit_4 : decode qM_setSpeedLimit.1 4 = .ok (.istore_n 3, 1) := by decide +kernel
theorem d_M_setSpeedLimit_5 : decode qM_setSpeedLimit.1 5 = .ok (.aload_n 0, 1) := by decide +kernel
theorem d_M_setSpeedLimit_6 : decode qM_setSpeedLimit.1 6 = .ok (.iload_n 3, 1) := by decide +kernel
theorem d_M_setSpeedLimit_7 : decode qM_setSpeedLimit.1 7 = .ok (.iload_n 1, 1) := by decide +kernel
theorem d_M_setSpeedLimit_8 : decode qM_setSpeedLimit.1 8 = .ok (.invokevirtual 503, 3) := by decide +kernel
theorem d_M_setSpeedLimit_11 : decode qM_setSpeedLimit.1 11 = .ok (.ifCond .ne 7, 3) := by decide +kernel
theorem d_M_setSpeedLimit_14 : decode qM_setSpeedLimit.1 14 = .ok (.ldc_w 493, 3) := by decide +kernel
theorem d_M_setSpeedLimit_17 : decode qM_setSpeedLimit.1 17 = .ok (.ireturn, 1) := by decide +kernel
theorem d_M_setSpeedLimit_18 : decode qM_setSpeedLimit.1 18 = .ok (.iload_n 2, 1) := by decide +kernel
theorem d_M_setSpeedLimit_19 : decode qM_setSpeedLimit.1 19 = .ok (.i2l, 1) := by decide +kernel
theorem d_M_setSpeedLimit_20 : decode qM_setSpeedLimit.1 20 = .ok (.ldc2_w 467, 3) := by decide +kernel
theorem d_M_setSpeedLimit_23 : decode qM_setSpeedLimit.1 23 = .ok (.ldc2_w 469, 3) := by decide +kernel
theorem d_M_setSpeedLimit_26 : decode qM_setSpeedLimit.1 26 = .ok (.invokestatic 232, 3) := by decide +kernel
theorem d_M_setSpeedLimit_29 : decode qM_setSpeedLimit.1 29 = .ok (.ifCond .ne 14, 3) := by decide +kernel
theorem d_M_setSpeedLimit_32 : decode qM_setSpeedLimit.1 32 = .ok (.iload_n 2, 1) := by decide +kernel
theorem d_M_setSpeedLimit_33 : decode qM_setSpeedLimit.1 33 = .ok (.sipush 999, 3) := by decide +kernel
theorem d_M_setSpeedLimit_36 : decode qM_setSpeedLimit.1 36 = .ok (.if_icmp .eq 7, 3) := by decide +kernel
theorem d_M_setSpeedLimit_39 : decode qM_setSpeedLimit.1 39 = .ok (.ldc_w 376, 3) := by decide +kernel
theorem d_M_setSpeedLimit_42 : decode qM_setSpeedLimit.1 42 = .ok (.ireturn, 1) := by decide +kernel
theorem d_M_setSpeedLimit_43 : decode qM_setSpeedLimit.1 43 = .ok (.iload_n 1, 1) := by decide +kernel
theorem d_M_setSpeedLimit_44 : decode qM_setSpeedLimit.1 44 = .ok (.aload_n 0, 1) := by decide +kernel
theorem d_M_setSpeedLimit_45 : decode qM_setSpeedLimit.1 45 = .ok (.getfield 7, 3) := by decide +kernel
theorem d_M_setSpeedLimit_48 : decode qM_setSpeedLimit.1 48 = .ok (.iload_n 3, 1) := by decide +kernel
theorem d_M_setSpeedLimit_49 : decode qM_setSpeedLimit.1 49 = .ok (.iconst 1, 1) := by decide +kernel
theorem d_M_setSpeedLimit_50 : decode qM_setSpeedLimit.1 50 = .ok (.iadd, 1) := by decide +kernel
theorem d_M_setSpeedLimit_51 : decode qM_setSpeedLimit.1 51 = .ok (.iaload, 1) := by decide +kernel
theorem d_M_setSpeedLimit_52 : decode qM_setSpeedLimit.1 52 = .ok (.if_icmp .ge 7, 3) := by decide +kernel
theorem d_M_setSpeedLimit_55 : decode qM_setSpeedLimit.1 55 = .ok (.ldc_w 483, 3) := by decide +kernel
theorem d_M_setSpeedLimit_58 : decode qM_setSpeedLimit.1 58 = .ok (.ireturn, 1) := by decide +kernel
theorem d_M_setSpeedLimit_59 : decode qM_setSpeedLimit.1 59 = .ok (.aload_n 0, 1) := by decide +kernel
theorem d_M_setSpeedLimit_60 : decode qM_setSpeedLimit.1 60 = .ok (.invokevirtual 484, 3) := by decide +kernel
theorem d_M_setSpeedLimit_63 : decode qM_setSpeedLimit.1 63 = .ok (.aload_n 0, 1) := by decide +kernel
theorem d_M_setSpeedLimit_64 : decode qM_setSpeedLimit.1 64 = .ok (.sipush 297, 3) := by decide +kernel
theorem d_M_setSpeedLimit_67 : decode qM_setSpeedLimit.1 67 = .ok (.iload_n 1, 1) := by decide +kernel
theorem d_M_setSpeedLimit_68 : decode qM_setSpeedLimit.1 68 = .ok (.bipush 11, 2) := by decide +kernel
theorem d_M_setSpeedLimit_70 : decode qM_setSpeedLimit.1 70 = .ok (.invokevirtual 168, 3) := by decide +kernel
theorem d_M_setSpeedLimit_73 : decode qM_setSpeedLimit.1 73 = .ok (.istore 4, 2) := by decide +kernel
theorem d_M_setSpeedLimit_75 : decode qM_setSpeedLimit.1 75 = .ok (.aload_n 0, 1) := by decide +kernel
theorem d_M_setSpeedLimit_76 : decode qM_setSpeedLimit.1 76 = .ok (.sipush 297, 3) := by decide +kernel
theorem d_M_setSpeedLimit_79 : decode qM_setSpeedLimit.1 79 = .ok (.iload_n 1, 1) := by decide +kernel
theorem d_M_setSpeedLimit_80 : decode qM_setSpeedLimit.1 80 = .ok (.bipush 11, 2) := by decide +kernel
theorem d_M_setSpeedLimit_82 : decode qM_setSpeedLimit.1 82 = .ok (.iload_n 2, 1) := by decide +kernel
theorem d_M_setSpeedLimit_83 : decode qM_setSpeedLimit.1 83 = .ok (.invokevirtual 500, 3) := by decide +kernel
theorem d_M_setSpeedLimit_86 : decode qM_setSpeedLimit.1 86 = .ok (.iload 4, 2) := by decide +kernel
theorem d_M_setSpeedLimit_88 : decode qM_setSpeedLimit.1 88 = .ok (.ireturn, 1) := by decide +kernel
set_option maxRecDepth 100000 in
def m_setSpeedLimit (σ : St) (p1 : Int32) (p2 : Int32) : Option (Int32 × St) :=
  Option.bind (m_edited σ) fun x1 =>
  Option.bind (m_isLeg σ x1 p1) fun x2 =>
  if (x2 : Int32) = 0 then (
  some ((-1000001 : Int32), σ)
  ) else (
  Option.bind (m_in (Int32.toInt64 p2) (100 : Int64) (500 : Int64)) fun x3 =>
  Jn (fun (_ : Unit) =>
  Gd (Ix (x1 + (1 : Int32)) 2673) <|
  if ((σ 1 (Int32.toNatClampNeg (x1 + (1 : Int32)))) : Int32) ≤ p1 then (
  Option.bind (m_begins σ) fun x5 =>
  Option.bind (m_of x5 (297 : Int32) p1 (11 : Int32)) fun x6 =>
  Option.bind (m_sets x5 (297 : Int32) p1 (11 : Int32) p2) fun x7 =>
  some (x6, x7)
  ) else (
  some ((-1000003 : Int32), σ)
  )
  ) fun J4 =>
  if (x3 : Int32) = 0 then (
  if (p2 : Int32) = (999 : Int32) then (
  J4 ()
  ) else (
  some ((-1000002 : Int32), σ)
  )
  ) else (
  J4 ()
  )
  )
set_option maxHeartbeats 4000000 in
set_option maxRecDepth 100000 in
theorem cM_setSpeedLimit (l : Launch) (g : Ge) (hi : injB wM.2 g) (σ : St) (p1 : Int32) (p2 : Int32) (x : Int32 × St) (h : m_setSpeedLimit σ p1 p2 = some x) : Ct l wM g yM_setSpeedLimit qM_setSpeedLimit 2 47 [.ref (g.1 0), .int p1, .int p2] σ (some (.int x.1), x.2) := by
  refine Ct.of (out := o_w) FM_setSpeedLimit rfl hi rfl h (fun z hz C => ?_)
  clear h
  subst hz
  unfold m_setSpeedLimit
  show Rt z qM_setSpeedLimit wM g o_w 0 [(0, .ref (g.1 0)), (1, .int p1), (2, .int p2)] [] σ _
  refine q_aload_n (pc' := 1) C 0 d_M_setSpeedLimit_0 rfl rfl ?_
  refine q_callVr (fr' := 0) (lo' := 0) (pc' := 4) C FM_edited lmM_490 d_M_setSpeedLimit_1 0 jM_0 kM_0 cM0 [] [] rfl rfl (Nat.le_of_ble_eq_true rfl) ⟨rfl, rfl⟩ (fun x h => cM_edited _ g hi σ x h) rfl (fun x1 _ => ?_)
  refine q_istore_n (pc' := 5) (lv' := [(3, .int x1), (0, .ref (g.1 0)), (1, .int p1), (2, .int p2)]) C d_M_setSpeedLimit_4 (by decide) rfl rfl ?_
  refine q_aload_n (pc' := 6) C 1 d_M_setSpeedLimit_5 rfl rfl ?_
  refine q_iload_n (pc' := 7) C 0 d_M_setSpeedLimit_6 rfl rfl ?_
  refine q_iload_n (pc' := 8) C 2 d_M_setSpeedLimit_7 rfl rfl ?_
  refine q_callVr (fr' := 1) (lo' := 25) (pc' := 11) C FM_isLeg lmM_503 d_M_setSpeedLimit_8 0 jM_0 kM_0 cM0 [.int x1, .int p1] [] rfl rfl (Nat.le_of_ble_eq_true rfl) ⟨rfl, rfl⟩ (fun x h => cM_isLeg _ g hi σ x1 p1 x h) rfl (fun x2 _ => ?_)
  refine q_if_ne (tgt := 18) (pc' := 14) C d_M_setSpeedLimit_11 rfl rfl ?_ ?_
  · refine q_iload_n (pc' := 19) C 3 d_M_setSpeedLimit_18 rfl rfl ?_
    refine q_i2l (pc' := 20) C d_M_setSpeedLimit_19 rfl ?_
    refine q_ldc2 (pc' := 23) C lLM_467 d_M_setSpeedLimit_20 rfl ?_
    refine q_ldc2 (pc' := 26) C lLM_469 d_M_setSpeedLimit_23 rfl ?_
    refine q_callSr (fr' := 0) (lo' := 0) (pc' := 29) C FM_in lmM_232 d_M_setSpeedLimit_26 [.long (Int32.toInt64 p2), .long (100 : Int64), .long (500 : Int64)] [] rfl rfl (Nat.le_of_ble_eq_true rfl) ⟨rfl, rfl⟩ (fun x h => cM_in _ g hi σ (Int32.toInt64 p2) (100 : Int64) (500 : Int64) x h) rfl (fun x3 _ => ?_)
    refine q_join (fun J4 : Unit → Option (Int32 × St) => ∀ (_ : Unit), Rt z qM_setSpeedLimit wM g o_w 43 [(0, .ref (g.1 0)), (1, .int p1), (2, .int p2), (3, .int x1)] [] σ (J4 ())) (fun _ => ?_) (fun J4 hJ4 => ?_)
    · refine q_iload_n (pc' := 44) C 1 d_M_setSpeedLimit_43 rfl rfl ?_
      refine q_aload_n (pc' := 45) C 0 d_M_setSpeedLimit_44 rfl rfl ?_
      refine gM_7 (pc' := 48) C d_M_setSpeedLimit_45 rfl rfl ?_
      refine q_iload_n (pc' := 49) C 3 d_M_setSpeedLimit_48 rfl rfl ?_
      refine q_iconst (pc' := 50) C d_M_setSpeedLimit_49 ki_1 rfl ?_
      refine q_iadd (pc' := 51) C d_M_setSpeedLimit_50 rfl ?_
      refine q_iald (pc' := 52) C 1 jM_1 kM_1 d_M_setSpeedLimit_51 rfl ?_
      refine q_icmp_ge (tgt := 59) (pc' := 55) C d_M_setSpeedLimit_52 rfl rfl ?_ ?_
      · refine q_aload_n (pc' := 60) C 0 d_M_setSpeedLimit_59 rfl rfl ?_
        refine q_callVv (fr' := 1) (lo' := 23) (pc' := 63) C FM_begins lmM_484 d_M_setSpeedLimit_60 0 jM_0 kM_0 cM0 [] [] rfl rfl (Nat.le_of_ble_eq_true rfl) ⟨rfl, rfl⟩ (fun x h => cM_begins _ g hi σ x h) rfl (fun x5 _ => ?_)
        refine q_aload_n (pc' := 64) C 0 d_M_setSpeedLimit_63 rfl rfl ?_
        refine q_sipush (pc' := 67) C d_M_setSpeedLimit_64 ks_297 rfl ?_
        refine q_iload_n (pc' := 68) C 1 d_M_setSpeedLimit_67 rfl rfl ?_
        refine q_bipush (pc' := 70) C d_M_setSpeedLimit_68 kb_11 rfl ?_
        refine q_callVr (fr' := 0) (lo' := 0) (pc' := 73) C FM_of lmM_168 d_M_setSpeedLimit_70 0 jM_0 kM_0 cM0 [.int (297 : Int32), .int p1, .int (11 : Int32)] [] rfl rfl (Nat.le_of_ble_eq_true rfl) ⟨rfl, rfl⟩ (fun x h => cM_of _ g hi x5 (297 : Int32) p1 (11 : Int32) x h) rfl (fun x6 _ => ?_)
        refine q_istore (pc' := 75) (lv' := [(4, .int x6), (0, .ref (g.1 0)), (1, .int p1), (2, .int p2), (3, .int x1)]) C d_M_setSpeedLimit_73 (by decide) rfl rfl ?_
        refine q_aload_n (pc' := 76) C 1 d_M_setSpeedLimit_75 rfl rfl ?_
        refine q_sipush (pc' := 79) C d_M_setSpeedLimit_76 ks_297 rfl ?_
        refine q_iload_n (pc' := 80) C 2 d_M_setSpeedLimit_79 rfl rfl ?_
        refine q_bipush (pc' := 82) C d_M_setSpeedLimit_80 kb_11 rfl ?_
        refine q_iload_n (pc' := 83) C 3 d_M_setSpeedLimit_82 rfl rfl ?_
        refine q_callVv (fr' := 0) (lo' := 0) (pc' := 86) C FM_sets lmM_500 d_M_setSpeedLimit_83 0 jM_0 kM_0 cM0 [.int (297 : Int32), .int p1, .int (11 : Int32), .int p2] [] rfl rfl (Nat.le_of_ble_eq_true rfl) ⟨rfl, rfl⟩ (fun x h => cM_sets _ g hi x5 (297 : Int32) p1 (11 : Int32) p2 x h) rfl (fun x7 _ => ?_)
        refine q_iload (pc' := 88) C 0 d_M_setSpeedLimit_86 rfl rfl ?_
        exact q_iret C rfl d_M_setSpeedLimit_88 rfl
      · refine q_ldcw (pc' := 58) C lcM_483 d_M_setSpeedLimit_55 rfl ?_
        exact q_iret C rfl d_M_setSpeedLimit_58 rfl
    refine q_if_ne (tgt := 43) (pc' := 32) C d_M_setSpeedLimit_29 rfl rfl ?_ ?_
    · exact Rt.sub [1, 2, 3, 0] rfl (hJ4 ())
    · refine q_iload_n (pc' := 33) C 3 d_M_setSpeedLimit_32 rfl rfl ?_
      refine q_sipush (pc' := 36) C d_M_setSpeedLimit_33 ks_999 rfl ?_
      refine q_icmp_eq (tgt := 43) (pc' := 39) C d_M_setSpeedLimit_36 rfl rfl ?_ ?_
      · exact Rt.sub [1, 2, 3, 0] rfl (hJ4 ())
      · refine q_ldcw (pc' := 42) C lcM_376 d_M_setSpeedLimit_39 rfl ?_
        exact q_iret C rfl d_M_setSpeedLimit_42 rfl
  · refine q_ldcw (pc' := 17) C lcM_493 d_M_setSpeedLimit_14 rfl ?_
    exact q_iret C rfl d_M_setSpeedLimit_17 rfl
theorem d_M_setFlyOver_0 : decode qM_setFlyOver.1 0 = .ok (.aload_n 0, 1) := by decide +kernel
theorem d_M_setFlyOver_1 : decode qM_setFlyOver.1 1 = .ok (.invokevirtual 490, 3) := by decide +kernel
theorem d_M_setFlyOver_4 : decode qM_setFlyOver.1 4 = .ok (.istore_n 3, 1) := by decide +kernel
theorem d_M_setFlyOver_5 : decode qM_setFlyOver.1 5 = .ok (.aload_n 0, 1) := by decide +kernel
theorem d_M_setFlyOver_6 : decode qM_setFlyOver.1 6 = .ok (.iload_n 3, 1) := by decide +kernel
theorem d_M_setFlyOver_7 : decode qM_setFlyOver.1 7 = .ok (.iload_n 1, 1) := by decide +kernel
theorem d_M_setFlyOver_8 : decode qM_setFlyOver.1 8 = .ok (.invokevirtual 503, 3) := by decide +kernel
theorem d_M_setFlyOver_11 : decode qM_setFlyOver.1 11 = .ok (.ifCond .ne 7, 3) := by decide +kernel
theorem d_M_setFlyOver_14 : decode qM_setFlyOver.1 14 = .ok (.ldc_w 493, 3) := by decide +kernel
theorem d_M_setFlyOver_17 : decode qM_setFlyOver.1 17 = .ok (.ireturn, 1) := by decide +kernel
theorem d_M_setFlyOver_18 : decode qM_setFlyOver.1 18 = .ok (.iload_n 1, 1) := by decide +kernel
theorem d_M_setFlyOver_19 : decode qM_setFlyOver.1 19 = .ok (.aload_n 0, 1) := by decide +kernel
theorem d_M_setFlyOver_20 : decode qM_setFlyOver.1 20 = .ok (.getfield 7, 3) := by decide +kernel
theorem d_M_setFlyOver_23 : decode qM_setFlyOver.1 23 = .ok (.iload_n 3, 1) := by decide +kernel
theorem d_M_setFlyOver_24 : decode qM_setFlyOver.1 24 = .ok (.iconst 1, 1) := by decide +kernel
theorem d_M_setFlyOver_25 : decode qM_setFlyOver.1 25 = .ok (.iadd, 1) := by decide +kernel
theorem d_M_setFlyOver_26 : decode qM_setFlyOver.1 26 = .ok (.iaload, 1) := by decide +kernel
theorem d_M_setFlyOver_27 : decode qM_setFlyOver.1 27 = .ok (.if_icmp .ge 7, 3) := by decide +kernel
theorem d_M_setFlyOver_30 : decode qM_setFlyOver.1 30 = .ok (.ldc_w 483, 3) := by decide +kernel
theorem d_M_setFlyOver_33 : decode qM_setFlyOver.1 33 = .ok (.ireturn, 1) := by decide +kernel
theorem d_M_setFlyOver_34 : decode qM_setFlyOver.1 34 = .ok (.aload_n 0, 1) := by decide +kernel
theorem d_M_setFlyOver_35 : decode qM_setFlyOver.1 35 = .ok (.invokevirtual 484, 3) := by decide +kernel
theorem d_M_setFlyOver_38 : decode qM_setFlyOver.1 38 = .ok (.aload_n 0, 1) := by decide +kernel
theorem d_M_setFlyOver_39 : decode qM_setFlyOver.1 39 = .ok (.sipush 297, 3) := by decide +kernel
theorem d_M_setFlyOver_42 : decode qM_setFlyOver.1 42 = .ok (.iload_n 1, 1) := by decide +kernel
theorem d_M_setFlyOver_43 : decode qM_setFlyOver.1 43 = .ok (.bipush 12, 2) := by decide +kernel
theorem d_M_setFlyOver_45 : decode qM_setFlyOver.1 45 = .ok (.invokevirtual 168, 3) := by decide +kernel
theorem d_M_setFlyOver_48 : decode qM_setFlyOver.1 48 = .ok (.istore 4, 2) := by decide +kernel
theorem d_M_setFlyOver_50 : decode qM_setFlyOver.1 50 = .ok (.aload_n 0, 1) := by decide +kernel
theorem d_M_setFlyOver_51 : decode qM_setFlyOver.1 51 = .ok (.sipush 297, 3) := by decide +kernel
theorem d_M_setFlyOver_54 : decode qM_setFlyOver.1 54 = .ok (.iload_n 1, 1) := by decide +kernel
theorem d_M_setFlyOver_55 : decode qM_setFlyOver.1 55 = .ok (.bipush 12, 2) := by decide +kernel
theorem d_M_setFlyOver_57 : decode qM_setFlyOver.1 57 = .ok (.iload_n 2, 1) := by decide +kernel
theorem d_M_setFlyOver_58 : decode qM_setFlyOver.1 58 = .ok (.ifCond .eq 7, 3) := by decide +kernel
theorem d_M_setFlyOver_61 : decode qM_setFlyOver.1 61 = .ok (.iconst 1, 1) := by decide +kernel
theorem d_M_setFlyOver_62 : decode qM_setFlyOver.1 62 = .ok (.goto 4, 3) := by decide +kernel
theorem d_M_setFlyOver_65 : decode qM_setFlyOver.1 65 = .ok (.iconst 0, 1) := by decide +kernel
theorem d_M_setFlyOver_66 : decode qM_setFlyOver.1 66 = .ok (.invokevirtual 500, 3) := by decide +kernel
theorem d_M_setFlyOver_69 : decode qM_setFlyOver.1 69 = .ok (.iload 4, 2) := by decide +kernel
theorem d_M_setFlyOver_71 : decode qM_setFlyOver.1 71 = .ok (.ireturn, 1) := by decide +kernel
set_option maxRecDepth 100000 in
def m_setFlyOver (σ : St) (p1 : Int32) (p2 : Int32) : Option (Int32 × St) :=
  Option.bind (m_edited σ) fun x1 =>
  Option.bind (m_isLeg σ x1 p1) fun x2 =>
  if (x2 : Int32) = 0 then (
  some ((-1000001 : Int32), σ)
  ) else (
  Gd (Ix (x1 + (1 : Int32)) 2673) <|
  if ((σ 1 (Int32.toNatClampNeg (x1 + (1 : Int32)))) : Int32) ≤ p1 then (
  Option.bind (m_begins σ) fun x3 =>
  Option.bind (m_of x3 (297 : Int32) p1 (12 : Int32)) fun x4 =>
  Jn (fun (x5 : Int32) =>
  Option.bind (m_sets x3 (297 : Int32) p1 (12 : Int32) x5) fun x7 =>
  some (x4, x7)
  ) fun J6 =>
  if (p2 : Int32) = 0 then (
  J6 (0 : Int32)
  ) else (
  J6 (1 : Int32)
  )
  ) else (
  some ((-1000003 : Int32), σ)
  )
  )
set_option maxHeartbeats 4000000 in
set_option maxRecDepth 100000 in
theorem cM_setFlyOver (l : Launch) (g : Ge) (hi : injB wM.2 g) (σ : St) (p1 : Int32) (p2 : Int32) (x : Int32 × St) (h : m_setFlyOver σ p1 p2 = some x) : Ct l wM g yM_setFlyOver qM_setFlyOver 2 47 [.ref (g.1 0), .int p1, .int p2] σ (some (.int x.1), x.2) := by
  refine Ct.of (out := o_w) FM_setFlyOver rfl hi rfl h (fun z hz C => ?_)
  clear h
  subst hz
  unfold m_setFlyOver
  show Rt z qM_setFlyOver wM g o_w 0 [(0, .ref (g.1 0)), (1, .int p1), (2, .int p2)] [] σ _
  refine q_aload_n (pc' := 1) C 0 d_M_setFlyOver_0 rfl rfl ?_
  refine q_callVr (fr' := 0) (lo' := 0) (pc' := 4) C FM_edited lmM_490 d_M_setFlyOver_1 0 jM_0 kM_0 cM0 [] [] rfl rfl (Nat.le_of_ble_eq_true rfl) ⟨rfl, rfl⟩ (fun x h => cM_edited _ g hi σ x h) rfl (fun x1 _ => ?_)
  refine q_istore_n (pc' := 5) (lv' := [(3, .int x1), (0, .ref (g.1 0)), (1, .int p1), (2, .int p2)]) C d_M_setFlyOver_4 (by decide) rfl rfl ?_
  refine q_aload_n (pc' := 6) C 1 d_M_setFlyOver_5 rfl rfl ?_
  refine q_iload_n (pc' := 7) C 0 d_M_setFlyOver_6 rfl rfl ?_
  refine q_iload_n (pc' := 8) C 2 d_M_setFlyOver_7 rfl rfl ?_
  refine q_callVr (fr' := 1) (lo' := 25) (pc' := 11) C FM_isLeg lmM_503 d_M_setFlyOver_8 0 jM_0 kM_0 cM0 [.int x1, .int p1] [] rfl rfl (Nat.le_of_ble_eq_true rfl) ⟨rfl, rfl⟩ (fun x h => cM_isLeg _ g hi σ x1 p1 x h) rfl (fun x2 _ => ?_)
  refine q_if_ne (tgt := 18) (pc' := 14) C d_M_setFlyOver_11 rfl rfl ?_ ?_
  · refine q_iload_n (pc' := 19) C 2 d_M_setFlyOver_18 rfl rfl ?_
    refine q_aload_n (pc' := 20) C 1 d_M_setFlyOver_19 rfl rfl ?_
    refine gM_7 (pc' := 23) C d_M_setFlyOver_20 rfl rfl ?_
    refine q_iload_n (pc' := 24) C 0 d_M_setFlyOver_23 rfl rfl ?_
    refine q_iconst (pc' := 25) C d_M_setFlyOver_24 ki_1 rfl ?_
    refine q_iadd (pc' := 26) C d_M_setFlyOver_25 rfl ?_
    refine q_iald (pc' := 27) C 1 jM_1 kM_1 d_M_setFlyOver_26 rfl ?_
    refine q_icmp_ge (tgt := 34) (pc' := 30) C d_M_setFlyOver_27 rfl rfl ?_ ?_
    · refine q_aload_n (pc' := 35) C 1 d_M_setFlyOver_34 rfl rfl ?_
      refine q_callVv (fr' := 1) (lo' := 23) (pc' := 38) C FM_begins lmM_484 d_M_setFlyOver_35 0 jM_0 kM_0 cM0 [] [] rfl rfl (Nat.le_of_ble_eq_true rfl) ⟨rfl, rfl⟩ (fun x h => cM_begins _ g hi σ x h) rfl (fun x3 _ => ?_)
      refine q_aload_n (pc' := 39) C 1 d_M_setFlyOver_38 rfl rfl ?_
      refine q_sipush (pc' := 42) C d_M_setFlyOver_39 ks_297 rfl ?_
      refine q_iload_n (pc' := 43) C 2 d_M_setFlyOver_42 rfl rfl ?_
      refine q_bipush (pc' := 45) C d_M_setFlyOver_43 kb_12 rfl ?_
      refine q_callVr (fr' := 0) (lo' := 0) (pc' := 48) C FM_of lmM_168 d_M_setFlyOver_45 0 jM_0 kM_0 cM0 [.int (297 : Int32), .int p1, .int (12 : Int32)] [] rfl rfl (Nat.le_of_ble_eq_true rfl) ⟨rfl, rfl⟩ (fun x h => cM_of _ g hi x3 (297 : Int32) p1 (12 : Int32) x h) rfl (fun x4 _ => ?_)
      refine q_istore (pc' := 50) (lv' := [(4, .int x4), (3, .int x1), (0, .ref (g.1 0)), (1, .int p1), (2, .int p2)]) C d_M_setFlyOver_48 (by decide) rfl rfl ?_
      refine q_aload_n (pc' := 51) C 2 d_M_setFlyOver_50 rfl rfl ?_
      refine q_sipush (pc' := 54) C d_M_setFlyOver_51 ks_297 rfl ?_
      refine q_iload_n (pc' := 55) C 3 d_M_setFlyOver_54 rfl rfl ?_
      refine q_bipush (pc' := 57) C d_M_setFlyOver_55 kb_12 rfl ?_
      refine q_iload_n (pc' := 58) C 4 d_M_setFlyOver_57 rfl rfl ?_
      refine q_join (fun J6 : Int32 → Option (Int32 × St) => ∀ (x5 : Int32), Rt z qM_setFlyOver wM g o_w 66 [(4, .int x4)] [.int x5, .int (12 : Int32), .int p1, .int (297 : Int32), .ref (g.1 0)] x3 (J6 x5)) (fun x5 => ?_) (fun J6 hJ6 => ?_)
      · refine q_callVv (fr' := 0) (lo' := 0) (pc' := 69) C FM_sets lmM_500 d_M_setFlyOver_66 0 jM_0 kM_0 cM0 [.int (297 : Int32), .int p1, .int (12 : Int32), .int x5] [] rfl rfl (Nat.le_of_ble_eq_true rfl) ⟨rfl, rfl⟩ (fun x h => cM_sets _ g hi x3 (297 : Int32) p1 (12 : Int32) x5 x h) rfl (fun x7 _ => ?_)
        refine q_iload (pc' := 71) C 0 d_M_setFlyOver_69 rfl rfl ?_
        exact q_iret C rfl d_M_setFlyOver_71 rfl
      refine q_if_eq (tgt := 65) (pc' := 61) C d_M_setFlyOver_58 rfl rfl ?_ ?_
      · refine q_iconst (pc' := 66) C d_M_setFlyOver_65 ki_0 rfl ?_
        exact Rt.sub [0] rfl (hJ6 (0 : Int32))
      · refine q_iconst (pc' := 62) C d_M_setFlyOver_61 ki_1 rfl ?_
        refine q_goto (tgt := 66) C d_M_setFlyOver_62 rfl ?_
        exact Rt.sub [0] rfl (hJ6 (1 : Int32))
    · refine q_ldcw (pc' := 33) C lcM_483 d_M_setFlyOver_30 rfl ?_
      exact q_iret C rfl d_M_setFlyOver_33 rfl
  · refine q_ldcw (pc' := 17) C lcM_493 d_M_setFlyOver_14 rfl ?_
    exact q_iret C rfl d_M_setFlyOver_17 rfl
theorem d_M_laysDirect_0 : decode qM_laysDirect.1 0 = .ok (.aload_n 0, 1) := by decide +kernel
theorem d_M_laysDirect_1 : decode qM_laysDirect.1 1 = .ok (.iload_n 1, 1) := by decide +kernel
theorem d_M_laysDirect_2 : decode qM_laysDirect.1 2 = .ok (.invokevirtual 218, 3) := by decide +kernel
theorem d_M_laysDirect_5 : decode qM_laysDirect.1 5 = .ok (.istore_n 3, 1) := by decide +kernel
theorem d_M_laysDirect_6 : decode qM_laysDirect.1 6 = .ok (.iload_n 2, 1) := by decide +kernel
theorem d_M_laysDirect_7 : decode qM_laysDirect.1 7 = .ok (.istore 4, 2) := by decide +kernel
theorem d_M_laysDirect_9 : decode qM_laysDirect.1 9 = .ok (.iload 4, 2) := by decide +kernel
theorem d_M_laysDirect_11 : decode qM_laysDirect.1 11 = .ok (.iload_n 3, 1) := by decide +kernel
theorem d_M_laysDirect_12 : decode qM_laysDirect.1 12 = .ok (.if_icmp .ge 25, 3) := by decide +kernel
theorem d_M_laysDirect_15 : decode qM_laysDirect.1 15 = .ok (.aload_n 0, 1) := by decide +kernel
theorem d_M_laysDirect_16 : decode qM_laysDirect.1 16 = .ok (.iload_n 1, 1) := by decide +kernel
theorem d_M_laysDirect_17 : decode qM_laysDirect.1 17 = .ok (.iload 4, 2) := by decide +kernel
theorem d_M_laysDirect_19 : decode qM_laysDirect.1 19 = .ok (.sipush 594, 3) := by decide +kernel
theorem d_M_laysDirect_22 : decode qM_laysDirect.1 22 = .ok (.iconst 1, 1) := by decide +kernel
theorem d_M_laysDirect_23 : decode qM_laysDirect.1 23 = .ok (.iload 4, 2) := by decide +kernel
theorem d_M_laysDirect_25 : decode qM_laysDirect.1 25 = .ok (.iadd, 1) := by decide +kernel
theorem d_M_laysDirect_26 : decode qM_laysDirect.1 26 = .ok (.iload_n 2, 1) := by decide +kernel
theorem d_M_laysDirect_27 : decode qM_laysDirect.1 27 = .ok (.isub, 1) := by decide +kernel
theorem d_M_laysDirect_28 : decode qM_laysDirect.1 28 = .ok (.invokevirtual 497, 3) := by decide +kernel
theorem d_M_laysDirect_31 : decode qM_laysDirect.1 31 = .ok (.iinc 4 1, 3) := by decide +kernel
theorem d_M_laysDirect_34 : decode qM_laysDirect.1 34 = .ok (.goto (-25), 3) := by decide +kernel
theorem d_M_laysDirect_37 : decode qM_laysDirect.1 37 = .ok (.aload_n 0, 1) := by decide +kernel
theorem d_M_laysDirect_38 : decode qM_laysDirect.1 38 = .ok (.getfield 7, 3) := by decide +kernel
theorem d_M_laysDirect_41 : decode qM_laysDirect.1 41 = .ok (.sipush 594, 3) := by decide +kernel
theorem d_M_laysDirect_44 : decode qM_laysDirect.1 44 = .ok (.iload_n 3, 1) := by decide +kernel
theorem d_M_laysDirect_45 : decode qM_laysDirect.1 45 = .ok (.iload_n 2, 1) := by decide +kernel
theorem d_M_laysDirect_46 : decode qM_laysDirect.1 46 = .ok (.isub, 1) := by decide +kernel
theorem d_M_laysDirect_47 : decode qM_laysDirect.1 47 = .ok (.iconst 1, 1) := by decide +kernel
theorem d_M_laysDirect_48 : decode qM_laysDirect.1 48 = .ok (.iadd, 1) := by decide +kernel
theorem d_M_laysDirect_49 : decode qM_laysDirect.1 49 = .ok (.iastore, 1) := by decide +kernel
theorem d_M_laysDirect_50 : decode qM_laysDirect.1 50 = .ok (.iconst 0, 1) := by decide +kernel
theorem d_M_laysDirect_51 : decode qM_laysDirect.1 51 = .ok (.istore 4, 2) := by decide +kernel
theorem d_M_laysDirect_53 : decode qM_laysDirect.1 53 = .ok (.iload 4, 2) := by decide +kernel
theorem d_M_laysDirect_55 : decode qM_laysDirect.1 55 = .ok (.bipush 14, 2) := by decide +kernel
theorem d_M_laysDirect_57 : decode qM_laysDirect.1 57 = .ok (.if_icmp .ge 20, 3) := by decide +kernel
theorem d_M_laysDirect_60 : decode qM_laysDirect.1 60 = .ok (.aload_n 0, 1) := by decide +kernel
theorem d_M_laysDirect_61 : decode qM_laysDirect.1 61 = .ok (.sipush 594, 3) := by decide +kernel
theorem d_M_laysDirect_64 : decode qM_laysDirect.1 64 = .ok (.iconst 0, 1) := by decide +kernel
theorem d_M_laysDirect_65 : decode qM_laysDirect.1 65 = .ok (.iload 4, 2) := by decide +kernel
theorem d_M_laysDirect_67 : decode qM_laysDirect.1 67 = .ok (.iconst 0, 1) := by decide +kernel
theorem d_M_laysDirect_68 : decode qM_laysDirect.1 68 = .ok (.invokevirtual 500, 3) := by decide +kernel
theorem d_M_laysDirect_71 : decode qM_laysDirect.1 71 = .ok (.iinc 4 1, 3) := by decide +kernel
theorem d_M_laysDirect_74 : decode qM_laysDirect.1 74 = .ok (.goto (-21), 3) := by decide +kernel
theorem d_M_laysDirect_77 : decode qM_laysDirect.1 77 = .ok (.aload_n 0, 1) := by decide +kernel
theorem d_M_laysDirect_78 : decode qM_laysDirect.1 78 = .ok (.sipush 594, 3) := by decide +kernel
theorem d_M_laysDirect_81 : decode qM_laysDirect.1 81 = .ok (.iconst 0, 1) := by decide +kernel
theorem d_M_laysDirect_82 : decode qM_laysDirect.1 82 = .ok (.iconst 0, 1) := by decide +kernel
theorem d_M_laysDirect_83 : decode qM_laysDirect.1 83 = .ok (.bipush 8, 2) := by decide +kernel
theorem d_M_laysDirect_85 : decode qM_laysDirect.1 85 = .ok (.invokevirtual 500, 3) := by decide +kernel
theorem d_M_laysDirect_88 : decode qM_laysDirect.1 88 = .ok (.aload_n 0, 1) := by decide +kernel
theorem d_M_laysDirect_89 : decode qM_laysDirect.1 89 = .ok (.sipush 594, 3) := by decide +kernel
theorem d_M_laysDirect_92 : decode qM_laysDirect.1 92 = .ok (.iconst 0, 1) := by decide +kernel
theorem d_M_laysDirect_93 : decode qM_laysDirect.1 93 = .ok (.iconst 2, 1) := by decide +kernel
theorem d_M_laysDirect_94 : decode qM_laysDirect.1 94 = .ok (.aload_n 0, 1) := by decide +kernel
theorem d_M_laysDirect_95 : decode qM_laysDirect.1 95 = .ok (.getfield 371, 3) := by decide +kernel
theorem d_M_laysDirect_98 : decode qM_laysDirect.1 98 = .ok (.invokevirtual 500, 3) := by decide +kernel
theorem d_M_laysDirect_101 : decode qM_laysDirect.1 101 = .ok (.aload_n 0, 1) := by decide +kernel
theorem d_M_laysDirect_102 : decode qM_laysDirect.1 102 = .ok (.sipush 594, 3) := by decide +kernel
theorem d_M_laysDirect_105 : decode qM_laysDirect.1 105 = .ok (.iconst 0, 1) := by decide +kernel
theorem d_M_laysDirect_106 : decode qM_laysDirect.1 106 = .ok (.bipush 7, 2) := by decide +kernel
theorem d_M_laysDirect_108 : decode qM_laysDirect.1 108 = .ok (.aload_n 0, 1) := by decide +kernel
theorem d_M_laysDirect_109 : decode qM_laysDirect.1 109 = .ok (.getfield 365, 3) := by decide +kernel
theorem d_M_laysDirect_112 : decode qM_laysDirect.1 112 = .ok (.invokevirtual 500, 3) := by decide +kernel
theorem d_M_laysDirect_115 : decode qM_laysDirect.1 115 = .ok (.aload_n 0, 1) := by decide +kernel
theorem d_M_laysDirect_116 : decode qM_laysDirect.1 116 = .ok (.sipush 594, 3) := by decide +kernel
theorem d_M_laysDirect_119 : decode qM_laysDirect.1 119 = .ok (.iconst 0, 1) := by decide +kernel
theorem d_M_laysDirect_120 : decode qM_laysDirect.1 120 = .ok (.bipush 8, 2) := by decide +kernel
theorem d_M_laysDirect_122 : decode qM_laysDirect.1 122 = .ok (.aload_n 0, 1) := by decide +kernel
theorem d_M_laysDirect_123 : decode qM_laysDirect.1 123 = .ok (.getfield 368, 3) := by decide +kernel
theorem d_M_laysDirect_126 : decode qM_laysDirect.1 126 = .ok (.invokevirtual 500, 3) := by decide +kernel
theorem d_M_laysDirect_129 : decode qM_laysDirect.1 129 = .ok (.aload_n 0, 1) := by decide +kernel
theorem d_M_laysDirect_130 : decode qM_laysDirect.1 130 = .ok (.sipush 594, 3) := by decide +kernel
theorem d_M_laysDirect_133 : decode qM_laysDirect.1 133 = .ok (.iconst 0, 1) := by decide +kernel
theorem d_M_laysDirect_134 : decode qM_laysDirect.1 134 = .ok (.bipush 10, 2) := by decide +kernel
theorem d_M_laysDirect_136 : decode qM_laysDirect.1 136 = .ok (.sipush 450, 3) := by decide +kernel
theorem d_M_laysDirect_139 : decode qM_laysDirect.1 139 = .ok (.invokevirtual 500, 3) := by decide +kernel
theorem d_M_laysDirect_142 : decode qM_laysDirect.1 142 = .ok (.aload_n 0, 1) := by decide +kernel
theorem d_M_laysDirect_143 : decode qM_laysDirect.1 143 = .ok (.sipush 594, 3) := by decide +kernel
theorem d_M_laysDirect_146 : decode qM_laysDirect.1 146 = .ok (.iconst 0, 1) := by decide +kernel
theorem d_M_laysDirect_147 : decode qM_laysDirect.1 147 = .ok (.bipush 11, 2) := by decide +kernel
theorem d_M_laysDirect_149 : decode qM_laysDirect.1 149 = .ok (.sipush 999, 3) := by decide +kernel
theorem d_M_laysDirect_152 : decode qM_laysDirect.1 152 = .ok (.invokevirtual 500, 3) := by decide +kernel
theorem d_M_laysDirect_155 : decode qM_laysDirect.1 155 = .ok (.aload_n 0, 1) := by decide +kernel
theorem d_M_laysDirect_156 : decode qM_laysDirect.1 156 = .ok (.sipush 594, 3) := by decide +kernel
theorem d_M_laysDirect_159 : decode qM_laysDirect.1 159 = .ok (.iconst 1, 1) := by decide +kernel
theorem d_M_laysDirect_160 : decode qM_laysDirect.1 160 = .ok (.bipush 13, 2) := by decide +kernel
theorem d_M_laysDirect_162 : decode qM_laysDirect.1 162 = .ok (.iconst 0, 1) := by decide +kernel
theorem d_M_laysDirect_163 : decode qM_laysDirect.1 163 = .ok (.invokevirtual 500, 3) := by decide +kernel
theorem d_M_laysDirect_166 : decode qM_laysDirect.1 166 = .ok (.aload_n 0, 1) := by decide +kernel
theorem d_M_laysDirect_167 : decode qM_laysDirect.1 167 = .ok (.sipush 594, 3) := by decide +kernel
theorem d_M_laysDirect_170 : decode qM_laysDirect.1 170 = .ok (.iconst 1, 1) := by decide +kernel
theorem d_M_laysDirect_171 : decode qM_laysDirect.1 171 = .ok (.iconst 0, 1) := by decide +kernel
theorem d_M_laysDirect_172 : decode qM_laysDirect.1 172 = .ok (.invokevirtual 168, 3) := by decide +kernel
theorem d_M_laysDirect_175 : decode qM_laysDirect.1 175 = .ok (.bipush 7, 2) := by decide +kernel
theorem d_M_laysDirect_177 : decode qM_laysDirect.1 177 = .ok (.if_icmp .eq 13, 3) := by decide +kernel
theorem d_M_laysDirect_180 : decode qM_laysDirect.1 180 = .ok (.aload_n 0, 1) := by decide +kernel
theorem d_M_laysDirect_181 : decode qM_laysDirect.1 181 = .ok (.sipush 594, 3) := by decide +kernel
theorem d_M_laysDirect_184 : decode qM_laysDirect.1 184 = .ok (.iconst 1, 1) := by decide +kernel
theorem d_M_laysDirect_185 : decode qM_laysDirect.1 185 = .ok (.iconst 0, 1) := by decide +kernel
theorem d_M_laysDirect_186 : decode qM_laysDirect.1 186 = .ok (.iconst 2, 1) := by decide +kernel
theorem d_M_laysDirect_187 : decode qM_laysDirect.1 187 = .ok (.invokevirtual 500, 3) := by decide +kernel
theorem d_M_laysDirect_190 : decode qM_laysDirect.1 190 = .ok (.return_, 1) := by decide +kernel
set_option maxRecDepth 100000 in
def lb_m_laysDirect_53 (J6 : St → Option (St)) (ih19 : Int32 × St → Option (St)) (a18 : Int32 × St) : Option (St) :=
  if ((14 : Int32) : Int32) ≤ a18.1 then (
  J6 a18.2
  ) else (
  Option.bind (m_sets a18.2 (594 : Int32) (0 : Int32) a18.1 (0 : Int32)) fun x20 =>
  Lt (a18.1 + (1 : Int32) : Int32) fun x21 =>
  ih19 (x21, x20)
  )
set_option maxRecDepth 100000 in
def lb_m_laysDirect_9 (p1 : Int32) (p2 : Int32) (x1 : Int32) (J3 : St → Option (St)) (ih23 : Int32 × St → Option (St)) (a22 : Int32 × St) : Option (St) :=
  if (x1 : Int32) ≤ a22.1 then (
  J3 a22.2
  ) else (
  Option.bind (m_copyLeg a22.2 p1 a22.1 (594 : Int32) (((1 : Int32) + a22.1) - p2)) fun x24 =>
  Lt (a22.1 + (1 : Int32) : Int32) fun x25 =>
  ih23 (x25, x24)
  )
set_option maxRecDepth 100000 in
def m_laysDirect (σ : St) (p1 : Int32) (p2 : Int32) : Option (St) :=
  Option.bind (m_count σ p1) fun x1 =>
  Jn (fun (σ2 : St) =>
  Gd (Ix (594 : Int32) 2673) <|
  Lt (s2 σ2 1 (Int32.toNatClampNeg (594 : Int32)) ((x1 - p2) + (1 : Int32))) fun σ4 =>
  Jn (fun (σ5 : St) =>
  Option.bind (m_sets σ5 (594 : Int32) (0 : Int32) (0 : Int32) (8 : Int32)) fun x7 =>
  Option.bind (m_sets x7 (594 : Int32) (0 : Int32) (2 : Int32) (x7 0 66)) fun x8 =>
  Option.bind (m_sets x8 (594 : Int32) (0 : Int32) (7 : Int32) (x8 0 64)) fun x9 =>
  Option.bind (m_sets x9 (594 : Int32) (0 : Int32) (8 : Int32) (x9 0 65)) fun x10 =>
  Option.bind (m_sets x10 (594 : Int32) (0 : Int32) (10 : Int32) (450 : Int32)) fun x11 =>
  Option.bind (m_sets x11 (594 : Int32) (0 : Int32) (11 : Int32) (999 : Int32)) fun x12 =>
  Option.bind (m_sets x12 (594 : Int32) (1 : Int32) (13 : Int32) (0 : Int32)) fun x13 =>
  Option.bind (m_of x13 (594 : Int32) (1 : Int32) (0 : Int32)) fun x14 =>
  Jn (fun (σ15 : St) =>
  some σ15
  ) fun J16 =>
  if (x14 : Int32) = (7 : Int32) then (
  J16 x13
  ) else (
  Option.bind (m_sets x13 (594 : Int32) (1 : Int32) (0 : Int32) (2 : Int32)) fun x17 =>
  J16 x17
  )
  ) fun J6 =>
  lp (lb_m_laysDirect_53 J6) 4000 ((0 : Int32), σ4)
  ) fun J3 =>
  lp (lb_m_laysDirect_9 p1 p2 x1 J3) 4000 (p2, σ)
set_option maxHeartbeats 4000000 in
set_option maxRecDepth 100000 in
theorem cM_laysDirect (l : Launch) (g : Ge) (hi : injB wM.2 g) (σ : St) (p1 : Int32) (p2 : Int32) (x : St) (h : m_laysDirect σ p1 p2 = some x) : Ct l wM g yM_laysDirect qM_laysDirect 1 25 [.ref (g.1 0), .int p1, .int p2] σ (none, x) := by
  refine Ct.of (out := o_v) FM_laysDirect rfl hi rfl h (fun z hz C => ?_)
  clear h
  subst hz
  unfold m_laysDirect
  show Rt z qM_laysDirect wM g o_v 0 [(0, .ref (g.1 0)), (1, .int p1), (2, .int p2)] [] σ _
  refine q_aload_n (pc' := 1) C 0 d_M_laysDirect_0 rfl rfl ?_
  refine q_iload_n (pc' := 2) C 1 d_M_laysDirect_1 rfl rfl ?_
  refine q_callVr (fr' := 0) (lo' := 0) (pc' := 5) C FM_count lmM_218 d_M_laysDirect_2 0 jM_0 kM_0 cM0 [.int p1] [] rfl rfl (Nat.le_of_ble_eq_true rfl) ⟨rfl, rfl⟩ (fun x h => cM_count _ g hi σ p1 x h) rfl (fun x1 _ => ?_)
  refine q_istore_n (pc' := 6) (lv' := [(3, .int x1), (0, .ref (g.1 0)), (1, .int p1), (2, .int p2)]) C d_M_laysDirect_5 (by decide) rfl rfl ?_
  refine q_iload_n (pc' := 7) C 3 d_M_laysDirect_6 rfl rfl ?_
  refine q_istore (pc' := 9) (lv' := [(4, .int p2), (3, .int x1), (0, .ref (g.1 0)), (1, .int p1), (2, .int p2)]) C d_M_laysDirect_7 (by decide) rfl rfl ?_
  refine q_join (fun J3 : St → Option (St) => ∀ (σ2 : St), Rt z qM_laysDirect wM g o_v 37 [(0, .ref (g.1 0)), (2, .int p2), (3, .int x1)] [] σ2 (J3 σ2)) (fun σ2 => ?_) (fun J3 hJ3 => ?_)
  · refine q_aload_n (pc' := 38) C 0 d_M_laysDirect_37 rfl rfl ?_
    refine gM_7 (pc' := 41) C d_M_laysDirect_38 rfl rfl ?_
    refine q_sipush (pc' := 44) C d_M_laysDirect_41 ks_594 rfl ?_
    refine q_iload_n (pc' := 45) C 2 d_M_laysDirect_44 rfl rfl ?_
    refine q_iload_n (pc' := 46) C 1 d_M_laysDirect_45 rfl rfl ?_
    refine q_isub (pc' := 47) C d_M_laysDirect_46 rfl ?_
    refine q_iconst (pc' := 48) C d_M_laysDirect_47 ki_1 rfl ?_
    refine q_iadd (pc' := 49) C d_M_laysDirect_48 rfl ?_
    refine q_iast (pc' := 50) C 1 jM_1 kM_1 d_M_laysDirect_49 rfl ?_
    refine q_let (fun σ4 e4 => ?_)
    refine q_state e4 ?_
    refine q_iconst (pc' := 51) C d_M_laysDirect_50 ki_0 rfl ?_
    refine q_istore (pc' := 53) (lv' := [(4, .int (0 : Int32)), (0, .ref (g.1 0)), (2, .int p2), (3, .int x1)]) C d_M_laysDirect_51 (by decide) rfl rfl ?_
    refine q_join (fun J6 : St → Option (St) => ∀ (σ5 : St), Rt z qM_laysDirect wM g o_v 77 [(0, .ref (g.1 0))] [] σ5 (J6 σ5)) (fun σ5 => ?_) (fun J6 hJ6 => ?_)
    · refine q_aload_n (pc' := 78) C 0 d_M_laysDirect_77 rfl rfl ?_
      refine q_sipush (pc' := 81) C d_M_laysDirect_78 ks_594 rfl ?_
      refine q_iconst (pc' := 82) C d_M_laysDirect_81 ki_0 rfl ?_
      refine q_iconst (pc' := 83) C d_M_laysDirect_82 ki_0 rfl ?_
      refine q_bipush (pc' := 85) C d_M_laysDirect_83 kb_8 rfl ?_
      refine q_callVv (fr' := 0) (lo' := 0) (pc' := 88) C FM_sets lmM_500 d_M_laysDirect_85 0 jM_0 kM_0 cM0 [.int (594 : Int32), .int (0 : Int32), .int (0 : Int32), .int (8 : Int32)] [] rfl rfl (Nat.le_of_ble_eq_true rfl) ⟨rfl, rfl⟩ (fun x h => cM_sets _ g hi σ5 (594 : Int32) (0 : Int32) (0 : Int32) (8 : Int32) x h) rfl (fun x7 _ => ?_)
      refine q_aload_n (pc' := 89) C 0 d_M_laysDirect_88 rfl rfl ?_
      refine q_sipush (pc' := 92) C d_M_laysDirect_89 ks_594 rfl ?_
      refine q_iconst (pc' := 93) C d_M_laysDirect_92 ki_0 rfl ?_
      refine q_iconst (pc' := 94) C d_M_laysDirect_93 ki_2 rfl ?_
      refine q_aload_n (pc' := 95) C 0 d_M_laysDirect_94 rfl rfl ?_
      refine gM_371 (pc' := 98) C d_M_laysDirect_95 rfl rfl ?_
      refine q_callVv (fr' := 0) (lo' := 0) (pc' := 101) C FM_sets lmM_500 d_M_laysDirect_98 0 jM_0 kM_0 cM0 [.int (594 : Int32), .int (0 : Int32), .int (2 : Int32), .int (x7 0 66)] [] rfl rfl (Nat.le_of_ble_eq_true rfl) ⟨rfl, rfl⟩ (fun x h => cM_sets _ g hi x7 (594 : Int32) (0 : Int32) (2 : Int32) (x7 0 66) x h) rfl (fun x8 _ => ?_)
      refine q_aload_n (pc' := 102) C 0 d_M_laysDirect_101 rfl rfl ?_
      refine q_sipush (pc' := 105) C d_M_laysDirect_102 ks_594 rfl ?_
      refine q_iconst (pc' := 106) C d_M_laysDirect_105 ki_0 rfl ?_
      refine q_bipush (pc' := 108) C d_M_laysDirect_106 kb_7 rfl ?_
      refine q_aload_n (pc' := 109) C 0 d_M_laysDirect_108 rfl rfl ?_
      refine gM_365 (pc' := 112) C d_M_laysDirect_109 rfl rfl ?_
      refine q_callVv (fr' := 0) (lo' := 0) (pc' := 115) C FM_sets lmM_500 d_M_laysDirect_112 0 jM_0 kM_0 cM0 [.int (594 : Int32), .int (0 : Int32), .int (7 : Int32), .int (x8 0 64)] [] rfl rfl (Nat.le_of_ble_eq_true rfl) ⟨rfl, rfl⟩ (fun x h => cM_sets _ g hi x8 (594 : Int32) (0 : Int32) (7 : Int32) (x8 0 64) x h) rfl (fun x9 _ => ?_)
      refine q_aload_n (pc' := 116) C 0 d_M_laysDirect_115 rfl rfl ?_
      refine q_sipush (pc' := 119) C d_M_laysDirect_116 ks_594 rfl ?_
      refine q_iconst (pc' := 120) C d_M_laysDirect_119 ki_0 rfl ?_
      refine q_bipush (pc' := 122) C d_M_laysDirect_120 kb_8 rfl ?_
      refine q_aload_n (pc' := 123) C 0 d_M_laysDirect_122 rfl rfl ?_
      refine gM_368 (pc' := 126) C d_M_laysDirect_123 rfl rfl ?_
      refine q_callVv (fr' := 0) (lo' := 0) (pc' := 129) C FM_sets lmM_500 d_M_laysDirect_126 0 jM_0 kM_0 cM0 [.int (594 : Int32), .int (0 : Int32), .int (8 : Int32), .int (x9 0 65)] [] rfl rfl (Nat.le_of_ble_eq_true rfl) ⟨rfl, rfl⟩ (fun x h => cM_sets _ g hi x9 (594 : Int32) (0 : Int32) (8 : Int32) (x9 0 65) x h) rfl (fun x10 _ => ?_)
      refine q_aload_n (pc' := 130) C 0 d_M_laysDirect_129 rfl rfl ?_
      refine q_sipush (pc' := 133) C d_M_laysDirect_130 ks_594 rfl ?_
      refine q_iconst (pc' := 134) C d_M_laysDirect_133 ki_0 rfl ?_
      refine q_bipush (pc' := 136) C d_M_laysDirect_134 kb_10 rfl ?_
      refine q_sipush (pc' := 139) C d_M_laysDirect_136 ks_450 rfl ?_
      refine q_callVv (fr' := 0) (lo' := 0) (pc' := 142) C FM_sets lmM_500 d_M_laysDirect_139 0 jM_0 kM_0 cM0 [.int (594 : Int32), .int (0 : Int32), .int (10 : Int32), .int (450 : Int32)] [] rfl rfl (Nat.le_of_ble_eq_true rfl) ⟨rfl, rfl⟩ (fun x h => cM_sets _ g hi x10 (594 : Int32) (0 : Int32) (10 : Int32) (450 : Int32) x h) rfl (fun x11 _ => ?_)
      refine q_aload_n (pc' := 143) C 0 d_M_laysDirect_142 rfl rfl ?_
      refine q_sipush (pc' := 146) C d_M_laysDirect_143 ks_594 rfl ?_
      refine q_iconst (pc' := 147) C d_M_laysDirect_146 ki_0 rfl ?_
      refine q_bipush (pc' := 149) C d_M_laysDirect_147 kb_11 rfl ?_
      refine q_sipush (pc' := 152) C d_M_laysDirect_149 ks_999 rfl ?_
      refine q_callVv (fr' := 0) (lo' := 0) (pc' := 155) C FM_sets lmM_500 d_M_laysDirect_152 0 jM_0 kM_0 cM0 [.int (594 : Int32), .int (0 : Int32), .int (11 : Int32), .int (999 : Int32)] [] rfl rfl (Nat.le_of_ble_eq_true rfl) ⟨rfl, rfl⟩ (fun x h => cM_sets _ g hi x11 (594 : Int32) (0 : Int32) (11 : Int32) (999 : Int32) x h) rfl (fun x12 _ => ?_)
      refine q_aload_n (pc' := 156) C 0 d_M_laysDirect_155 rfl rfl ?_
      refine q_sipush (pc' := 159) C d_M_laysDirect_156 ks_594 rfl ?_
      refine q_iconst (pc' := 160) C d_M_laysDirect_159 ki_1 rfl ?_
      refine q_bipush (pc' := 162) C d_M_laysDirect_160 kb_13 rfl ?_
      refine q_iconst (pc' := 163) C d_M_laysDirect_162 ki_0 rfl ?_
      refine q_callVv (fr' := 0) (lo' := 0) (pc' := 166) C FM_sets lmM_500 d_M_laysDirect_163 0 jM_0 kM_0 cM0 [.int (594 : Int32), .int (1 : Int32), .int (13 : Int32), .int (0 : Int32)] [] rfl rfl (Nat.le_of_ble_eq_true rfl) ⟨rfl, rfl⟩ (fun x h => cM_sets _ g hi x12 (594 : Int32) (1 : Int32) (13 : Int32) (0 : Int32) x h) rfl (fun x13 _ => ?_)
      refine q_aload_n (pc' := 167) C 0 d_M_laysDirect_166 rfl rfl ?_
      refine q_sipush (pc' := 170) C d_M_laysDirect_167 ks_594 rfl ?_
      refine q_iconst (pc' := 171) C d_M_laysDirect_170 ki_1 rfl ?_
      refine q_iconst (pc' := 172) C d_M_laysDirect_171 ki_0 rfl ?_
      refine q_callVr (fr' := 0) (lo' := 0) (pc' := 175) C FM_of lmM_168 d_M_laysDirect_172 0 jM_0 kM_0 cM0 [.int (594 : Int32), .int (1 : Int32), .int (0 : Int32)] [] rfl rfl (Nat.le_of_ble_eq_true rfl) ⟨rfl, rfl⟩ (fun x h => cM_of _ g hi x13 (594 : Int32) (1 : Int32) (0 : Int32) x h) rfl (fun x14 _ => ?_)
      refine q_bipush (pc' := 177) C d_M_laysDirect_175 kb_7 rfl ?_
      refine q_join (fun J16 : St → Option (St) => ∀ (σ15 : St), Rt z qM_laysDirect wM g o_v 190 [] [] σ15 (J16 σ15)) (fun σ15 => ?_) (fun J16 hJ16 => ?_)
      · exact q_vret C rfl d_M_laysDirect_190 rfl
      refine q_icmp_eq (tgt := 190) (pc' := 180) C d_M_laysDirect_177 rfl rfl ?_ ?_
      · exact Rt.sub [] rfl (hJ16 x13)
      · refine q_aload_n (pc' := 181) C 0 d_M_laysDirect_180 rfl rfl ?_
        refine q_sipush (pc' := 184) C d_M_laysDirect_181 ks_594 rfl ?_
        refine q_iconst (pc' := 185) C d_M_laysDirect_184 ki_1 rfl ?_
        refine q_iconst (pc' := 186) C d_M_laysDirect_185 ki_0 rfl ?_
        refine q_iconst (pc' := 187) C d_M_laysDirect_186 ki_2 rfl ?_
        refine q_callVv (fr' := 0) (lo' := 0) (pc' := 190) C FM_sets lmM_500 d_M_laysDirect_187 0 jM_0 kM_0 cM0 [.int (594 : Int32), .int (1 : Int32), .int (0 : Int32), .int (2 : Int32)] [] rfl rfl (Nat.le_of_ble_eq_true rfl) ⟨rfl, rfl⟩ (fun x h => cM_sets _ g hi x13 (594 : Int32) (1 : Int32) (0 : Int32) (2 : Int32) x h) rfl (fun x17 _ => ?_)
        exact Rt.sub [] rfl (hJ16 x17)
    refine Rt.sub [1, 0] rfl (q_lp (fun a18 : Int32 × St => [(0, .ref (g.1 0)), (4, .int a18.1)]) (fun a18 => []) (fun a18 => a18.2) (fun ih19 hih19 a18 => ?_) 4000 ((0 : Int32), σ4))
    unfold lb_m_laysDirect_53
    refine q_iload (pc' := 55) C 1 d_M_laysDirect_53 rfl rfl ?_
    refine q_bipush (pc' := 57) C d_M_laysDirect_55 kb_14 rfl ?_
    refine q_icmp_ge (tgt := 77) (pc' := 60) C d_M_laysDirect_57 rfl rfl ?_ ?_
    · exact Rt.sub [0] rfl (hJ6 a18.2)
    · refine q_aload_n (pc' := 61) C 0 d_M_laysDirect_60 rfl rfl ?_
      refine q_sipush (pc' := 64) C d_M_laysDirect_61 ks_594 rfl ?_
      refine q_iconst (pc' := 65) C d_M_laysDirect_64 ki_0 rfl ?_
      refine q_iload (pc' := 67) C 1 d_M_laysDirect_65 rfl rfl ?_
      refine q_iconst (pc' := 68) C d_M_laysDirect_67 ki_0 rfl ?_
      refine q_callVv (fr' := 0) (lo' := 0) (pc' := 71) C FM_sets lmM_500 d_M_laysDirect_68 0 jM_0 kM_0 cM0 [.int (594 : Int32), .int (0 : Int32), .int a18.1, .int (0 : Int32)] [] rfl rfl (Nat.le_of_ble_eq_true rfl) ⟨rfl, rfl⟩ (fun x h => cM_sets _ g hi a18.2 (594 : Int32) (0 : Int32) a18.1 (0 : Int32) x h) rfl (fun x20 _ => ?_)
      refine q_let (fun x21 e21 => ?_)
      refine q_iinc (pc' := 74) (lv' := [(4, .int x21), (0, .ref (g.1 0))]) C 1 d_M_laysDirect_71 rfl (by rw [e21, ki_1]) (by decide) rfl rfl ?_
      refine q_goto (tgt := 53) C d_M_laysDirect_74 rfl ?_
      exact Rt.sub [1, 0] rfl (hih19 (x21, x20))
  refine Rt.sub [2, 3, 4, 1, 0] rfl (q_lp (fun a22 : Int32 × St => [(0, .ref (g.1 0)), (1, .int p1), (2, .int p2), (3, .int x1), (4, .int a22.1)]) (fun a22 => []) (fun a22 => a22.2) (fun ih23 hih23 a22 => ?_) 4000 (p2, σ))
  unfold lb_m_laysDirect_9
  refine q_iload (pc' := 11) C 4 d_M_laysDirect_9 rfl rfl ?_
  refine q_iload_n (pc' := 12) C 3 d_M_laysDirect_11 rfl rfl ?_
  refine q_icmp_ge (tgt := 37) (pc' := 15) C d_M_laysDirect_12 rfl rfl ?_ ?_
  · exact Rt.sub [0, 2, 3] rfl (hJ3 a22.2)
  · refine q_aload_n (pc' := 16) C 0 d_M_laysDirect_15 rfl rfl ?_
    refine q_iload_n (pc' := 17) C 1 d_M_laysDirect_16 rfl rfl ?_
    refine q_iload (pc' := 19) C 4 d_M_laysDirect_17 rfl rfl ?_
    refine q_sipush (pc' := 22) C d_M_laysDirect_19 ks_594 rfl ?_
    refine q_iconst (pc' := 23) C d_M_laysDirect_22 ki_1 rfl ?_
    refine q_iload (pc' := 25) C 4 d_M_laysDirect_23 rfl rfl ?_
    refine q_iadd (pc' := 26) C d_M_laysDirect_25 rfl ?_
    refine q_iload_n (pc' := 27) C 2 d_M_laysDirect_26 rfl rfl ?_
    refine q_isub (pc' := 28) C d_M_laysDirect_27 rfl ?_
    refine q_callVv (fr' := 0) (lo' := 0) (pc' := 31) C FM_copyLeg lmM_497 d_M_laysDirect_28 0 jM_0 kM_0 cM0 [.int p1, .int a22.1, .int (594 : Int32), .int (((1 : Int32) + a22.1) - p2)] [] rfl rfl (Nat.le_of_ble_eq_true rfl) ⟨rfl, rfl⟩ (fun x h => cM_copyLeg _ g hi a22.2 p1 a22.1 (594 : Int32) (((1 : Int32) + a22.1) - p2) x h) rfl (fun x24 _ => ?_)
    refine q_let (fun x25 e25 => ?_)
    refine q_iinc (pc' := 34) (lv' := [(4, .int x25), (0, .ref (g.1 0)), (1, .int p1), (2, .int p2), (3, .int x1)]) C 4 d_M_laysDirect_31 rfl (by rw [e25, ki_1]) (by decide) rfl rfl ?_
    refine q_goto (tgt := 9) C d_M_laysDirect_34 rfl ?_
    exact Rt.sub [1, 2, 3, 4, 0] rfl (hih23 (x25, x24))
theorem d_M_directTo_0 : decode qM_directTo.1 0 = .ok (.aload_n 0, 1) := by decide +kernel
theorem d_M_directTo_1 : decode qM_directTo.1 1 = .ok (.invokevirtual 490, 3) := by decide +kernel
theorem d_M_directTo_4 : decode qM_directTo.1 4 = .ok (.istore_n 2, 1) := by decide +kernel
theorem d_M_directTo_5 : decode qM_directTo.1 5 = .ok (.aload_n 0, 1) := by decide +kernel
theorem d_M_directTo_6 : decode qM_directTo.1 6 = .ok (.iload_n 2, 1) := by decide +kernel
theorem d_M_directTo_7 : decode qM_directTo.1 7 = .ok (.iload_n 1, 1) := by decide +kernel
theorem d_M_directTo_8 : decode qM_directTo.1 8 = .ok (.invokevirtual 503, 3) := by decide +kernel
theorem d_M_directTo_11 : decode qM_directTo.1 11 = .ok (.ifCond .ne 7, 3) := by decide +kernel
theorem d_M_directTo_14 : decode qM_directTo.1 14 = .ok (.ldc_w 493, 3) := by decide +kernel
theorem d_M_directTo_17 : decode qM_directTo.1 17 = .ok (.ireturn, 1) := by decide +kernel
theorem d_M_directTo_18 : decode qM_directTo.1 18 = .ok (.iload_n 1, 1) := by decide +kernel
theorem d_M_directTo_19 : decode qM_directTo.1 19 = .ok (.aload_n 0, 1) := by decide +kernel
theorem d_M_directTo_20 : decode qM_directTo.1 20 = .ok (.getfield 7, 3) := by decide +kernel
theorem d_M_directTo_23 : decode qM_directTo.1 23 = .ok (.iload_n 2, 1) := by decide +kernel
theorem d_M_directTo_24 : decode qM_directTo.1 24 = .ok (.iconst 1, 1) := by decide +kernel
theorem d_M_directTo_25 : decode qM_directTo.1 25 = .ok (.iadd, 1) := by decide +kernel
theorem d_M_directTo_26 : decode qM_directTo.1 26 = .ok (.iaload, 1) := by decide +kernel
theorem d_M_directTo_27 : decode qM_directTo.1 27 = .ok (.if_icmp .lt 23, 3) := by decide +kernel
theorem d_M_directTo_30 : decode qM_directTo.1 30 = .ok (.aload_n 0, 1) := by decide +kernel
theorem d_M_directTo_31 : decode qM_directTo.1 31 = .ok (.iload_n 2, 1) := by decide +kernel
theorem d_M_directTo_32 : decode qM_directTo.1 32 = .ok (.iload_n 1, 1) := by decide +kernel
theorem d_M_directTo_33 : decode qM_directTo.1 33 = .ok (.iconst 0, 1) := by decide +kernel
theorem d_M_directTo_34 : decode qM_directTo.1 34 = .ok (.invokevirtual 168, 3) := by decide +kernel
theorem d_M_directTo_37 : decode qM_directTo.1 37 = .ok (.invokestatic 263, 3) := by decide +kernel
theorem d_M_directTo_40 : decode qM_directTo.1 40 = .ok (.ifCond .eq 10, 3) := by decide +kernel
theorem d_M_directTo_43 : decode qM_directTo.1 43 = .ok (.aload_n 0, 1) := by decide +kernel
theorem d_M_directTo_44 : decode qM_directTo.1 44 = .ok (.invokevirtual 512, 3) := by decide +kernel
theorem d_M_directTo_47 : decode qM_directTo.1 47 = .ok (.ifCond .ne 7, 3) := by decide +kernel
theorem d_M_directTo_50 : decode qM_directTo.1 50 = .ok (.ldc_w 483, 3) := by decide +kernel
theorem d_M_directTo_53 : decode qM_directTo.1 53 = .ok (.ireturn, 1) := by decide +kernel
theorem d_M_directTo_54 : decode qM_directTo.1 54 = .ok (.aload_n 0, 1) := by decide +kernel
theorem d_M_directTo_55 : decode qM_directTo.1 55 = .ok (.iload_n 2, 1) := by decide +kernel
theorem d_M_directTo_56 : decode qM_directTo.1 56 = .ok (.invokevirtual 218, 3) := by decide +kernel
theorem d_M_directTo_59 : decode qM_directTo.1 59 = .ok (.iload_n 1, 1) := by decide +kernel
theorem d_M_directTo_60 : decode qM_directTo.1 60 = .ok (.isub, 1) := by decide +kernel
theorem d_M_directTo_61 : decode qM_directTo.1 61 = .ok (.iconst 1, 1) := by decide +kernel
theorem d_M_directTo_62 : decode qM_directTo.1 62 = .ok (.iadd, 1) := by decide +kernel
theorem d_M_directTo_63 : decode qM_directTo.1 63 = .ok (.bipush 20, 2) := by decide +kernel
theorem d_M_directTo_65 : decode qM_directTo.1 65 = .ok (.if_icmp .le 7, 3) := by decide +kernel
theorem d_M_directTo_68 : decode qM_directTo.1 68 = .ok (.ldc_w 380, 3) := by decide +kernel
theorem d_M_directTo_71 : decode qM_directTo.1 71 = .ok (.ireturn, 1) := by decide +kernel
theorem d_M_directTo_72 : decode qM_directTo.1 72 = .ok (.aload_n 0, 1) := by decide +kernel
theorem d_M_directTo_73 : decode qM_directTo.1 73 = .ok (.invokevirtual 484, 3) := by decide +kernel
theorem d_M_directTo_76 : decode qM_directTo.1 76 = .ok (.aload_n 0, 1) := by decide +kernel
theorem d_M_directTo_77 : decode qM_directTo.1 77 = .ok (.sipush 297, 3) := by decide +kernel
theorem d_M_directTo_80 : decode qM_directTo.1 80 = .ok (.iload_n 1, 1) := by decide +kernel
theorem d_M_directTo_81 : decode qM_directTo.1 81 = .ok (.invokevirtual 515, 3) := by decide +kernel
theorem d_M_directTo_84 : decode qM_directTo.1 84 = .ok (.aload_n 0, 1) := by decide +kernel
theorem d_M_directTo_85 : decode qM_directTo.1 85 = .ok (.sipush 594, 3) := by decide +kernel
theorem d_M_directTo_88 : decode qM_directTo.1 88 = .ok (.sipush 297, 3) := by decide +kernel
theorem d_M_directTo_91 : decode qM_directTo.1 91 = .ok (.invokevirtual 480, 3) := by decide +kernel
theorem d_M_directTo_94 : decode qM_directTo.1 94 = .ok (.aload_n 0, 1) := by decide +kernel
theorem d_M_directTo_95 : decode qM_directTo.1 95 = .ok (.getfield 7, 3) := by decide +kernel
theorem d_M_directTo_98 : decode qM_directTo.1 98 = .ok (.sipush 298, 3) := by decide +kernel
theorem d_M_directTo_101 : decode qM_directTo.1 101 = .ok (.iconst 0, 1) := by decide +kernel
theorem d_M_directTo_102 : decode qM_directTo.1 102 = .ok (.iastore, 1) := by decide +kernel
theorem d_M_directTo_103 : decode qM_directTo.1 103 = .ok (.aload_n 0, 1) := by decide +kernel
theorem d_M_directTo_104 : decode qM_directTo.1 104 = .ok (.getfield 7, 3) := by decide +kernel
theorem d_M_directTo_107 : decode qM_directTo.1 107 = .ok (.sipush 299, 3) := by decide +kernel
theorem d_M_directTo_110 : decode qM_directTo.1 110 = .ok (.iconst 1, 1) := by decide +kernel
theorem d_M_directTo_111 : decode qM_directTo.1 111 = .ok (.iastore, 1) := by decide +kernel
theorem d_M_directTo_112 : decode qM_directTo.1 112 = .ok (.aload_n 0, 1) := by decide +kernel
theorem d_M_directTo_113 : decode qM_directTo.1 113 = .ok (.sipush 297, 3) := by decide +kernel
theorem d_M_directTo_116 : decode qM_directTo.1 116 = .ok (.invokevirtual 218, 3) := by decide +kernel
theorem d_M_directTo_119 : decode qM_directTo.1 119 = .ok (.ireturn, 1) := by decide +kernel
set_option maxRecDepth 100000 in
def m_directTo (σ : St) (p1 : Int32) : Option (Int32 × St) :=
  Option.bind (m_edited σ) fun x1 =>
  Option.bind (m_isLeg σ x1 p1) fun x2 =>
  if (x2 : Int32) = 0 then (
  some ((-1000001 : Int32), σ)
  ) else (
  Gd (Ix (x1 + (1 : Int32)) 2673) <|
  Jn (fun (σ3 : St) =>
  some ((-1000003 : Int32), σ3)
  ) fun J4 =>
  if (p1 : Int32) < (σ 1 (Int32.toNatClampNeg (x1 + (1 : Int32)))) then (
  J4 σ
  ) else (
  Option.bind (m_of σ x1 p1 (0 : Int32)) fun x5 =>
  Option.bind (m_hasFix x5) fun x6 =>
  if (x6 : Int32) = 0 then (
  J4 σ
  ) else (
  Option.bind (m_hasPosition σ) fun x7 =>
  if (x7.1 : Int32) = 0 then (
  J4 x7.2
  ) else (
  Option.bind (m_count x7.2 x1) fun x8 =>
  if (((x8 - p1) + (1 : Int32)) : Int32) ≤ (20 : Int32) then (
  Option.bind (m_begins x7.2) fun x9 =>
  Option.bind (m_laysDirect x9 (297 : Int32) p1) fun x10 =>
  Option.bind (m_copyPlan x10 (594 : Int32) (297 : Int32)) fun x11 =>
  Gd (Ix (298 : Int32) 2673) <|
  Lt (s2 x11 1 (Int32.toNatClampNeg (298 : Int32)) (0 : Int32)) fun σ12 =>
  Gd (Ix (299 : Int32) 2673) <|
  Lt (s2 σ12 1 (Int32.toNatClampNeg (299 : Int32)) (1 : Int32)) fun σ13 =>
  Option.bind (m_count σ13 (297 : Int32)) fun x14 =>
  some (x14, σ13)
  ) else (
  some ((-1000004 : Int32), x7.2)
  )
  )
  )
  )
  )
set_option maxHeartbeats 4000000 in
set_option maxRecDepth 100000 in
theorem cM_directTo (l : Launch) (g : Ge) (hi : injB wM.2 g) (σ : St) (p1 : Int32) (x : Int32 × St) (h : m_directTo σ p1 = some x) : Ct l wM g yM_directTo qM_directTo 9 226 [.ref (g.1 0), .int p1] σ (some (.int x.1), x.2) := by
  refine Ct.of (out := o_w) FM_directTo rfl hi rfl h (fun z hz C => ?_)
  clear h
  subst hz
  unfold m_directTo
  show Rt z qM_directTo wM g o_w 0 [(0, .ref (g.1 0)), (1, .int p1)] [] σ _
  refine q_aload_n (pc' := 1) C 0 d_M_directTo_0 rfl rfl ?_
  refine q_callVr (fr' := 0) (lo' := 0) (pc' := 4) C FM_edited lmM_490 d_M_directTo_1 0 jM_0 kM_0 cM0 [] [] rfl rfl (Nat.le_of_ble_eq_true rfl) ⟨rfl, rfl⟩ (fun x h => cM_edited _ g hi σ x h) rfl (fun x1 _ => ?_)
  refine q_istore_n (pc' := 5) (lv' := [(2, .int x1), (0, .ref (g.1 0)), (1, .int p1)]) C d_M_directTo_4 (by decide) rfl rfl ?_
  refine q_aload_n (pc' := 6) C 1 d_M_directTo_5 rfl rfl ?_
  refine q_iload_n (pc' := 7) C 0 d_M_directTo_6 rfl rfl ?_
  refine q_iload_n (pc' := 8) C 2 d_M_directTo_7 rfl rfl ?_
  refine q_callVr (fr' := 1) (lo' := 25) (pc' := 11) C FM_isLeg lmM_503 d_M_directTo_8 0 jM_0 kM_0 cM0 [.int x1, .int p1] [] rfl rfl (Nat.le_of_ble_eq_true rfl) ⟨rfl, rfl⟩ (fun x h => cM_isLeg _ g hi σ x1 p1 x h) rfl (fun x2 _ => ?_)
  refine q_if_ne (tgt := 18) (pc' := 14) C d_M_directTo_11 rfl rfl ?_ ?_
  · refine q_iload_n (pc' := 19) C 2 d_M_directTo_18 rfl rfl ?_
    refine q_aload_n (pc' := 20) C 1 d_M_directTo_19 rfl rfl ?_
    refine gM_7 (pc' := 23) C d_M_directTo_20 rfl rfl ?_
    refine q_iload_n (pc' := 24) C 0 d_M_directTo_23 rfl rfl ?_
    refine q_iconst (pc' := 25) C d_M_directTo_24 ki_1 rfl ?_
    refine q_iadd (pc' := 26) C d_M_directTo_25 rfl ?_
    refine q_iald (pc' := 27) C 1 jM_1 kM_1 d_M_directTo_26 rfl ?_
    refine q_join (fun J4 : St → Option (Int32 × St) => ∀ (σ3 : St), Rt z qM_directTo wM g o_w 50 [] [] σ3 (J4 σ3)) (fun σ3 => ?_) (fun J4 hJ4 => ?_)
    · refine q_ldcw (pc' := 53) C lcM_483 d_M_directTo_50 rfl ?_
      exact q_iret C rfl d_M_directTo_53 rfl
    refine q_icmp_lt (tgt := 50) (pc' := 30) C d_M_directTo_27 rfl rfl ?_ ?_
    · exact Rt.sub [] rfl (hJ4 σ)
    · refine q_aload_n (pc' := 31) C 1 d_M_directTo_30 rfl rfl ?_
      refine q_iload_n (pc' := 32) C 0 d_M_directTo_31 rfl rfl ?_
      refine q_iload_n (pc' := 33) C 2 d_M_directTo_32 rfl rfl ?_
      refine q_iconst (pc' := 34) C d_M_directTo_33 ki_0 rfl ?_
      refine q_callVr (fr' := 0) (lo' := 0) (pc' := 37) C FM_of lmM_168 d_M_directTo_34 0 jM_0 kM_0 cM0 [.int x1, .int p1, .int (0 : Int32)] [] rfl rfl (Nat.le_of_ble_eq_true rfl) ⟨rfl, rfl⟩ (fun x h => cM_of _ g hi σ x1 p1 (0 : Int32) x h) rfl (fun x5 _ => ?_)
      refine q_callSr (fr' := 0) (lo' := 0) (pc' := 40) C FM_hasFix lmM_263 d_M_directTo_37 [.int x5] [] rfl rfl (Nat.le_of_ble_eq_true rfl) ⟨rfl, rfl⟩ (fun x h => cM_hasFix _ g hi σ x5 x h) rfl (fun x6 _ => ?_)
      refine q_if_eq (tgt := 50) (pc' := 43) C d_M_directTo_40 rfl rfl ?_ ?_
      · exact Rt.sub [] rfl (hJ4 σ)
      · refine q_aload_n (pc' := 44) C 1 d_M_directTo_43 rfl rfl ?_
        refine q_callVw (fr' := 8) (lo' := 199) (pc' := 47) C FM_hasPosition lmM_512 d_M_directTo_44 0 jM_0 kM_0 cM0 [] [] rfl rfl (Nat.le_of_ble_eq_true rfl) ⟨rfl, rfl⟩ (fun x h => cM_hasPosition _ g hi σ x h) rfl (fun x7 _ => ?_)
        refine q_if_ne (tgt := 54) (pc' := 50) C d_M_directTo_47 rfl rfl ?_ ?_
        · refine q_aload_n (pc' := 55) C 1 d_M_directTo_54 rfl rfl ?_
          refine q_iload_n (pc' := 56) C 0 d_M_directTo_55 rfl rfl ?_
          refine q_callVr (fr' := 0) (lo' := 0) (pc' := 59) C FM_count lmM_218 d_M_directTo_56 0 jM_0 kM_0 cM0 [.int x1] [] rfl rfl (Nat.le_of_ble_eq_true rfl) ⟨rfl, rfl⟩ (fun x h => cM_count _ g hi x7.2 x1 x h) rfl (fun x8 _ => ?_)
          refine q_iload_n (pc' := 60) C 2 d_M_directTo_59 rfl rfl ?_
          refine q_isub (pc' := 61) C d_M_directTo_60 rfl ?_
          refine q_iconst (pc' := 62) C d_M_directTo_61 ki_1 rfl ?_
          refine q_iadd (pc' := 63) C d_M_directTo_62 rfl ?_
          refine q_bipush (pc' := 65) C d_M_directTo_63 kb_20 rfl ?_
          refine q_icmp_le (tgt := 72) (pc' := 68) C d_M_directTo_65 rfl rfl ?_ ?_
          · refine q_aload_n (pc' := 73) C 1 d_M_directTo_72 rfl rfl ?_
            refine q_callVv (fr' := 1) (lo' := 23) (pc' := 76) C FM_begins lmM_484 d_M_directTo_73 0 jM_0 kM_0 cM0 [] [] rfl rfl (Nat.le_of_ble_eq_true rfl) ⟨rfl, rfl⟩ (fun x h => cM_begins _ g hi x7.2 x h) rfl (fun x9 _ => ?_)
            refine q_aload_n (pc' := 77) C 1 d_M_directTo_76 rfl rfl ?_
            refine q_sipush (pc' := 80) C d_M_directTo_77 ks_297 rfl ?_
            refine q_iload_n (pc' := 81) C 2 d_M_directTo_80 rfl rfl ?_
            refine q_callVv (fr' := 1) (lo' := 25) (pc' := 84) C FM_laysDirect lmM_515 d_M_directTo_81 0 jM_0 kM_0 cM0 [.int (297 : Int32), .int p1] [] rfl rfl (Nat.le_of_ble_eq_true rfl) ⟨rfl, rfl⟩ (fun x h => cM_laysDirect _ g hi x9 (297 : Int32) p1 x h) rfl (fun x10 _ => ?_)
            refine q_aload_n (pc' := 85) C 1 d_M_directTo_84 rfl rfl ?_
            refine q_sipush (pc' := 88) C d_M_directTo_85 ks_594 rfl ?_
            refine q_sipush (pc' := 91) C d_M_directTo_88 ks_297 rfl ?_
            refine q_callVv (fr' := 0) (lo' := 0) (pc' := 94) C FM_copyPlan lmM_480 d_M_directTo_91 0 jM_0 kM_0 cM0 [.int (594 : Int32), .int (297 : Int32)] [] rfl rfl (Nat.le_of_ble_eq_true rfl) ⟨rfl, rfl⟩ (fun x h => cM_copyPlan _ g hi x10 (594 : Int32) (297 : Int32) x h) rfl (fun x11 _ => ?_)
            refine q_aload_n (pc' := 95) C 1 d_M_directTo_94 rfl rfl ?_
            refine gM_7 (pc' := 98) C d_M_directTo_95 rfl rfl ?_
            refine q_sipush (pc' := 101) C d_M_directTo_98 ks_298 rfl ?_
            refine q_iconst (pc' := 102) C d_M_directTo_101 ki_0 rfl ?_
            refine q_iast (pc' := 103) C 1 jM_1 kM_1 d_M_directTo_102 rfl ?_
            refine q_let (fun σ12 e12 => ?_)
            refine q_state e12 ?_
            refine q_aload_n (pc' := 104) C 1 d_M_directTo_103 rfl rfl ?_
            refine gM_7 (pc' := 107) C d_M_directTo_104 rfl rfl ?_
            refine q_sipush (pc' := 110) C d_M_directTo_107 ks_299 rfl ?_
            refine q_iconst (pc' := 111) C d_M_directTo_110 ki_1 rfl ?_
            refine q_iast (pc' := 112) C 1 jM_1 kM_1 d_M_directTo_111 rfl ?_
            refine q_let (fun σ13 e13 => ?_)
            refine q_state e13 ?_
            refine q_aload_n (pc' := 113) C 1 d_M_directTo_112 rfl rfl ?_
            refine q_sipush (pc' := 116) C d_M_directTo_113 ks_297 rfl ?_
            refine q_callVr (fr' := 0) (lo' := 0) (pc' := 119) C FM_count lmM_218 d_M_directTo_116 0 jM_0 kM_0 cM0 [.int (297 : Int32)] [] rfl rfl (Nat.le_of_ble_eq_true rfl) ⟨rfl, rfl⟩ (fun x h => cM_count _ g hi σ13 (297 : Int32) x h) rfl (fun x14 _ => ?_)
            exact q_iret C rfl d_M_directTo_119 rfl
          · refine q_ldcw (pc' := 71) C lcM_380 d_M_directTo_68 rfl ?_
            exact q_iret C rfl d_M_directTo_71 rfl
        · exact Rt.sub [] rfl (hJ4 x7.2)
  · refine q_ldcw (pc' := 17) C lcM_493 d_M_directTo_14 rfl ?_
    exact q_iret C rfl d_M_directTo_17 rfl
theorem d_M_undo_0 : decode qM_undo.1 0 = .ok (.aload_n 0, 1) := by decide +kernel
theorem d_M_undo_1 : decode qM_undo.1 1 = .ok (.getfield 477, 3) := by decide +kernel
theorem d_M_undo_4 : decode qM_undo.1 4 = .ok (.ifCond .ne 7, 3) := by decide +kernel
theorem d_M_undo_7 : decode qM_undo.1 7 = .ok (.ldc_w 483, 3) := by decide +kernel
theorem d_M_undo_10 : decode qM_undo.1 10 = .ok (.ireturn, 1) := by decide +kernel
theorem d_M_undo_11 : decode qM_undo.1 11 = .ok (.aload_n 0, 1) := by decide +kernel
theorem d_M_undo_12 : decode qM_undo.1 12 = .ok (.dup, 1) := by decide +kernel
theorem d_M_undo_13 : decode qM_undo.1 13 = .ok (.getfield 477, 3) := by decide +kernel
theorem d_M_undo_16 : decode qM_undo.1 16 = .ok (.iconst 1, 1) := by decide +kernel
theorem d_M_undo_17 : decode qM_undo.1 17 = .ok (.isub, 1) := by decide +kernel
theorem d_M_undo_18 : decode qM_undo.1 18 = .ok (.putfield 477, 3) := by decide +kernel
theorem d_M_undo_21 : decode qM_undo.1 21 = .ok (.aload_n 0, 1) := by decide +kernel
theorem d_M_undo_22 : decode qM_undo.1 22 = .ok (.sipush 891, 3) := by decide +kernel
theorem d_M_undo_25 : decode qM_undo.1 25 = .ok (.sipush 297, 3) := by decide +kernel
theorem d_M_undo_28 : decode qM_undo.1 28 = .ok (.aload_n 0, 1) := by decide +kernel
theorem d_M_undo_29 : decode qM_undo.1 29 = .ok (.getfield 477, 3) := by decide +kernel
theorem d_M_undo_32 : decode qM_undo.1 32 = .ok (.imul, 1) := by decide +kernel
theorem d_M_undo_33 : decode qM_undo.1 33 = .ok (.iadd, 1) := by decide +kernel
theorem d_M_undo_34 : decode qM_undo.1 34 = .ok (.sipush 297, 3) := by decide +kernel
theorem d_M_undo_37 : decode qM_undo.1 37 = .ok (.invokevirtual 480, 3) := by decide +kernel
theorem d_M_undo_40 : decode qM_undo.1 40 = .ok (.aload_n 0, 1) := by decide +kernel
theorem d_M_undo_41 : decode qM_undo.1 41 = .ok (.aload_n 0, 1) := by decide +kernel
theorem d_M_undo_42 : decode qM_undo.1 42 = .ok (.getfield 13, 3) := by decide +kernel
theorem d_M_undo_45 : decode qM_undo.1 45 = .ok (.aload_n 0, 1) := by decide +kernel
theorem d_M_undo_46 : decode qM_undo.1 46 = .ok (.getfield 477, 3) := by decide +kernel
theorem d_M_undo_49 : decode qM_undo.1 49 = .ok (.baload, 1) := by decide +kernel
theorem d_M_undo_50 : decode qM_undo.1 50 = .ok (.putfield 473, 3) := by decide +kernel
theorem d_M_undo_53 : decode qM_undo.1 53 = .ok (.aload_n 0, 1) := by decide +kernel
theorem d_M_undo_54 : decode qM_undo.1 54 = .ok (.getfield 477, 3) := by decide +kernel
theorem d_M_undo_57 : decode qM_undo.1 57 = .ok (.ireturn, 1) := by decide +kernel
set_option maxRecDepth 100000 in
def m_undo (σ : St) : Option (Int32 × St) :=
  if ((σ 0 2) : Int32) = 0 then (
  some ((-1000003 : Int32), σ)
  ) else (
  Lt (s2 σ 0 2 ((σ 0 2) - (1 : Int32))) fun σ1 =>
  Option.bind (m_copyPlan σ1 ((891 : Int32) + ((297 : Int32) * (σ1 0 2))) (297 : Int32)) fun x2 =>
  Gd (Ix (x2 0 2) 6) <|
  Gd (((x2 2 (Int32.toNatClampNeg (x2 0 2))) : Int32) &&& 1 = (x2 2 (Int32.toNatClampNeg (x2 0 2)))) <|
  Lt (s2 x2 0 1 (x2 2 (Int32.toNatClampNeg (x2 0 2)))) fun σ4 =>
  some ((σ4 0 2), σ4)
  )
set_option maxHeartbeats 4000000 in
set_option maxRecDepth 100000 in
theorem cM_undo (l : Launch) (g : Ge) (hi : injB wM.2 g) (σ : St) (x : Int32 × St) (h : m_undo σ = some x) : Ct l wM g yM_undo qM_undo 1 23 [.ref (g.1 0)] σ (some (.int x.1), x.2) := by
  refine Ct.of (out := o_w) FM_undo rfl hi rfl h (fun z hz C => ?_)
  clear h
  subst hz
  unfold m_undo
  show Rt z qM_undo wM g o_w 0 [(0, .ref (g.1 0))] [] σ _
  refine q_aload_n (pc' := 1) C 0 d_M_undo_0 rfl rfl ?_
  refine gM_477 (pc' := 4) C d_M_undo_1 rfl rfl ?_
  refine q_if_ne (tgt := 11) (pc' := 7) C d_M_undo_4 rfl rfl ?_ ?_
  · refine q_aload_n (pc' := 12) C 0 d_M_undo_11 rfl rfl ?_
    refine q_dup (pc' := 13) C d_M_undo_12 rfl rfl ?_
    refine gM_477 (pc' := 16) C d_M_undo_13 rfl rfl ?_
    refine q_iconst (pc' := 17) C d_M_undo_16 ki_1 rfl ?_
    refine q_isub (pc' := 18) C d_M_undo_17 rfl ?_
    refine pM_477 (pc' := 21) C d_M_undo_18 rfl rfl ?_
    refine q_let (fun σ1 e1 => ?_)
    refine q_state e1 ?_
    refine q_aload_n (pc' := 22) C 0 d_M_undo_21 rfl rfl ?_
    refine q_sipush (pc' := 25) C d_M_undo_22 ks_891 rfl ?_
    refine q_sipush (pc' := 28) C d_M_undo_25 ks_297 rfl ?_
    refine q_aload_n (pc' := 29) C 0 d_M_undo_28 rfl rfl ?_
    refine gM_477 (pc' := 32) C d_M_undo_29 rfl rfl ?_
    refine q_imul (pc' := 33) C d_M_undo_32 rfl ?_
    refine q_iadd (pc' := 34) C d_M_undo_33 rfl ?_
    refine q_sipush (pc' := 37) C d_M_undo_34 ks_297 rfl ?_
    refine q_callVv (fr' := 0) (lo' := 0) (pc' := 40) C FM_copyPlan lmM_480 d_M_undo_37 0 jM_0 kM_0 cM0 [.int ((891 : Int32) + ((297 : Int32) * (σ1 0 2))), .int (297 : Int32)] [] rfl rfl (Nat.le_of_ble_eq_true rfl) ⟨rfl, rfl⟩ (fun x h => cM_copyPlan _ g hi σ1 ((891 : Int32) + ((297 : Int32) * (σ1 0 2))) (297 : Int32) x h) rfl (fun x2 _ => ?_)
    refine q_aload_n (pc' := 41) C 0 d_M_undo_40 rfl rfl ?_
    refine q_aload_n (pc' := 42) C 0 d_M_undo_41 rfl rfl ?_
    refine gM_13 (pc' := 45) C d_M_undo_42 rfl rfl ?_
    refine q_aload_n (pc' := 46) C 0 d_M_undo_45 rfl rfl ?_
    refine gM_477 (pc' := 49) C d_M_undo_46 rfl rfl ?_
    refine q_zald (pc' := 50) C 2 jM_2 kM_2 d_M_undo_49 rfl ?_
    refine q_guard (fun gx3 => ?_)
    refine pM_473 (pc' := 53) C d_M_undo_50 gx3 rfl rfl ?_
    refine q_let (fun σ4 e4 => ?_)
    refine q_state e4 ?_
    refine q_aload_n (pc' := 54) C 0 d_M_undo_53 rfl rfl ?_
    refine gM_477 (pc' := 57) C d_M_undo_54 rfl rfl ?_
    exact q_iret C rfl d_M_undo_57 rfl
  · refine q_ldcw (pc' := 10) C lcM_483 d_M_undo_7 rfl ?_
    exact q_iret C rfl d_M_undo_10 rfl
theorem d_M_execute_0 : decode qM_execute.1 0 = .ok (.aload_n 0, 1) := by decide +kernel
theorem d_M_execute_1 : decode qM_execute.1 1 = .ok (.getfield 473, 3) := by decide +kernel
theorem d_M_execute_4 : decode qM_execute.1 4 = .ok (.ifCond .ne 7, 3) := by decide +kernel
theorem d_M_execute_7 : decode qM_execute.1 7 = .ok (.ldc_w 483, 3) := by decide +kernel
theorem d_M_execute_10 : decode qM_execute.1 10 = .ok (.ireturn, 1) := by decide +kernel
theorem d_M_execute_11 : decode qM_execute.1 11 = .ok (.aload_n 0, 1) := by decide +kernel
theorem d_M_execute_12 : decode qM_execute.1 12 = .ok (.sipush 297, 3) := by decide +kernel
theorem d_M_execute_15 : decode qM_execute.1 15 = .ok (.iconst 0, 1) := by decide +kernel
theorem d_M_execute_16 : decode qM_execute.1 16 = .ok (.invokevirtual 480, 3) := by decide +kernel
theorem d_M_execute_19 : decode qM_execute.1 19 = .ok (.aload_n 0, 1) := by decide +kernel
theorem d_M_execute_20 : decode qM_execute.1 20 = .ok (.aload_n 0, 1) := by decide +kernel
theorem d_M_execute_21 : decode qM_execute.1 21 = .ok (.getfield 7, 3) := by decide +kernel
theorem d_M_execute_24 : decode qM_execute.1 24 = .ok (.iconst 2, 1) := by decide +kernel
theorem d_M_execute_25 : decode qM_execute.1 25 = .ok (.iaload, 1) := by decide +kernel
theorem d_M_execute_26 : decode qM_execute.1 26 = .ok (.iconst 1, 1) := by decide +kernel
theorem d_M_execute_27 : decode qM_execute.1 27 = .ok (.if_icmp .ne 7, 3) := by decide +kernel
theorem d_M_execute_30 : decode qM_execute.1 30 = .ok (.iconst 0, 1) := by decide +kernel
theorem d_M_execute_31 : decode qM_execute.1 31 = .ok (.goto 7, 3) := by decide +kernel
theorem d_M_execute_34 : decode qM_execute.1 34 = .ok (.aload_n 0, 1) := by decide +kernel
theorem d_M_execute_35 : decode qM_execute.1 35 = .ok (.getfield 362, 3) := by decide +kernel
theorem d_M_execute_38 : decode qM_execute.1 38 = .ok (.putfield 362, 3) := by decide +kernel
theorem d_M_execute_41 : decode qM_execute.1 41 = .ok (.aload_n 0, 1) := by decide +kernel
theorem d_M_execute_42 : decode qM_execute.1 42 = .ok (.iconst 0, 1) := by decide +kernel
theorem d_M_execute_43 : decode qM_execute.1 43 = .ok (.putfield 473, 3) := by decide +kernel
theorem d_M_execute_46 : decode qM_execute.1 46 = .ok (.aload_n 0, 1) := by decide +kernel
theorem d_M_execute_47 : decode qM_execute.1 47 = .ok (.iconst 0, 1) := by decide +kernel
theorem d_M_execute_48 : decode qM_execute.1 48 = .ok (.putfield 477, 3) := by decide +kernel
theorem d_M_execute_51 : decode qM_execute.1 51 = .ok (.aload_n 0, 1) := by decide +kernel
theorem d_M_execute_52 : decode qM_execute.1 52 = .ok (.invokevirtual 462, 3) := by decide +kernel
theorem d_M_execute_55 : decode qM_execute.1 55 = .ok (.aload_n 0, 1) := by decide +kernel
theorem d_M_execute_56 : decode qM_execute.1 56 = .ok (.iconst 0, 1) := by decide +kernel
theorem d_M_execute_57 : decode qM_execute.1 57 = .ok (.invokevirtual 218, 3) := by decide +kernel
theorem d_M_execute_60 : decode qM_execute.1 60 = .ok (.ireturn, 1) := by decide +kernel
set_option maxRecDepth 100000 in
def m_execute (σ : St) : Option (Int32 × St) :=
  if ((σ 0 1) : Int32) = 0 then (
  some ((-1000003 : Int32), σ)
  ) else (
  Option.bind (m_copyPlan σ (297 : Int32) (0 : Int32)) fun x1 =>
  Gd (Ix (2 : Int32) 2673) <|
  Jn (fun (x2 : Int32) =>
  Lt (s2 x1 0 4 x2) fun σ4 =>
  Lt (s2 σ4 0 1 (0 : Int32)) fun σ5 =>
  Lt (s2 σ5 0 2 (0 : Int32)) fun σ6 =>
  Option.bind (m_clamps σ6) fun x7 =>
  Option.bind (m_count x7 (0 : Int32)) fun x8 =>
  some (x8, x7)
  ) fun J3 =>
  if ((x1 1 (Int32.toNatClampNeg (2 : Int32))) : Int32) = (1 : Int32) then (
  J3 (0 : Int32)
  ) else (
  J3 (x1 0 4)
  )
  )
set_option maxHeartbeats 4000000 in
set_option maxRecDepth 100000 in
theorem cM_execute (l : Launch) (g : Ge) (hi : injB wM.2 g) (σ : St) (x : Int32 × St) (h : m_execute σ = some x) : Ct l wM g yM_execute qM_execute 9 219 [.ref (g.1 0)] σ (some (.int x.1), x.2) := by
  refine Ct.of (out := o_w) FM_execute rfl hi rfl h (fun z hz C => ?_)
  clear h
  subst hz
  unfold m_execute
  show Rt z qM_execute wM g o_w 0 [(0, .ref (g.1 0))] [] σ _
  refine q_aload_n (pc' := 1) C 0 d_M_execute_0 rfl rfl ?_
  refine gM_473 (pc' := 4) C d_M_execute_1 rfl rfl ?_
  refine q_if_ne (tgt := 11) (pc' := 7) C d_M_execute_4 rfl rfl ?_ ?_
  · refine q_aload_n (pc' := 12) C 0 d_M_execute_11 rfl rfl ?_
    refine q_sipush (pc' := 15) C d_M_execute_12 ks_297 rfl ?_
    refine q_iconst (pc' := 16) C d_M_execute_15 ki_0 rfl ?_
    refine q_callVv (fr' := 0) (lo' := 0) (pc' := 19) C FM_copyPlan lmM_480 d_M_execute_16 0 jM_0 kM_0 cM0 [.int (297 : Int32), .int (0 : Int32)] [] rfl rfl (Nat.le_of_ble_eq_true rfl) ⟨rfl, rfl⟩ (fun x h => cM_copyPlan _ g hi σ (297 : Int32) (0 : Int32) x h) rfl (fun x1 _ => ?_)
    refine q_aload_n (pc' := 20) C 0 d_M_execute_19 rfl rfl ?_
    refine q_aload_n (pc' := 21) C 0 d_M_execute_20 rfl rfl ?_
    refine gM_7 (pc' := 24) C d_M_execute_21 rfl rfl ?_
    refine q_iconst (pc' := 25) C d_M_execute_24 ki_2 rfl ?_
    refine q_iald (pc' := 26) C 1 jM_1 kM_1 d_M_execute_25 rfl ?_
    refine q_iconst (pc' := 27) C d_M_execute_26 ki_1 rfl ?_
    refine q_join (fun J3 : Int32 → Option (Int32 × St) => ∀ (x2 : Int32), Rt z qM_execute wM g o_w 38 [(0, .ref (g.1 0))] [.int x2, .ref (g.1 0)] x1 (J3 x2)) (fun x2 => ?_) (fun J3 hJ3 => ?_)
    · refine pM_362 (pc' := 41) C d_M_execute_38 rfl rfl ?_
      refine q_let (fun σ4 e4 => ?_)
      refine q_state e4 ?_
      refine q_aload_n (pc' := 42) C 0 d_M_execute_41 rfl rfl ?_
      refine q_iconst (pc' := 43) C d_M_execute_42 ki_0 rfl ?_
      refine pM_473 (pc' := 46) C d_M_execute_43 (by decide) rfl rfl ?_
      refine q_let (fun σ5 e5 => ?_)
      refine q_state e5 ?_
      refine q_aload_n (pc' := 47) C 0 d_M_execute_46 rfl rfl ?_
      refine q_iconst (pc' := 48) C d_M_execute_47 ki_0 rfl ?_
      refine pM_477 (pc' := 51) C d_M_execute_48 rfl rfl ?_
      refine q_let (fun σ6 e6 => ?_)
      refine q_state e6 ?_
      refine q_aload_n (pc' := 52) C 0 d_M_execute_51 rfl rfl ?_
      refine q_callVv (fr' := 8) (lo' := 199) (pc' := 55) C FM_clamps lmM_462 d_M_execute_52 0 jM_0 kM_0 cM0 [] [] rfl rfl (Nat.le_of_ble_eq_true rfl) ⟨rfl, rfl⟩ (fun x h => cM_clamps _ g hi σ6 x h) rfl (fun x7 _ => ?_)
      refine q_aload_n (pc' := 56) C 0 d_M_execute_55 rfl rfl ?_
      refine q_iconst (pc' := 57) C d_M_execute_56 ki_0 rfl ?_
      refine q_callVr (fr' := 0) (lo' := 0) (pc' := 60) C FM_count lmM_218 d_M_execute_57 0 jM_0 kM_0 cM0 [.int (0 : Int32)] [] rfl rfl (Nat.le_of_ble_eq_true rfl) ⟨rfl, rfl⟩ (fun x h => cM_count _ g hi x7 (0 : Int32) x h) rfl (fun x8 _ => ?_)
      exact q_iret C rfl d_M_execute_60 rfl
    refine q_icmp_ne (tgt := 34) (pc' := 30) C d_M_execute_27 rfl rfl ?_ ?_
    · refine q_aload_n (pc' := 35) C 0 d_M_execute_34 rfl rfl ?_
      refine gM_362 (pc' := 38) C d_M_execute_35 rfl rfl ?_
      exact Rt.sub [0] rfl (hJ3 (x1 0 4))
    · refine q_iconst (pc' := 31) C d_M_execute_30 ki_0 rfl ?_
      refine q_goto (tgt := 38) C d_M_execute_31 rfl ?_
      exact Rt.sub [0] rfl (hJ3 (0 : Int32))
  · refine q_ldcw (pc' := 10) C lcM_483 d_M_execute_7 rfl ?_
    exact q_iret C rfl d_M_execute_10 rfl
theorem d_M_cancel_0 : decode qM_cancel.1 0 = .ok (.aload_n 0, 1) := by decide +kernel
theorem d_M_cancel_1 : decode qM_cancel.1 1 = .ok (.getfield 473, 3) := by decide +kernel
theorem d_M_cancel_4 : decode qM_cancel.1 4 = .ok (.ifCond .ne 7, 3) := by decide +kernel
theorem d_M_cancel_7 : decode qM_cancel.1 7 = .ok (.ldc_w 483, 3) := by decide +kernel
theorem d_M_cancel_10 : decode qM_cancel.1 10 = .ok (.ireturn, 1) := by decide +kernel
theorem d_M_cancel_11 : decode qM_cancel.1 11 = .ok (.aload_n 0, 1) := by decide +kernel
theorem d_M_cancel_12 : decode qM_cancel.1 12 = .ok (.iconst 0, 1) := by decide +kernel
theorem d_M_cancel_13 : decode qM_cancel.1 13 = .ok (.putfield 473, 3) := by decide +kernel
theorem d_M_cancel_16 : decode qM_cancel.1 16 = .ok (.aload_n 0, 1) := by decide +kernel
theorem d_M_cancel_17 : decode qM_cancel.1 17 = .ok (.iconst 0, 1) := by decide +kernel
theorem d_M_cancel_18 : decode qM_cancel.1 18 = .ok (.putfield 477, 3) := by decide +kernel
theorem d_M_cancel_21 : decode qM_cancel.1 21 = .ok (.aload_n 0, 1) := by decide +kernel
theorem d_M_cancel_22 : decode qM_cancel.1 22 = .ok (.iconst 0, 1) := by decide +kernel
theorem d_M_cancel_23 : decode qM_cancel.1 23 = .ok (.invokevirtual 218, 3) := by decide +kernel
theorem d_M_cancel_26 : decode qM_cancel.1 26 = .ok (.ireturn, 1) := by decide +kernel
set_option maxRecDepth 100000 in
def m_cancel (σ : St) : Option (Int32 × St) :=
  if ((σ 0 1) : Int32) = 0 then (
  some ((-1000003 : Int32), σ)
  ) else (
  Lt (s2 σ 0 1 (0 : Int32)) fun σ1 =>
  Lt (s2 σ1 0 2 (0 : Int32)) fun σ2 =>
  Option.bind (m_count σ2 (0 : Int32)) fun x3 =>
  some (x3, σ2)
  )
set_option maxHeartbeats 4000000 in
set_option maxRecDepth 100000 in
theorem cM_cancel (l : Launch) (g : Ge) (hi : injB wM.2 g) (σ : St) (x : Int32 × St) (h : m_cancel σ = some x) : Ct l wM g yM_cancel qM_cancel 1 21 [.ref (g.1 0)] σ (some (.int x.1), x.2) := by
  refine Ct.of (out := o_w) FM_cancel rfl hi rfl h (fun z hz C => ?_)
  clear h
  subst hz
  unfold m_cancel
  show Rt z qM_cancel wM g o_w 0 [(0, .ref (g.1 0))] [] σ _
  refine q_aload_n (pc' := 1) C 0 d_M_cancel_0 rfl rfl ?_
  refine gM_473 (pc' := 4) C d_M_cancel_1 rfl rfl ?_
  refine q_if_ne (tgt := 11) (pc' := 7) C d_M_cancel_4 rfl rfl ?_ ?_
  · refine q_aload_n (pc' := 12) C 0 d_M_cancel_11 rfl rfl ?_
    refine q_iconst (pc' := 13) C d_M_cancel_12 ki_0 rfl ?_
    refine pM_473 (pc' := 16) C d_M_cancel_13 (by decide) rfl rfl ?_
    refine q_let (fun σ1 e1 => ?_)
    refine q_state e1 ?_
    refine q_aload_n (pc' := 17) C 0 d_M_cancel_16 rfl rfl ?_
    refine q_iconst (pc' := 18) C d_M_cancel_17 ki_0 rfl ?_
    refine pM_477 (pc' := 21) C d_M_cancel_18 rfl rfl ?_
    refine q_let (fun σ2 e2 => ?_)
    refine q_state e2 ?_
    refine q_aload_n (pc' := 22) C 0 d_M_cancel_21 rfl rfl ?_
    refine q_iconst (pc' := 23) C d_M_cancel_22 ki_0 rfl ?_
    refine q_callVr (fr' := 0) (lo' := 0) (pc' := 26) C FM_count lmM_218 d_M_cancel_23 0 jM_0 kM_0 cM0 [.int (0 : Int32)] [] rfl rfl (Nat.le_of_ble_eq_true rfl) ⟨rfl, rfl⟩ (fun x h => cM_count _ g hi σ2 (0 : Int32) x h) rfl (fun x3 _ => ?_)
    exact q_iret C rfl d_M_cancel_26 rfl
  · refine q_ldcw (pc' := 10) C lcM_483 d_M_cancel_7 rfl ?_
    exact q_iret C rfl d_M_cancel_10 rfl
theorem d_M_fly_0 : decode qM_fly.1 0 = .ok (.iload_n 1, 1) := by decide +kernel
theorem d_M_fly_1 : decode qM_fly.1 1 = .ok (.i2l, 1) := by decide +kernel
theorem d_M_fly_2 : decode qM_fly.1 2 = .ok (.lconst 0, 1) := by decide +kernel
theorem d_M_fly_3 : decode qM_fly.1 3 = .ok (.ldc2_w 518, 3) := by decide +kernel
theorem d_M_fly_6 : decode qM_fly.1 6 = .ok (.invokestatic 232, 3) := by decide +kernel
theorem d_M_fly_9 : decode qM_fly.1 9 = .ok (.ifCond .ne 7, 3) := by decide +kernel
theorem d_M_fly_12 : decode qM_fly.1 12 = .ok (.ldc_w 376, 3) := by decide +kernel
theorem d_M_fly_15 : decode qM_fly.1 15 = .ok (.ireturn, 1) := by decide +kernel
theorem d_M_fly_16 : decode qM_fly.1 16 = .ok (.aload_n 0, 1) := by decide +kernel
theorem d_M_fly_17 : decode qM_fly.1 17 = .ok (.getfield 473, 3) := by decide +kernel
theorem d_M_fly_20 : decode qM_fly.1 20 = .ok (.ifCond .ne 11, 3) := by decide +kernel
theorem d_M_fly_23 : decode qM_fly.1 23 = .ok (.aload_n 0, 1) := by decide +kernel
theorem d_M_fly_24 : decode qM_fly.1 24 = .ok (.iconst 0, 1) := by decide +kernel
theorem d_M_fly_25 : decode qM_fly.1 25 = .ok (.invokevirtual 218, 3) := by decide +kernel
theorem d_M_fly_28 : decode qM_fly.1 28 = .ok (.ifCond .ne 7, 3) := by decide +kernel
theorem d_M_fly_31 : decode qM_fly.1 31 = .ok (.ldc_w 483, 3) := by decide +kernel
theorem d_M_fly_34 : decode qM_fly.1 34 = .ok (.ireturn, 1) := by decide +kernel
theorem d_M_fly_35 : decode qM_fly.1 35 = .ok (.aload_n 0, 1) := by decide +kernel
theorem d_M_fly_36 : decode qM_fly.1 36 = .ok (.iconst 0, 1) := by decide +kernel
theorem d_M_fly_37 : decode qM_fly.1 37 = .ok (.invokevirtual 359, 3) := by decide +kernel
theorem d_M_fly_40 : decode qM_fly.1 40 = .ok (.iload_n 1, 1) := by decide +kernel
theorem d_M_fly_41 : decode qM_fly.1 41 = .ok (.istore_n 2, 1) := by decide +kernel
theorem d_M_fly_42 : decode qM_fly.1 42 = .ok (.iconst 1, 1) := by decide +kernel
theorem d_M_fly_43 : decode qM_fly.1 43 = .ok (.istore_n 3, 1) := by decide +kernel
theorem d_M_fly_44 : decode qM_fly.1 44 = .ok (.iload_n 3, 1) := by decide +kernel
theorem d_M_fly_45 : decode qM_fly.1 45 = .ok (.ifCond .eq 111, 3) := by decide +kernel
theorem d_M_fly_48 : decode qM_fly.1 48 = .ok (.aload_n 0, 1) := by decide +kernel
theorem d_M_fly_49 : decode qM_fly.1 49 = .ok (.getfield 7, 3) := by decide +kernel
theorem d_M_fly_52 : decode qM_fly.1 52 = .ok (.iconst 1, 1) := by decide +kernel
theorem d_M_fly_53 : decode qM_fly.1 53 = .ok (.iaload, 1) := by decide +kernel
theorem d_M_fly_54 : decode qM_fly.1 54 = .ok (.istore 4, 2) := by decide +kernel
theorem d_M_fly_56 : decode qM_fly.1 56 = .ok (.iload_n 2, 1) := by decide +kernel
theorem d_M_fly_57 : decode qM_fly.1 57 = .ok (.aload_n 0, 1) := by decide +kernel
theorem d_M_fly_58 : decode qM_fly.1 58 = .ok (.getfield 135, 3) := by decide +kernel
theorem d_M_fly_61 : decode qM_fly.1 61 = .ok (.iload 4, 2) := by decide +kernel
theorem d_M_fly_63 : decode qM_fly.1 63 = .ok (.iaload, 1) := by decide +kernel
theorem d_M_fly_64 : decode qM_fly.1 64 = .ok (.aload_n 0, 1) := by decide +kernel
theorem d_M_fly_65 : decode qM_fly.1 65 = .ok (.getfield 362, 3) := by decide +kernel
theorem d_M_fly_68 : decode qM_fly.1 68 = .ok (.isub, 1) := by decide +kernel
theorem d_M_fly_69 : decode qM_fly.1 69 = .ok (.invokestatic 267, 3) := by decide +kernel
theorem d_M_fly_72 : decode qM_fly.1 72 = .ok (.istore 5, 2) := by decide +kernel
theorem d_M_fly_74 : decode qM_fly.1 74 = .ok (.aload_n 0, 1) := by decide +kernel
theorem d_M_fly_75 : decode qM_fly.1 75 = .ok (.dup, 1) := by decide +kernel
theorem d_M_fly_76 : decode qM_fly.1 76 = .ok (.getfield 362, 3) := by decide +kernel
theorem d_M_fly_79 : decode qM_fly.1 79 = .ok (.iload 5, 2) := by decide +kernel
theorem d_M_fly_81 : decode qM_fly.1 81 = .ok (.iadd, 1) := by decide +kernel
theorem d_M_fly_82 : decode qM_fly.1 82 = .ok (.putfield 362, 3) := by decide +kernel
theorem d_M_fly_85 : decode qM_fly.1 85 = .ok (.iload_n 2, 1) := by decide +kernel
theorem d_M_fly_86 : decode qM_fly.1 86 = .ok (.iload 5, 2) := by decide +kernel
theorem d_M_fly_88 : decode qM_fly.1 88 = .ok (.isub, 1) := by decide +kernel
theorem d_M_fly_89 : decode qM_fly.1 89 = .ok (.istore_n 2, 1) := by decide +kernel
theorem d_M_fly_90 : decode qM_fly.1 90 = .ok (.aload_n 0, 1) := by decide +kernel
theorem d_M_fly_91 : decode qM_fly.1 91 = .ok (.getfield 362, 3) := by decide +kernel
theorem d_M_fly_94 : decode qM_fly.1 94 = .ok (.aload_n 0, 1) := by decide +kernel
theorem d_M_fly_95 : decode qM_fly.1 95 = .ok (.getfield 135, 3) := by decide +kernel
theorem d_M_fly_98 : decode qM_fly.1 98 = .ok (.iload 4, 2) := by decide +kernel
theorem d_M_fly_100 : decode qM_fly.1 100 = .ok (.iaload, 1) := by decide +kernel
theorem d_M_fly_101 : decode qM_fly.1 101 = .ok (.if_icmp .ne 31, 3) := by decide +kernel
theorem d_M_fly_104 : decode qM_fly.1 104 = .ok (.iload 4, 2) := by decide +kernel
theorem d_M_fly_106 : decode qM_fly.1 106 = .ok (.iconst 1, 1) := by decide +kernel
theorem d_M_fly_107 : decode qM_fly.1 107 = .ok (.iadd, 1) := by decide +kernel
theorem d_M_fly_108 : decode qM_fly.1 108 = .ok (.aload_n 0, 1) := by decide +kernel
theorem d_M_fly_109 : decode qM_fly.1 109 = .ok (.iconst 0, 1) := by decide +kernel
theorem d_M_fly_110 : decode qM_fly.1 110 = .ok (.invokevirtual 218, 3) := by decide +kernel
theorem d_M_fly_113 : decode qM_fly.1 113 = .ok (.if_icmp .ge 19, 3) := by decide +kernel
theorem d_M_fly_116 : decode qM_fly.1 116 = .ok (.aload_n 0, 1) := by decide +kernel
theorem d_M_fly_117 : decode qM_fly.1 117 = .ok (.getfield 78, 3) := by decide +kernel
theorem d_M_fly_120 : decode qM_fly.1 120 = .ok (.iload 4, 2) := by decide +kernel
theorem d_M_fly_122 : decode qM_fly.1 122 = .ok (.iconst 1, 1) := by decide +kernel
theorem d_M_fly_123 : decode qM_fly.1 123 = .ok (.iadd, 1) := by decide +kernel
theorem d_M_fly_124 : decode qM_fly.1 124 = .ok (.baload, 1) := by decide +kernel
theorem d_M_fly_125 : decode qM_fly.1 125 = .ok (.ifCond .ne 7, 3) := by decide +kernel
theorem d_M_fly_128 : decode qM_fly.1 128 = .ok (.iconst 1, 1) := by decide +kernel
theorem d_M_fly_129 : decode qM_fly.1 129 = .ok (.goto 4, 3) := by decide +kernel
theorem d_M_fly_132 : decode qM_fly.1 132 = .ok (.iconst 0, 1) := by decide +kernel
theorem d_M_fly_133 : decode qM_fly.1 133 = .ok (.istore_n 3, 1) := by decide +kernel
theorem d_M_fly_134 : decode qM_fly.1 134 = .ok (.iload_n 3, 1) := by decide +kernel
theorem d_M_fly_135 : decode qM_fly.1 135 = .ok (.ifCond .eq 18, 3) := by decide +kernel
theorem d_M_fly_138 : decode qM_fly.1 138 = .ok (.aload_n 0, 1) := by decide +kernel
theorem d_M_fly_139 : decode qM_fly.1 139 = .ok (.getfield 7, 3) := by decide +kernel
theorem d_M_fly_142 : decode qM_fly.1 142 = .ok (.iconst 1, 1) := by decide +kernel
theorem d_M_fly_143 : decode qM_fly.1 143 = .ok (.iload 4, 2) := by decide +kernel
theorem d_M_fly_145 : decode qM_fly.1 145 = .ok (.iconst 1, 1) := by decide +kernel
theorem d_M_fly_146 : decode qM_fly.1 146 = .ok (.iadd, 1) := by decide +kernel
theorem d_M_fly_147 : decode qM_fly.1 147 = .ok (.iastore, 1) := by decide +kernel
theorem d_M_fly_148 : decode qM_fly.1 148 = .ok (.aload_n 0, 1) := by decide +kernel
theorem d_M_fly_149 : decode qM_fly.1 149 = .ok (.iconst 0, 1) := by decide +kernel
theorem d_M_fly_150 : decode qM_fly.1 150 = .ok (.putfield 362, 3) := by decide +kernel
theorem d_M_fly_153 : decode qM_fly.1 153 = .ok (.goto (-109), 3) := by decide +kernel
theorem d_M_fly_156 : decode qM_fly.1 156 = .ok (.iload_n 1, 1) := by decide +kernel
theorem d_M_fly_157 : decode qM_fly.1 157 = .ok (.iload_n 2, 1) := by decide +kernel
theorem d_M_fly_158 : decode qM_fly.1 158 = .ok (.isub, 1) := by decide +kernel
theorem d_M_fly_159 : decode qM_fly.1 159 = .ok (.ireturn, 1) := by decide +kernel
set_option maxRecDepth 100000 in
def lb_m_fly_44 (J7 : Int32 → St → Option (Int32 × St)) (ih9 : Int32 × Int32 × St → Option (Int32 × St)) (a8 : Int32 × Int32 × St) : Option (Int32 × St) :=
  if (a8.2.1 : Int32) = 0 then (
  J7 a8.1 a8.2.2
  ) else (
  Gd (Ix (1 : Int32) 2673) <|
  Lt ((a8.2.2 1 (Int32.toNatClampNeg (1 : Int32))) : Int32) fun x10 =>
  Gd (Ix x10 21) <|
  Option.bind (m_lesser a8.1 ((a8.2.2 37 (Int32.toNatClampNeg x10)) - (a8.2.2 0 4))) fun x11 =>
  Lt (s2 a8.2.2 0 4 ((a8.2.2 0 4) + x11)) fun σ12 =>
  Lt ((a8.1 - x11) : Int32) fun x13 =>
  Gd (Ix x10 21) <|
  Jn (fun (x14 : Int32) =>
  Jn (fun (σ16 : St) =>
  ih9 (x13, x14, σ16)
  ) fun J17 =>
  if (x14 : Int32) = 0 then (
  J17 σ12
  ) else (
  Gd (Ix (1 : Int32) 2673) <|
  Lt (s2 σ12 1 (Int32.toNatClampNeg (1 : Int32)) (x10 + (1 : Int32))) fun σ18 =>
  Lt (s2 σ18 0 4 (0 : Int32)) fun σ19 =>
  J17 σ19
  )
  ) fun J15 =>
  Jn (fun (_ : Unit) =>
  J15 (0 : Int32)
  ) fun J20 =>
  if ((σ12 0 4) : Int32) = (σ12 37 (Int32.toNatClampNeg x10)) then (
  Option.bind (m_count σ12 (0 : Int32)) fun x21 =>
  if (x21 : Int32) ≤ (x10 + (1 : Int32)) then (
  J20 ()
  ) else (
  Gd (Ix (x10 + (1 : Int32)) 21) <|
  if ((σ12 18 (Int32.toNatClampNeg (x10 + (1 : Int32)))) : Int32) = 0 then (
  J15 (1 : Int32)
  ) else (
  J20 ()
  )
  )
  ) else (
  J20 ()
  )
  )
set_option maxRecDepth 100000 in
def m_fly (σ : St) (p1 : Int32) : Option (Int32 × St) :=
  Option.bind (m_in (Int32.toInt64 p1) (0 : Int64) (2000 : Int64)) fun x1 =>
  if (x1 : Int32) = 0 then (
  some ((-1000002 : Int32), σ)
  ) else (
  Jn (fun (_ : Unit) =>
  some ((-1000003 : Int32), σ)
  ) fun J2 =>
  if ((σ 0 1) : Int32) = 0 then (
  Option.bind (m_count σ (0 : Int32)) fun x3 =>
  if (x3 : Int32) = 0 then (
  J2 ()
  ) else (
  Option.bind (m_lays σ (0 : Int32)) fun x4 =>
  Jn (fun (x5 : Int32) (σ6 : St) =>
  some ((p1 - x5), σ6)
  ) fun J7 =>
  lp (lb_m_fly_44 J7) 4000 (p1, (1 : Int32), x4)
  )
  ) else (
  J2 ()
  )
  )
set_option maxHeartbeats 4000000 in
set_option maxRecDepth 100000 in
theorem cM_fly (l : Launch) (g : Ge) (hi : injB wM.2 g) (σ : St) (p1 : Int32) (x : Int32 × St) (h : m_fly σ p1 = some x) : Ct l wM g yM_fly qM_fly 8 199 [.ref (g.1 0), .int p1] σ (some (.int x.1), x.2) := by
  refine Ct.of (out := o_w) FM_fly rfl hi rfl h (fun z hz C => ?_)
  clear h
  subst hz
  unfold m_fly
  show Rt z qM_fly wM g o_w 0 [(0, .ref (g.1 0)), (1, .int p1)] [] σ _
  refine q_iload_n (pc' := 1) C 1 d_M_fly_0 rfl rfl ?_
  refine q_i2l (pc' := 2) C d_M_fly_1 rfl ?_
  refine q_lconst (pc' := 3) C d_M_fly_2 kl_0 rfl ?_
  refine q_ldc2 (pc' := 6) C lLM_518 d_M_fly_3 rfl ?_
  refine q_callSr (fr' := 0) (lo' := 0) (pc' := 9) C FM_in lmM_232 d_M_fly_6 [.long (Int32.toInt64 p1), .long (0 : Int64), .long (2000 : Int64)] [] rfl rfl (Nat.le_of_ble_eq_true rfl) ⟨rfl, rfl⟩ (fun x h => cM_in _ g hi σ (Int32.toInt64 p1) (0 : Int64) (2000 : Int64) x h) rfl (fun x1 _ => ?_)
  refine q_if_ne (tgt := 16) (pc' := 12) C d_M_fly_9 rfl rfl ?_ ?_
  · refine q_aload_n (pc' := 17) C 0 d_M_fly_16 rfl rfl ?_
    refine gM_473 (pc' := 20) C d_M_fly_17 rfl rfl ?_
    refine q_join (fun J2 : Unit → Option (Int32 × St) => ∀ (_ : Unit), Rt z qM_fly wM g o_w 31 [] [] σ (J2 ())) (fun _ => ?_) (fun J2 hJ2 => ?_)
    · refine q_ldcw (pc' := 34) C lcM_483 d_M_fly_31 rfl ?_
      exact q_iret C rfl d_M_fly_34 rfl
    refine q_if_ne (tgt := 31) (pc' := 23) C d_M_fly_20 rfl rfl ?_ ?_
    · exact Rt.sub [] rfl (hJ2 ())
    · refine q_aload_n (pc' := 24) C 0 d_M_fly_23 rfl rfl ?_
      refine q_iconst (pc' := 25) C d_M_fly_24 ki_0 rfl ?_
      refine q_callVr (fr' := 0) (lo' := 0) (pc' := 28) C FM_count lmM_218 d_M_fly_25 0 jM_0 kM_0 cM0 [.int (0 : Int32)] [] rfl rfl (Nat.le_of_ble_eq_true rfl) ⟨rfl, rfl⟩ (fun x h => cM_count _ g hi σ (0 : Int32) x h) rfl (fun x3 _ => ?_)
      refine q_if_ne (tgt := 35) (pc' := 31) C d_M_fly_28 rfl rfl ?_ ?_
      · refine q_aload_n (pc' := 36) C 0 d_M_fly_35 rfl rfl ?_
        refine q_iconst (pc' := 37) C d_M_fly_36 ki_0 rfl ?_
        refine q_callVv (fr' := 7) (lo' := 176) (pc' := 40) C FM_lays lmM_359 d_M_fly_37 0 jM_0 kM_0 cM0 [.int (0 : Int32)] [] rfl rfl (Nat.le_of_ble_eq_true rfl) ⟨rfl, rfl⟩ (fun x h => cM_lays _ g hi σ (0 : Int32) x h) rfl (fun x4 _ => ?_)
        refine q_iload_n (pc' := 41) C 1 d_M_fly_40 rfl rfl ?_
        refine q_istore_n (pc' := 42) (lv' := [(2, .int p1), (0, .ref (g.1 0)), (1, .int p1)]) C d_M_fly_41 (by decide) rfl rfl ?_
        refine q_iconst (pc' := 43) C d_M_fly_42 ki_1 rfl ?_
        refine q_istore_n (pc' := 44) (lv' := [(3, .int (1 : Int32)), (2, .int p1), (0, .ref (g.1 0)), (1, .int p1)]) C d_M_fly_43 (by decide) rfl rfl ?_
        refine q_join (fun J7 : Int32 → St → Option (Int32 × St) => ∀ (x5 : Int32) (σ6 : St), Rt z qM_fly wM g o_w 156 [(1, .int p1), (2, .int x5)] [] σ6 (J7 x5 σ6)) (fun x5 σ6 => ?_) (fun J7 hJ7 => ?_)
        · refine q_iload_n (pc' := 157) C 0 d_M_fly_156 rfl rfl ?_
          refine q_iload_n (pc' := 158) C 1 d_M_fly_157 rfl rfl ?_
          refine q_isub (pc' := 159) C d_M_fly_158 rfl ?_
          exact q_iret C rfl d_M_fly_159 rfl
        refine Rt.sub [2, 3, 1, 0] rfl (q_lp (fun a8 : Int32 × Int32 × St => [(0, .ref (g.1 0)), (1, .int p1), (2, .int a8.1), (3, .int a8.2.1)]) (fun a8 => []) (fun a8 => a8.2.2) (fun ih9 hih9 a8 => ?_) 4000 (p1, (1 : Int32), x4))
        unfold lb_m_fly_44
        refine q_iload_n (pc' := 45) C 3 d_M_fly_44 rfl rfl ?_
        refine q_if_eq (tgt := 156) (pc' := 48) C d_M_fly_45 rfl rfl ?_ ?_
        · exact Rt.sub [1, 2] rfl (hJ7 a8.1 a8.2.2)
        · refine q_aload_n (pc' := 49) C 0 d_M_fly_48 rfl rfl ?_
          refine gM_7 (pc' := 52) C d_M_fly_49 rfl rfl ?_
          refine q_iconst (pc' := 53) C d_M_fly_52 ki_1 rfl ?_
          refine q_iald (pc' := 54) C 1 jM_1 kM_1 d_M_fly_53 rfl ?_
          refine q_let (fun x10 e10 => ?_)
          refine q_topi e10 ?_
          refine q_istore (pc' := 56) (lv' := [(4, .int x10), (0, .ref (g.1 0)), (1, .int p1), (2, .int a8.1), (3, .int a8.2.1)]) C d_M_fly_54 (by decide) rfl rfl ?_
          refine q_iload_n (pc' := 57) C 3 d_M_fly_56 rfl rfl ?_
          refine q_aload_n (pc' := 58) C 1 d_M_fly_57 rfl rfl ?_
          refine gM_135 (pc' := 61) C d_M_fly_58 rfl rfl ?_
          refine q_iload (pc' := 63) C 0 d_M_fly_61 rfl rfl ?_
          refine q_iald (pc' := 64) C 37 jM_37 kM_37 d_M_fly_63 rfl ?_
          refine q_aload_n (pc' := 65) C 1 d_M_fly_64 rfl rfl ?_
          refine gM_362 (pc' := 68) C d_M_fly_65 rfl rfl ?_
          refine q_isub (pc' := 69) C d_M_fly_68 rfl ?_
          refine q_callSr (fr' := 0) (lo' := 0) (pc' := 72) C FM_lesser lmM_267 d_M_fly_69 [.int a8.1, .int ((a8.2.2 37 (Int32.toNatClampNeg x10)) - (a8.2.2 0 4))] [] rfl rfl (Nat.le_of_ble_eq_true rfl) ⟨rfl, rfl⟩ (fun x h => cM_lesser _ g hi a8.2.2 a8.1 ((a8.2.2 37 (Int32.toNatClampNeg x10)) - (a8.2.2 0 4)) x h) rfl (fun x11 _ => ?_)
          refine q_istore (pc' := 74) (lv' := [(5, .int x11), (4, .int x10), (0, .ref (g.1 0)), (1, .int p1), (2, .int a8.1), (3, .int a8.2.1)]) C d_M_fly_72 (by decide) rfl rfl ?_
          refine q_aload_n (pc' := 75) C 2 d_M_fly_74 rfl rfl ?_
          refine q_dup (pc' := 76) C d_M_fly_75 rfl rfl ?_
          refine gM_362 (pc' := 79) C d_M_fly_76 rfl rfl ?_
          refine q_iload (pc' := 81) C 0 d_M_fly_79 rfl rfl ?_
          refine q_iadd (pc' := 82) C d_M_fly_81 rfl ?_
          refine pM_362 (pc' := 85) C d_M_fly_82 rfl rfl ?_
          refine q_let (fun σ12 e12 => ?_)
          refine q_state e12 ?_
          refine q_iload_n (pc' := 86) C 4 d_M_fly_85 rfl rfl ?_
          refine q_iload (pc' := 88) C 0 d_M_fly_86 rfl rfl ?_
          refine q_isub (pc' := 89) C d_M_fly_88 rfl ?_
          refine q_let (fun x13 e13 => ?_)
          refine q_topi e13 ?_
          refine q_istore_n (pc' := 90) (lv' := [(2, .int x13), (5, .int x11), (4, .int x10), (0, .ref (g.1 0)), (1, .int p1), (3, .int a8.2.1)]) C d_M_fly_89 (by decide) rfl rfl ?_
          refine q_aload_n (pc' := 91) C 3 d_M_fly_90 rfl rfl ?_
          refine gM_362 (pc' := 94) C d_M_fly_91 rfl rfl ?_
          refine q_aload_n (pc' := 95) C 3 d_M_fly_94 rfl rfl ?_
          refine gM_135 (pc' := 98) C d_M_fly_95 rfl rfl ?_
          refine q_iload (pc' := 100) C 2 d_M_fly_98 rfl rfl ?_
          refine q_iald (pc' := 101) C 37 jM_37 kM_37 d_M_fly_100 rfl ?_
          refine q_join (fun J15 : Int32 → Option (Int32 × St) => ∀ (x14 : Int32), Rt z qM_fly wM g o_w 133 [(0, .ref (g.1 0)), (1, .int p1), (2, .int x13), (4, .int x10)] [.int x14] σ12 (J15 x14)) (fun x14 => ?_) (fun J15 hJ15 => ?_)
          · refine q_istore_n (pc' := 134) (lv' := [(3, .int x14), (0, .ref (g.1 0)), (1, .int p1), (2, .int x13), (4, .int x10)]) C d_M_fly_133 (by decide) rfl rfl ?_
            refine q_iload_n (pc' := 135) C 0 d_M_fly_134 rfl rfl ?_
            refine q_join (fun J17 : St → Option (Int32 × St) => ∀ (σ16 : St), Rt z qM_fly wM g o_w 153 [(0, .ref (g.1 0)), (1, .int p1), (2, .int x13), (3, .int x14)] [] σ16 (J17 σ16)) (fun σ16 => ?_) (fun J17 hJ17 => ?_)
            · refine q_goto (tgt := 44) C d_M_fly_153 rfl ?_
              exact Rt.sub [0, 1, 2, 3] rfl (hih9 (x13, x14, σ16))
            refine q_if_eq (tgt := 153) (pc' := 138) C d_M_fly_135 rfl rfl ?_ ?_
            · exact Rt.sub [1, 2, 3, 0] rfl (hJ17 σ12)
            · refine q_aload_n (pc' := 139) C 1 d_M_fly_138 rfl rfl ?_
              refine gM_7 (pc' := 142) C d_M_fly_139 rfl rfl ?_
              refine q_iconst (pc' := 143) C d_M_fly_142 ki_1 rfl ?_
              refine q_iload (pc' := 145) C 4 d_M_fly_143 rfl rfl ?_
              refine q_iconst (pc' := 146) C d_M_fly_145 ki_1 rfl ?_
              refine q_iadd (pc' := 147) C d_M_fly_146 rfl ?_
              refine q_iast (pc' := 148) C 1 jM_1 kM_1 d_M_fly_147 rfl ?_
              refine q_let (fun σ18 e18 => ?_)
              refine q_state e18 ?_
              refine q_aload_n (pc' := 149) C 1 d_M_fly_148 rfl rfl ?_
              refine q_iconst (pc' := 150) C d_M_fly_149 ki_0 rfl ?_
              refine pM_362 (pc' := 153) C d_M_fly_150 rfl rfl ?_
              refine q_let (fun σ19 e19 => ?_)
              refine q_state e19 ?_
              exact Rt.sub [1, 2, 3, 0] rfl (hJ17 σ19)
          refine q_join (fun J20 : Unit → Option (Int32 × St) => ∀ (_ : Unit), Rt z qM_fly wM g o_w 132 [(0, .ref (g.1 0)), (1, .int p1), (2, .int x13), (4, .int x10)] [] σ12 (J20 ())) (fun _ => ?_) (fun J20 hJ20 => ?_)
          · refine q_iconst (pc' := 133) C d_M_fly_132 ki_0 rfl ?_
            exact Rt.sub [0, 1, 2, 3] rfl (hJ15 (0 : Int32))
          refine q_icmp_ne (tgt := 132) (pc' := 104) C d_M_fly_101 rfl rfl ?_ ?_
          · exact Rt.sub [3, 4, 0, 2] rfl (hJ20 ())
          · refine q_iload (pc' := 106) C 2 d_M_fly_104 rfl rfl ?_
            refine q_iconst (pc' := 107) C d_M_fly_106 ki_1 rfl ?_
            refine q_iadd (pc' := 108) C d_M_fly_107 rfl ?_
            refine q_aload_n (pc' := 109) C 3 d_M_fly_108 rfl rfl ?_
            refine q_iconst (pc' := 110) C d_M_fly_109 ki_0 rfl ?_
            refine q_callVr (fr' := 0) (lo' := 0) (pc' := 113) C FM_count lmM_218 d_M_fly_110 0 jM_0 kM_0 cM0 [.int (0 : Int32)] [.int (x10 + (1 : Int32))] rfl rfl (Nat.le_of_ble_eq_true rfl) ⟨rfl, rfl⟩ (fun x h => cM_count _ g hi σ12 (0 : Int32) x h) rfl (fun x21 _ => ?_)
            refine q_icmp_ge (tgt := 132) (pc' := 116) C d_M_fly_113 rfl rfl ?_ ?_
            · exact Rt.sub [3, 4, 0, 2] rfl (hJ20 ())
            · refine q_aload_n (pc' := 117) C 3 d_M_fly_116 rfl rfl ?_
              refine gM_78 (pc' := 120) C d_M_fly_117 rfl rfl ?_
              refine q_iload (pc' := 122) C 2 d_M_fly_120 rfl rfl ?_
              refine q_iconst (pc' := 123) C d_M_fly_122 ki_1 rfl ?_
              refine q_iadd (pc' := 124) C d_M_fly_123 rfl ?_
              refine q_zald (pc' := 125) C 18 jM_18 kM_18 d_M_fly_124 rfl ?_
              refine q_if_ne (tgt := 132) (pc' := 128) C d_M_fly_125 rfl rfl ?_ ?_
              · exact Rt.sub [3, 4, 0, 2] rfl (hJ20 ())
              · refine q_iconst (pc' := 129) C d_M_fly_128 ki_1 rfl ?_
                refine q_goto (tgt := 133) C d_M_fly_129 rfl ?_
                exact Rt.sub [3, 4, 0, 2] rfl (hJ15 (1 : Int32))
      · exact Rt.sub [] rfl (hJ2 ())
  · refine q_ldcw (pc' := 15) C lcM_376 d_M_fly_12 rfl ?_
    exact q_iret C rfl d_M_fly_15 rfl
theorem d_M_resume_0 : decode qM_resume.1 0 = .ok (.aload_n 0, 1) := by decide +kernel
theorem d_M_resume_1 : decode qM_resume.1 1 = .ok (.getfield 473, 3) := by decide +kernel
theorem d_M_resume_4 : decode qM_resume.1 4 = .ok (.ifCond .ne 11, 3) := by decide +kernel
theorem d_M_resume_7 : decode qM_resume.1 7 = .ok (.aload_n 0, 1) := by decide +kernel
theorem d_M_resume_8 : decode qM_resume.1 8 = .ok (.iconst 0, 1) := by decide +kernel
theorem d_M_resume_9 : decode qM_resume.1 9 = .ok (.invokevirtual 218, 3) := by decide +kernel
theorem d_M_resume_12 : decode qM_resume.1 12 = .ok (.ifCond .ne 7, 3) := by decide +kernel
theorem d_M_resume_15 : decode qM_resume.1 15 = .ok (.ldc_w 483, 3) := by decide +kernel
theorem d_M_resume_18 : decode qM_resume.1 18 = .ok (.ireturn, 1) := by decide +kernel
theorem d_M_resume_19 : decode qM_resume.1 19 = .ok (.aload_n 0, 1) := by decide +kernel
theorem d_M_resume_20 : decode qM_resume.1 20 = .ok (.iconst 0, 1) := by decide +kernel
theorem d_M_resume_21 : decode qM_resume.1 21 = .ok (.invokevirtual 359, 3) := by decide +kernel
theorem d_M_resume_24 : decode qM_resume.1 24 = .ok (.aload_n 0, 1) := by decide +kernel
theorem d_M_resume_25 : decode qM_resume.1 25 = .ok (.getfield 7, 3) := by decide +kernel
theorem d_M_resume_28 : decode qM_resume.1 28 = .ok (.iconst 1, 1) := by decide +kernel
theorem d_M_resume_29 : decode qM_resume.1 29 = .ok (.iaload, 1) := by decide +kernel
theorem d_M_resume_30 : decode qM_resume.1 30 = .ok (.istore_n 1, 1) := by decide +kernel
theorem d_M_resume_31 : decode qM_resume.1 31 = .ok (.aload_n 0, 1) := by decide +kernel
theorem d_M_resume_32 : decode qM_resume.1 32 = .ok (.getfield 362, 3) := by decide +kernel
theorem d_M_resume_35 : decode qM_resume.1 35 = .ok (.aload_n 0, 1) := by decide +kernel
theorem d_M_resume_36 : decode qM_resume.1 36 = .ok (.getfield 135, 3) := by decide +kernel
theorem d_M_resume_39 : decode qM_resume.1 39 = .ok (.iload_n 1, 1) := by decide +kernel
theorem d_M_resume_40 : decode qM_resume.1 40 = .ok (.iaload, 1) := by decide +kernel
theorem d_M_resume_41 : decode qM_resume.1 41 = .ok (.if_icmp .lt 25, 3) := by decide +kernel
theorem d_M_resume_44 : decode qM_resume.1 44 = .ok (.iload_n 1, 1) := by decide +kernel
theorem d_M_resume_45 : decode qM_resume.1 45 = .ok (.iconst 1, 1) := by decide +kernel
theorem d_M_resume_46 : decode qM_resume.1 46 = .ok (.iadd, 1) := by decide +kernel
theorem d_M_resume_47 : decode qM_resume.1 47 = .ok (.aload_n 0, 1) := by decide +kernel
theorem d_M_resume_48 : decode qM_resume.1 48 = .ok (.iconst 0, 1) := by decide +kernel
theorem d_M_resume_49 : decode qM_resume.1 49 = .ok (.invokevirtual 218, 3) := by decide +kernel
theorem d_M_resume_52 : decode qM_resume.1 52 = .ok (.if_icmp .eq 14, 3) := by decide +kernel
theorem d_M_resume_55 : decode qM_resume.1 55 = .ok (.aload_n 0, 1) := by decide +kernel
theorem d_M_resume_56 : decode qM_resume.1 56 = .ok (.getfield 78, 3) := by decide +kernel
theorem d_M_resume_59 : decode qM_resume.1 59 = .ok (.iload_n 1, 1) := by decide +kernel
theorem d_M_resume_60 : decode qM_resume.1 60 = .ok (.iconst 1, 1) := by decide +kernel
theorem d_M_resume_61 : decode qM_resume.1 61 = .ok (.iadd, 1) := by decide +kernel
theorem d_M_resume_62 : decode qM_resume.1 62 = .ok (.baload, 1) := by decide +kernel
theorem d_M_resume_63 : decode qM_resume.1 63 = .ok (.ifCond .ne 7, 3) := by decide +kernel
theorem d_M_resume_66 : decode qM_resume.1 66 = .ok (.ldc_w 483, 3) := by decide +kernel
theorem d_M_resume_69 : decode qM_resume.1 69 = .ok (.ireturn, 1) := by decide +kernel
theorem d_M_resume_70 : decode qM_resume.1 70 = .ok (.aload_n 0, 1) := by decide +kernel
theorem d_M_resume_71 : decode qM_resume.1 71 = .ok (.getfield 7, 3) := by decide +kernel
theorem d_M_resume_74 : decode qM_resume.1 74 = .ok (.iconst 1, 1) := by decide +kernel
theorem d_M_resume_75 : decode qM_resume.1 75 = .ok (.iload_n 1, 1) := by decide +kernel
theorem d_M_resume_76 : decode qM_resume.1 76 = .ok (.iconst 1, 1) := by decide +kernel
theorem d_M_resume_77 : decode qM_resume.1 77 = .ok (.iadd, 1) := by decide +kernel
theorem d_M_resume_78 : decode qM_resume.1 78 = .ok (.iastore, 1) := by decide +kernel
theorem d_M_resume_79 : decode qM_resume.1 79 = .ok (.aload_n 0, 1) := by decide +kernel
theorem d_M_resume_80 : decode qM_resume.1 80 = .ok (.iconst 0, 1) := by decide +kernel
theorem d_M_resume_81 : decode qM_resume.1 81 = .ok (.putfield 362, 3) := by decide +kernel
theorem d_M_resume_84 : decode qM_resume.1 84 = .ok (.iload_n 1, 1) := by decide +kernel
theorem d_M_resume_85 : decode qM_resume.1 85 = .ok (.iconst 1, 1) := by decide +kernel
theorem d_M_resume_86 : decode qM_resume.1 86 = .ok (.iadd, 1) := by decide +kernel
theorem d_M_resume_87 : decode qM_resume.1 87 = .ok (.ireturn, 1) := by decide +kernel
set_option maxRecDepth 100000 in
def m_resume (σ : St) : Option (Int32 × St) :=
  Jn (fun (_ : Unit) =>
  some ((-1000003 : Int32), σ)
  ) fun J1 =>
  if ((σ 0 1) : Int32) = 0 then (
  Option.bind (m_count σ (0 : Int32)) fun x2 =>
  if (x2 : Int32) = 0 then (
  J1 ()
  ) else (
  Option.bind (m_lays σ (0 : Int32)) fun x3 =>
  Gd (Ix (1 : Int32) 2673) <|
  Lt ((x3 1 (Int32.toNatClampNeg (1 : Int32))) : Int32) fun x4 =>
  Gd (Ix x4 21) <|
  Jn (fun (_ : Unit) =>
  some ((-1000003 : Int32), x3)
  ) fun J5 =>
  if ((x3 0 4) : Int32) < (x3 37 (Int32.toNatClampNeg x4)) then (
  J5 ()
  ) else (
  Option.bind (m_count x3 (0 : Int32)) fun x6 =>
  if ((x4 + (1 : Int32)) : Int32) = x6 then (
  J5 ()
  ) else (
  Gd (Ix (x4 + (1 : Int32)) 21) <|
  if ((x3 18 (Int32.toNatClampNeg (x4 + (1 : Int32)))) : Int32) = 0 then (
  J5 ()
  ) else (
  Gd (Ix (1 : Int32) 2673) <|
  Lt (s2 x3 1 (Int32.toNatClampNeg (1 : Int32)) (x4 + (1 : Int32))) fun σ7 =>
  Lt (s2 σ7 0 4 (0 : Int32)) fun σ8 =>
  some ((x4 + (1 : Int32)), σ8)
  )
  )
  )
  )
  ) else (
  J1 ()
  )
set_option maxHeartbeats 4000000 in
set_option maxRecDepth 100000 in
theorem cM_resume (l : Launch) (g : Ge) (hi : injB wM.2 g) (σ : St) (x : Int32 × St) (h : m_resume σ = some x) : Ct l wM g yM_resume qM_resume 8 199 [.ref (g.1 0)] σ (some (.int x.1), x.2) := by
  refine Ct.of (out := o_w) FM_resume rfl hi rfl h (fun z hz C => ?_)
  clear h
  subst hz
  unfold m_resume
  show Rt z qM_resume wM g o_w 0 [(0, .ref (g.1 0))] [] σ _
  refine q_aload_n (pc' := 1) C 0 d_M_resume_0 rfl rfl ?_
  refine gM_473 (pc' := 4) C d_M_resume_1 rfl rfl ?_
  refine q_join (fun J1 : Unit → Option (Int32 × St) => ∀ (_ : Unit), Rt z qM_resume wM g o_w 15 [] [] σ (J1 ())) (fun _ => ?_) (fun J1 hJ1 => ?_)
  · refine q_ldcw (pc' := 18) C lcM_483 d_M_resume_15 rfl ?_
    exact q_iret C rfl d_M_resume_18 rfl
  refine q_if_ne (tgt := 15) (pc' := 7) C d_M_resume_4 rfl rfl ?_ ?_
  · exact Rt.sub [] rfl (hJ1 ())
  · refine q_aload_n (pc' := 8) C 0 d_M_resume_7 rfl rfl ?_
    refine q_iconst (pc' := 9) C d_M_resume_8 ki_0 rfl ?_
    refine q_callVr (fr' := 0) (lo' := 0) (pc' := 12) C FM_count lmM_218 d_M_resume_9 0 jM_0 kM_0 cM0 [.int (0 : Int32)] [] rfl rfl (Nat.le_of_ble_eq_true rfl) ⟨rfl, rfl⟩ (fun x h => cM_count _ g hi σ (0 : Int32) x h) rfl (fun x2 _ => ?_)
    refine q_if_ne (tgt := 19) (pc' := 15) C d_M_resume_12 rfl rfl ?_ ?_
    · refine q_aload_n (pc' := 20) C 0 d_M_resume_19 rfl rfl ?_
      refine q_iconst (pc' := 21) C d_M_resume_20 ki_0 rfl ?_
      refine q_callVv (fr' := 7) (lo' := 176) (pc' := 24) C FM_lays lmM_359 d_M_resume_21 0 jM_0 kM_0 cM0 [.int (0 : Int32)] [] rfl rfl (Nat.le_of_ble_eq_true rfl) ⟨rfl, rfl⟩ (fun x h => cM_lays _ g hi σ (0 : Int32) x h) rfl (fun x3 _ => ?_)
      refine q_aload_n (pc' := 25) C 0 d_M_resume_24 rfl rfl ?_
      refine gM_7 (pc' := 28) C d_M_resume_25 rfl rfl ?_
      refine q_iconst (pc' := 29) C d_M_resume_28 ki_1 rfl ?_
      refine q_iald (pc' := 30) C 1 jM_1 kM_1 d_M_resume_29 rfl ?_
      refine q_let (fun x4 e4 => ?_)
      refine q_topi e4 ?_
      refine q_istore_n (pc' := 31) (lv' := [(1, .int x4), (0, .ref (g.1 0))]) C d_M_resume_30 (by decide) rfl rfl ?_
      refine q_aload_n (pc' := 32) C 1 d_M_resume_31 rfl rfl ?_
      refine gM_362 (pc' := 35) C d_M_resume_32 rfl rfl ?_
      refine q_aload_n (pc' := 36) C 1 d_M_resume_35 rfl rfl ?_
      refine gM_135 (pc' := 39) C d_M_resume_36 rfl rfl ?_
      refine q_iload_n (pc' := 40) C 0 d_M_resume_39 rfl rfl ?_
      refine q_iald (pc' := 41) C 37 jM_37 kM_37 d_M_resume_40 rfl ?_
      refine q_join (fun J5 : Unit → Option (Int32 × St) => ∀ (_ : Unit), Rt z qM_resume wM g o_w 66 [] [] x3 (J5 ())) (fun _ => ?_) (fun J5 hJ5 => ?_)
      · refine q_ldcw (pc' := 69) C lcM_483 d_M_resume_66 rfl ?_
        exact q_iret C rfl d_M_resume_69 rfl
      refine q_icmp_lt (tgt := 66) (pc' := 44) C d_M_resume_41 rfl rfl ?_ ?_
      · exact Rt.sub [] rfl (hJ5 ())
      · refine q_iload_n (pc' := 45) C 0 d_M_resume_44 rfl rfl ?_
        refine q_iconst (pc' := 46) C d_M_resume_45 ki_1 rfl ?_
        refine q_iadd (pc' := 47) C d_M_resume_46 rfl ?_
        refine q_aload_n (pc' := 48) C 1 d_M_resume_47 rfl rfl ?_
        refine q_iconst (pc' := 49) C d_M_resume_48 ki_0 rfl ?_
        refine q_callVr (fr' := 0) (lo' := 0) (pc' := 52) C FM_count lmM_218 d_M_resume_49 0 jM_0 kM_0 cM0 [.int (0 : Int32)] [.int (x4 + (1 : Int32))] rfl rfl (Nat.le_of_ble_eq_true rfl) ⟨rfl, rfl⟩ (fun x h => cM_count _ g hi x3 (0 : Int32) x h) rfl (fun x6 _ => ?_)
        refine q_icmp_eq (tgt := 66) (pc' := 55) C d_M_resume_52 rfl rfl ?_ ?_
        · exact Rt.sub [] rfl (hJ5 ())
        · refine q_aload_n (pc' := 56) C 1 d_M_resume_55 rfl rfl ?_
          refine gM_78 (pc' := 59) C d_M_resume_56 rfl rfl ?_
          refine q_iload_n (pc' := 60) C 0 d_M_resume_59 rfl rfl ?_
          refine q_iconst (pc' := 61) C d_M_resume_60 ki_1 rfl ?_
          refine q_iadd (pc' := 62) C d_M_resume_61 rfl ?_
          refine q_zald (pc' := 63) C 18 jM_18 kM_18 d_M_resume_62 rfl ?_
          refine q_if_ne (tgt := 70) (pc' := 66) C d_M_resume_63 rfl rfl ?_ ?_
          · refine q_aload_n (pc' := 71) C 1 d_M_resume_70 rfl rfl ?_
            refine gM_7 (pc' := 74) C d_M_resume_71 rfl rfl ?_
            refine q_iconst (pc' := 75) C d_M_resume_74 ki_1 rfl ?_
            refine q_iload_n (pc' := 76) C 0 d_M_resume_75 rfl rfl ?_
            refine q_iconst (pc' := 77) C d_M_resume_76 ki_1 rfl ?_
            refine q_iadd (pc' := 78) C d_M_resume_77 rfl ?_
            refine q_iast (pc' := 79) C 1 jM_1 kM_1 d_M_resume_78 rfl ?_
            refine q_let (fun σ7 e7 => ?_)
            refine q_state e7 ?_
            refine q_aload_n (pc' := 80) C 1 d_M_resume_79 rfl rfl ?_
            refine q_iconst (pc' := 81) C d_M_resume_80 ki_0 rfl ?_
            refine pM_362 (pc' := 84) C d_M_resume_81 rfl rfl ?_
            refine q_let (fun σ8 e8 => ?_)
            refine q_state e8 ?_
            refine q_iload_n (pc' := 85) C 0 d_M_resume_84 rfl rfl ?_
            refine q_iconst (pc' := 86) C d_M_resume_85 ki_1 rfl ?_
            refine q_iadd (pc' := 87) C d_M_resume_86 rfl ?_
            exact q_iret C rfl d_M_resume_87 rfl
          · exact Rt.sub [] rfl (hJ5 ())
    · exact Rt.sub [] rfl (hJ1 ())
theorem d_M_currentLeg_0 : decode qM_currentLeg.1 0 = .ok (.aload_n 0, 1) := by decide +kernel
theorem d_M_currentLeg_1 : decode qM_currentLeg.1 1 = .ok (.iconst 0, 1) := by decide +kernel
theorem d_M_currentLeg_2 : decode qM_currentLeg.1 2 = .ok (.invokevirtual 218, 3) := by decide +kernel
theorem d_M_currentLeg_5 : decode qM_currentLeg.1 5 = .ok (.ifCond .ne 9, 3) := by decide +kernel
theorem d_M_currentLeg_8 : decode qM_currentLeg.1 8 = .ok (.ldc_w 453, 3) := by decide +kernel
theorem d_M_currentLeg_11 : decode qM_currentLeg.1 11 = .ok (.goto 9, 3) := by decide +kernel
theorem d_M_currentLeg_14 : decode qM_currentLeg.1 14 = .ok (.aload_n 0, 1) := by decide +kernel
theorem d_M_currentLeg_15 : decode qM_currentLeg.1 15 = .ok (.getfield 7, 3) := by decide +kernel
theorem d_M_currentLeg_18 : decode qM_currentLeg.1 18 = .ok (.iconst 1, 1) := by decide +kernel
theorem d_M_currentLeg_19 : decode qM_currentLeg.1 19 = .ok (.iaload, 1) := by decide +kernel
theorem d_M_currentLeg_20 : decode qM_currentLeg.1 20 = .ok (.ireturn, 1) := by decide +kernel
set_option maxRecDepth 100000 in
def m_currentLeg (σ : St) : Option (Int32) :=
  Option.bind (m_count σ (0 : Int32)) fun x1 =>
  Jn (fun (x2 : Int32) =>
  some x2
  ) fun J3 =>
  if (x1 : Int32) = 0 then (
  J3 (-1000000 : Int32)
  ) else (
  Gd (Ix (1 : Int32) 2673) <|
  J3 (σ 1 (Int32.toNatClampNeg (1 : Int32)))
  )
set_option maxHeartbeats 4000000 in
set_option maxRecDepth 100000 in
theorem cM_currentLeg (l : Launch) (g : Ge) (hi : injB wM.2 g) (σ : St) (x : Int32) (h : m_currentLeg σ = some x) : Ct l wM g yM_currentLeg qM_currentLeg 1 21 [.ref (g.1 0)] σ (some (.int x), σ) := by
  refine Ct.of (out := (o_r σ)) FM_currentLeg rfl hi rfl h (fun z hz C => ?_)
  clear h
  subst hz
  unfold m_currentLeg
  show Rt z qM_currentLeg wM g (o_r σ) 0 [(0, .ref (g.1 0))] [] σ _
  refine q_aload_n (pc' := 1) C 0 d_M_currentLeg_0 rfl rfl ?_
  refine q_iconst (pc' := 2) C d_M_currentLeg_1 ki_0 rfl ?_
  refine q_callVr (fr' := 0) (lo' := 0) (pc' := 5) C FM_count lmM_218 d_M_currentLeg_2 0 jM_0 kM_0 cM0 [.int (0 : Int32)] [] rfl rfl (Nat.le_of_ble_eq_true rfl) ⟨rfl, rfl⟩ (fun x h => cM_count _ g hi σ (0 : Int32) x h) rfl (fun x1 _ => ?_)
  refine q_join (fun J3 : Int32 → Option (Int32) => ∀ (x2 : Int32), Rt z qM_currentLeg wM g (o_r σ) 20 [] [.int x2] σ (J3 x2)) (fun x2 => ?_) (fun J3 hJ3 => ?_)
  · exact q_iret C rfl d_M_currentLeg_20 rfl
  refine q_if_ne (tgt := 14) (pc' := 8) C d_M_currentLeg_5 rfl rfl ?_ ?_
  · refine q_aload_n (pc' := 15) C 0 d_M_currentLeg_14 rfl rfl ?_
    refine gM_7 (pc' := 18) C d_M_currentLeg_15 rfl rfl ?_
    refine q_iconst (pc' := 19) C d_M_currentLeg_18 ki_1 rfl ?_
    refine q_iald (pc' := 20) C 1 jM_1 kM_1 d_M_currentLeg_19 rfl ?_
    exact Rt.sub [] rfl (hJ3 (σ 1 (Int32.toNatClampNeg (1 : Int32))))
  · refine q_ldcw (pc' := 11) C lcM_453 d_M_currentLeg_8 rfl ?_
    refine q_goto (tgt := 20) C d_M_currentLeg_11 rfl ?_
    exact Rt.sub [] rfl (hJ3 (-1000000 : Int32))
theorem d_M_flownLength_0 : decode qM_flownLength.1 0 = .ok (.aload_n 0, 1) := by decide +kernel
theorem d_M_flownLength_1 : decode qM_flownLength.1 1 = .ok (.iconst 0, 1) := by decide +kernel
theorem d_M_flownLength_2 : decode qM_flownLength.1 2 = .ok (.invokevirtual 218, 3) := by decide +kernel
theorem d_M_flownLength_5 : decode qM_flownLength.1 5 = .ok (.ifCond .ne 9, 3) := by decide +kernel
theorem d_M_flownLength_8 : decode qM_flownLength.1 8 = .ok (.ldc_w 453, 3) := by decide +kernel
theorem d_M_flownLength_11 : decode qM_flownLength.1 11 = .ok (.goto 7, 3) := by decide +kernel
theorem d_M_flownLength_14 : decode qM_flownLength.1 14 = .ok (.aload_n 0, 1) := by decide +kernel
theorem d_M_flownLength_15 : decode qM_flownLength.1 15 = .ok (.getfield 362, 3) := by decide +kernel
theorem d_M_flownLength_18 : decode qM_flownLength.1 18 = .ok (.ireturn, 1) := by decide +kernel
set_option maxRecDepth 100000 in
def m_flownLength (σ : St) : Option (Int32) :=
  Option.bind (m_count σ (0 : Int32)) fun x1 =>
  Jn (fun (x2 : Int32) =>
  some x2
  ) fun J3 =>
  if (x1 : Int32) = 0 then (
  J3 (-1000000 : Int32)
  ) else (
  J3 (σ 0 4)
  )
set_option maxHeartbeats 4000000 in
set_option maxRecDepth 100000 in
theorem cM_flownLength (l : Launch) (g : Ge) (hi : injB wM.2 g) (σ : St) (x : Int32) (h : m_flownLength σ = some x) : Ct l wM g yM_flownLength qM_flownLength 1 21 [.ref (g.1 0)] σ (some (.int x), σ) := by
  refine Ct.of (out := (o_r σ)) FM_flownLength rfl hi rfl h (fun z hz C => ?_)
  clear h
  subst hz
  unfold m_flownLength
  show Rt z qM_flownLength wM g (o_r σ) 0 [(0, .ref (g.1 0))] [] σ _
  refine q_aload_n (pc' := 1) C 0 d_M_flownLength_0 rfl rfl ?_
  refine q_iconst (pc' := 2) C d_M_flownLength_1 ki_0 rfl ?_
  refine q_callVr (fr' := 0) (lo' := 0) (pc' := 5) C FM_count lmM_218 d_M_flownLength_2 0 jM_0 kM_0 cM0 [.int (0 : Int32)] [] rfl rfl (Nat.le_of_ble_eq_true rfl) ⟨rfl, rfl⟩ (fun x h => cM_count _ g hi σ (0 : Int32) x h) rfl (fun x1 _ => ?_)
  refine q_join (fun J3 : Int32 → Option (Int32) => ∀ (x2 : Int32), Rt z qM_flownLength wM g (o_r σ) 18 [] [.int x2] σ (J3 x2)) (fun x2 => ?_) (fun J3 hJ3 => ?_)
  · exact q_iret C rfl d_M_flownLength_18 rfl
  refine q_if_ne (tgt := 14) (pc' := 8) C d_M_flownLength_5 rfl rfl ?_ ?_
  · refine q_aload_n (pc' := 15) C 0 d_M_flownLength_14 rfl rfl ?_
    refine gM_362 (pc' := 18) C d_M_flownLength_15 rfl rfl ?_
    exact Rt.sub [] rfl (hJ3 (σ 0 4))
  · refine q_ldcw (pc' := 11) C lcM_453 d_M_flownLength_8 rfl ?_
    refine q_goto (tgt := 18) C d_M_flownLength_11 rfl ?_
    exact Rt.sub [] rfl (hJ3 (-1000000 : Int32))
theorem d_M_positionX_0 : decode qM_positionX.1 0 = .ok (.aload_n 0, 1) := by decide +kernel
theorem d_M_positionX_1 : decode qM_positionX.1 1 = .ok (.invokevirtual 512, 3) := by decide +kernel
theorem d_M_positionX_4 : decode qM_positionX.1 4 = .ok (.ifCond .eq 10, 3) := by decide +kernel
theorem d_M_positionX_7 : decode qM_positionX.1 7 = .ok (.aload_n 0, 1) := by decide +kernel
theorem d_M_positionX_8 : decode qM_positionX.1 8 = .ok (.getfield 365, 3) := by decide +kernel
theorem d_M_positionX_11 : decode qM_positionX.1 11 = .ok (.goto 6, 3) := by decide +kernel
theorem d_M_positionX_14 : decode qM_positionX.1 14 = .ok (.ldc_w 453, 3) := by decide +kernel
theorem d_M_positionX_17 : decode qM_positionX.1 17 = .ok (.ireturn, 1) := by decide +kernel
set_option maxRecDepth 100000 in
def m_positionX (σ : St) : Option (Int32 × St) :=
  Option.bind (m_hasPosition σ) fun x1 =>
  Jn (fun (x2 : Int32) =>
  some (x2, x1.2)
  ) fun J3 =>
  if (x1.1 : Int32) = 0 then (
  J3 (-1000000 : Int32)
  ) else (
  J3 (x1.2 0 64)
  )
set_option maxHeartbeats 4000000 in
set_option maxRecDepth 100000 in
theorem cM_positionX (l : Launch) (g : Ge) (hi : injB wM.2 g) (σ : St) (x : Int32 × St) (h : m_positionX σ = some x) : Ct l wM g yM_positionX qM_positionX 9 226 [.ref (g.1 0)] σ (some (.int x.1), x.2) := by
  refine Ct.of (out := o_w) FM_positionX rfl hi rfl h (fun z hz C => ?_)
  clear h
  subst hz
  unfold m_positionX
  show Rt z qM_positionX wM g o_w 0 [(0, .ref (g.1 0))] [] σ _
  refine q_aload_n (pc' := 1) C 0 d_M_positionX_0 rfl rfl ?_
  refine q_callVw (fr' := 8) (lo' := 199) (pc' := 4) C FM_hasPosition lmM_512 d_M_positionX_1 0 jM_0 kM_0 cM0 [] [] rfl rfl (Nat.le_of_ble_eq_true rfl) ⟨rfl, rfl⟩ (fun x h => cM_hasPosition _ g hi σ x h) rfl (fun x1 _ => ?_)
  refine q_join (fun J3 : Int32 → Option (Int32 × St) => ∀ (x2 : Int32), Rt z qM_positionX wM g o_w 17 [] [.int x2] x1.2 (J3 x2)) (fun x2 => ?_) (fun J3 hJ3 => ?_)
  · exact q_iret C rfl d_M_positionX_17 rfl
  refine q_if_eq (tgt := 14) (pc' := 7) C d_M_positionX_4 rfl rfl ?_ ?_
  · refine q_ldcw (pc' := 17) C lcM_453 d_M_positionX_14 rfl ?_
    exact Rt.sub [] rfl (hJ3 (-1000000 : Int32))
  · refine q_aload_n (pc' := 8) C 0 d_M_positionX_7 rfl rfl ?_
    refine gM_365 (pc' := 11) C d_M_positionX_8 rfl rfl ?_
    refine q_goto (tgt := 17) C d_M_positionX_11 rfl ?_
    exact Rt.sub [] rfl (hJ3 (x1.2 0 64))
theorem d_M_positionY_0 : decode qM_positionY.1 0 = .ok (.aload_n 0, 1) := by decide +kernel
theorem d_M_positionY_1 : decode qM_positionY.1 1 = .ok (.invokevirtual 512, 3) := by decide +kernel
theorem d_M_positionY_4 : decode qM_positionY.1 4 = .ok (.ifCond .eq 10, 3) := by decide +kernel
theorem d_M_positionY_7 : decode qM_positionY.1 7 = .ok (.aload_n 0, 1) := by decide +kernel
theorem d_M_positionY_8 : decode qM_positionY.1 8 = .ok (.getfield 368, 3) := by decide +kernel
theorem d_M_positionY_11 : decode qM_positionY.1 11 = .ok (.goto 6, 3) := by decide +kernel
theorem d_M_positionY_14 : decode qM_positionY.1 14 = .ok (.ldc_w 453, 3) := by decide +kernel
theorem d_M_positionY_17 : decode qM_positionY.1 17 = .ok (.ireturn, 1) := by decide +kernel
set_option maxRecDepth 100000 in
def m_positionY (σ : St) : Option (Int32 × St) :=
  Option.bind (m_hasPosition σ) fun x1 =>
  Jn (fun (x2 : Int32) =>
  some (x2, x1.2)
  ) fun J3 =>
  if (x1.1 : Int32) = 0 then (
  J3 (-1000000 : Int32)
  ) else (
  J3 (x1.2 0 65)
  )
set_option maxHeartbeats 4000000 in
set_option maxRecDepth 100000 in
theorem cM_positionY (l : Launch) (g : Ge) (hi : injB wM.2 g) (σ : St) (x : Int32 × St) (h : m_positionY σ = some x) : Ct l wM g yM_positionY qM_positionY 9 226 [.ref (g.1 0)] σ (some (.int x.1), x.2) := by
  refine Ct.of (out := o_w) FM_positionY rfl hi rfl h (fun z hz C => ?_)
  clear h
  subst hz
  unfold m_positionY
  show Rt z qM_positionY wM g o_w 0 [(0, .ref (g.1 0))] [] σ _
  refine q_aload_n (pc' := 1) C 0 d_M_positionY_0 rfl rfl ?_
  refine q_callVw (fr' := 8) (lo' := 199) (pc' := 4) C FM_hasPosition lmM_512 d_M_positionY_1 0 jM_0 kM_0 cM0 [] [] rfl rfl (Nat.le_of_ble_eq_true rfl) ⟨rfl, rfl⟩ (fun x h => cM_hasPosition _ g hi σ x h) rfl (fun x1 _ => ?_)
  refine q_join (fun J3 : Int32 → Option (Int32 × St) => ∀ (x2 : Int32), Rt z qM_positionY wM g o_w 17 [] [.int x2] x1.2 (J3 x2)) (fun x2 => ?_) (fun J3 hJ3 => ?_)
  · exact q_iret C rfl d_M_positionY_17 rfl
  refine q_if_eq (tgt := 14) (pc' := 7) C d_M_positionY_4 rfl rfl ?_ ?_
  · refine q_ldcw (pc' := 17) C lcM_453 d_M_positionY_14 rfl ?_
    exact Rt.sub [] rfl (hJ3 (-1000000 : Int32))
  · refine q_aload_n (pc' := 8) C 0 d_M_positionY_7 rfl rfl ?_
    refine gM_368 (pc' := 11) C d_M_positionY_8 rfl rfl ?_
    refine q_goto (tgt := 17) C d_M_positionY_11 rfl ?_
    exact Rt.sub [] rfl (hJ3 (x1.2 0 65))
theorem d_M_presentCourse_0 : decode qM_presentCourse.1 0 = .ok (.aload_n 0, 1) := by decide +kernel
theorem d_M_presentCourse_1 : decode qM_presentCourse.1 1 = .ok (.invokevirtual 512, 3) := by decide +kernel
theorem d_M_presentCourse_4 : decode qM_presentCourse.1 4 = .ok (.ifCond .eq 10, 3) := by decide +kernel
theorem d_M_presentCourse_7 : decode qM_presentCourse.1 7 = .ok (.aload_n 0, 1) := by decide +kernel
theorem d_M_presentCourse_8 : decode qM_presentCourse.1 8 = .ok (.getfield 371, 3) := by decide +kernel
theorem d_M_presentCourse_11 : decode qM_presentCourse.1 11 = .ok (.goto 6, 3) := by decide +kernel
theorem d_M_presentCourse_14 : decode qM_presentCourse.1 14 = .ok (.ldc_w 453, 3) := by decide +kernel
theorem d_M_presentCourse_17 : decode qM_presentCourse.1 17 = .ok (.ireturn, 1) := by decide +kernel
set_option maxRecDepth 100000 in
def m_presentCourse (σ : St) : Option (Int32 × St) :=
  Option.bind (m_hasPosition σ) fun x1 =>
  Jn (fun (x2 : Int32) =>
  some (x2, x1.2)
  ) fun J3 =>
  if (x1.1 : Int32) = 0 then (
  J3 (-1000000 : Int32)
  ) else (
  J3 (x1.2 0 66)
  )
set_option maxHeartbeats 4000000 in
set_option maxRecDepth 100000 in
theorem cM_presentCourse (l : Launch) (g : Ge) (hi : injB wM.2 g) (σ : St) (x : Int32 × St) (h : m_presentCourse σ = some x) : Ct l wM g yM_presentCourse qM_presentCourse 9 226 [.ref (g.1 0)] σ (some (.int x.1), x.2) := by
  refine Ct.of (out := o_w) FM_presentCourse rfl hi rfl h (fun z hz C => ?_)
  clear h
  subst hz
  unfold m_presentCourse
  show Rt z qM_presentCourse wM g o_w 0 [(0, .ref (g.1 0))] [] σ _
  refine q_aload_n (pc' := 1) C 0 d_M_presentCourse_0 rfl rfl ?_
  refine q_callVw (fr' := 8) (lo' := 199) (pc' := 4) C FM_hasPosition lmM_512 d_M_presentCourse_1 0 jM_0 kM_0 cM0 [] [] rfl rfl (Nat.le_of_ble_eq_true rfl) ⟨rfl, rfl⟩ (fun x h => cM_hasPosition _ g hi σ x h) rfl (fun x1 _ => ?_)
  refine q_join (fun J3 : Int32 → Option (Int32 × St) => ∀ (x2 : Int32), Rt z qM_presentCourse wM g o_w 17 [] [.int x2] x1.2 (J3 x2)) (fun x2 => ?_) (fun J3 hJ3 => ?_)
  · exact q_iret C rfl d_M_presentCourse_17 rfl
  refine q_if_eq (tgt := 14) (pc' := 7) C d_M_presentCourse_4 rfl rfl ?_ ?_
  · refine q_ldcw (pc' := 17) C lcM_453 d_M_presentCourse_14 rfl ?_
    exact Rt.sub [] rfl (hJ3 (-1000000 : Int32))
  · refine q_aload_n (pc' := 8) C 0 d_M_presentCourse_7 rfl rfl ?_
    refine gM_371 (pc' := 11) C d_M_presentCourse_8 rfl rfl ?_
    refine q_goto (tgt := 17) C d_M_presentCourse_11 rfl ?_
    exact Rt.sub [] rfl (hJ3 (x1.2 0 66))
