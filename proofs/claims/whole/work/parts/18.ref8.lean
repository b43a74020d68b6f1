/-! the reference, methods 8 -/
theorem d_M_directSaving_0 : decode qM_directSaving.1 0 = .ok (.aload_n 0, 1) := by decide +kernel
theorem d_M_directSaving_1 : decode qM_directSaving.1 1 = .ok (.iconst 0, 1) := by decide +kernel
theorem d_M_directSaving_2 : decode qM_directSaving.1 2 = .ok (.iload_n 1, 1) := by decide +kernel
theorem d_M_directSaving_3 : decode qM_directSaving.1 3 = .ok (.invokevirtual 503, 3) := by decide +kernel
theorem d_M_directSaving_6 : decode qM_directSaving.1 6 = .ok (.ifCond .ne 7, 3) := by decide +kernel
theorem d_M_directSaving_9 : decode qM_directSaving.1 9 = .ok (.ldc_w 493, 3) := by decide +kernel
theorem d_M_directSaving_12 : decode qM_directSaving.1 12 = .ok (.ireturn, 1) := by decide +kernel
theorem d_M_directSaving_13 : decode qM_directSaving.1 13 = .ok (.aload_n 0, 1) := by decide +kernel
theorem d_M_directSaving_14 : decode qM_directSaving.1 14 = .ok (.getfield 7, 3) := by decide +kernel
theorem d_M_directSaving_17 : decode qM_directSaving.1 17 = .ok (.iconst 1, 1) := by decide +kernel
theorem d_M_directSaving_18 : decode qM_directSaving.1 18 = .ok (.iaload, 1) := by decide +kernel
theorem d_M_directSaving_19 : decode qM_directSaving.1 19 = .ok (.istore_n 2, 1) := by decide +kernel
theorem d_M_directSaving_20 : decode qM_directSaving.1 20 = .ok (.iload_n 1, 1) := by decide +kernel
theorem d_M_directSaving_21 : decode qM_directSaving.1 21 = .ok (.iload_n 2, 1) := by decide +kernel
theorem d_M_directSaving_22 : decode qM_directSaving.1 22 = .ok (.if_icmp .lt 23, 3) := by decide +kernel
theorem d_M_directSaving_25 : decode qM_directSaving.1 25 = .ok (.aload_n 0, 1) := by decide +kernel
theorem d_M_directSaving_26 : decode qM_directSaving.1 26 = .ok (.iconst 0, 1) := by decide +kernel
theorem d_M_directSaving_27 : decode qM_directSaving.1 27 = .ok (.iload_n 1, 1) := by decide +kernel
theorem d_M_directSaving_28 : decode qM_directSaving.1 28 = .ok (.iconst 0, 1) := by decide +kernel
theorem d_M_directSaving_29 : decode qM_directSaving.1 29 = .ok (.invokevirtual 168, 3) := by decide +kernel
theorem d_M_directSaving_32 : decode qM_directSaving.1 32 = .ok (.invokestatic 263, 3) := by decide +kernel
theorem d_M_directSaving_35 : decode qM_directSaving.1 35 = .ok (.ifCond .eq 10, 3) := by decide +kernel
theorem d_M_directSaving_38 : decode qM_directSaving.1 38 = .ok (.aload_n 0, 1) := by decide +kernel
theorem d_M_directSaving_39 : decode qM_directSaving.1 39 = .ok (.invokevirtual 512, 3) := by decide +kernel
theorem d_M_directSaving_42 : decode qM_directSaving.1 42 = .ok (.ifCond .ne 7, 3) := by decide +kernel
theorem d_M_directSaving_45 : decode qM_directSaving.1 45 = .ok (.ldc_w 483, 3) := by decide +kernel
theorem d_M_directSaving_48 : decode qM_directSaving.1 48 = .ok (.ireturn, 1) := by decide +kernel
theorem d_M_directSaving_49 : decode qM_directSaving.1 49 = .ok (.aload_n 0, 1) := by decide +kernel
theorem d_M_directSaving_50 : decode qM_directSaving.1 50 = .ok (.iload_n 1, 1) := by decide +kernel
theorem d_M_directSaving_51 : decode qM_directSaving.1 51 = .ok (.invokevirtual 520, 3) := by decide +kernel
theorem d_M_directSaving_54 : decode qM_directSaving.1 54 = .ok (.aload_n 0, 1) := by decide +kernel
theorem d_M_directSaving_55 : decode qM_directSaving.1 55 = .ok (.iload_n 2, 1) := by decide +kernel
theorem d_M_directSaving_56 : decode qM_directSaving.1 56 = .ok (.iconst 1, 1) := by decide +kernel
theorem d_M_directSaving_57 : decode qM_directSaving.1 57 = .ok (.isub, 1) := by decide +kernel
theorem d_M_directSaving_58 : decode qM_directSaving.1 58 = .ok (.invokevirtual 520, 3) := by decide +kernel
theorem d_M_directSaving_61 : decode qM_directSaving.1 61 = .ok (.isub, 1) := by decide +kernel
theorem d_M_directSaving_62 : decode qM_directSaving.1 62 = .ok (.aload_n 0, 1) := by decide +kernel
theorem d_M_directSaving_63 : decode qM_directSaving.1 63 = .ok (.getfield 362, 3) := by decide +kernel
theorem d_M_directSaving_66 : decode qM_directSaving.1 66 = .ok (.isub, 1) := by decide +kernel
theorem d_M_directSaving_67 : decode qM_directSaving.1 67 = .ok (.istore_n 3, 1) := by decide +kernel
theorem d_M_directSaving_68 : decode qM_directSaving.1 68 = .ok (.aload_n 0, 1) := by decide +kernel
theorem d_M_directSaving_69 : decode qM_directSaving.1 69 = .ok (.iconst 0, 1) := by decide +kernel
theorem d_M_directSaving_70 : decode qM_directSaving.1 70 = .ok (.iload_n 1, 1) := by decide +kernel
theorem d_M_directSaving_71 : decode qM_directSaving.1 71 = .ok (.invokevirtual 515, 3) := by decide +kernel
theorem d_M_directSaving_74 : decode qM_directSaving.1 74 = .ok (.aload_n 0, 1) := by decide +kernel
theorem d_M_directSaving_75 : decode qM_directSaving.1 75 = .ok (.sipush 594, 3) := by decide +kernel
theorem d_M_directSaving_78 : decode qM_directSaving.1 78 = .ok (.invokevirtual 359, 3) := by decide +kernel
theorem d_M_directSaving_81 : decode qM_directSaving.1 81 = .ok (.iload_n 3, 1) := by decide +kernel
theorem d_M_directSaving_82 : decode qM_directSaving.1 82 = .ok (.aload_n 0, 1) := by decide +kernel
theorem d_M_directSaving_83 : decode qM_directSaving.1 83 = .ok (.getfield 135, 3) := by decide +kernel
theorem d_M_directSaving_86 : decode qM_directSaving.1 86 = .ok (.iconst 1, 1) := by decide +kernel
theorem d_M_directSaving_87 : decode qM_directSaving.1 87 = .ok (.iaload, 1) := by decide +kernel
theorem d_M_directSaving_88 : decode qM_directSaving.1 88 = .ok (.isub, 1) := by decide +kernel
theorem d_M_directSaving_89 : decode qM_directSaving.1 89 = .ok (.ireturn, 1) := by decide +kernel
set_option maxRecDepth 100000 in
def m_directSaving (σ : St) (p1 : Int32) : Option (Int32 × St) :=
  Option.bind (m_isLeg σ (0 : Int32) p1) fun x1 =>
  if (x1 : Int32) = 0 then (
  some ((-1000001 : Int32), σ)
  ) else (
  Gd (Ix (1 : Int32) 2673) <|
  Lt ((σ 1 (Int32.toNatClampNeg (1 : Int32))) : Int32) fun x2 =>
  Jn (fun (σ3 : St) =>
  some ((-1000003 : Int32), σ3)
  ) fun J4 =>
  if (p1 : Int32) < x2 then (
  J4 σ
  ) else (
  Option.bind (m_of σ (0 : Int32) p1 (0 : Int32)) fun x5 =>
  Option.bind (m_hasFix x5) fun x6 =>
  if (x6 : Int32) = 0 then (
  J4 σ
  ) else (
  Option.bind (m_hasPosition σ) fun x7 =>
  if (x7.1 : Int32) = 0 then (
  J4 x7.2
  ) else (
  Option.bind (m_lengthUpTo x7.2 p1) fun x8 =>
  Option.bind (m_lengthUpTo x7.2 (x2 - (1 : Int32))) fun x9 =>
  Lt (((x8 - x9) - (x7.2 0 4)) : Int32) fun x10 =>
  Option.bind (m_laysDirect x7.2 (0 : Int32) p1) fun x11 =>
  Option.bind (m_lays x11 (594 : Int32)) fun x12 =>
  Gd (Ix (1 : Int32) 21) <|
  some ((x10 - (x12 37 (Int32.toNatClampNeg (1 : Int32)))), x12)
  )
  )
  )
  )
set_option maxHeartbeats 4000000 in
set_option maxRecDepth 100000 in
theorem cM_directSaving (l : Launch) (g : Ge) (hi : injB wM.2 g) (σ : St) (p1 : Int32) (x : Int32 × St) (h : m_directSaving σ p1 = some x) : Ct l wM g yM_directSaving qM_directSaving 9 226 [.ref (g.1 0), .int p1] σ (some (.int x.1), x.2) := by
  refine Ct.of (out := o_w) FM_directSaving rfl hi rfl h (fun z hz C => ?_)
  clear h
  subst hz
  unfold m_directSaving
  show Rt z qM_directSaving wM g o_w 0 [(0, .ref (g.1 0)), (1, .int p1)] [] σ _
  refine q_aload_n (pc' := 1) C 0 d_M_directSaving_0 rfl rfl ?_
  refine q_iconst (pc' := 2) C d_M_directSaving_1 ki_0 rfl ?_
  refine q_iload_n (pc' := 3) C 1 d_M_directSaving_2 rfl rfl ?_
  refine q_callVr (fr' := 1) (lo' := 25) (pc' := 6) C FM_isLeg lmM_503 d_M_directSaving_3 0 jM_0 kM_0 cM0 [.int (0 : Int32), .int p1] [] rfl rfl (Nat.le_of_ble_eq_true rfl) ⟨rfl, rfl⟩ (fun x h => cM_isLeg _ g hi σ (0 : Int32) p1 x h) rfl (fun x1 _ => ?_)
  refine q_if_ne (tgt := 13) (pc' := 9) C d_M_directSaving_6 rfl rfl ?_ ?_
  · refine q_aload_n (pc' := 14) C 0 d_M_directSaving_13 rfl rfl ?_
    refine gM_7 (pc' := 17) C d_M_directSaving_14 rfl rfl ?_
    refine q_iconst (pc' := 18) C d_M_directSaving_17 ki_1 rfl ?_
    refine q_iald (pc' := 19) C 1 jM_1 kM_1 d_M_directSaving_18 rfl ?_
    refine q_let (fun x2 e2 => ?_)
    refine q_topi e2 ?_
    refine q_istore_n (pc' := 20) (lv' := [(2, .int x2), (0, .ref (g.1 0)), (1, .int p1)]) C d_M_directSaving_19 (by decide) rfl rfl ?_
    refine q_iload_n (pc' := 21) C 2 d_M_directSaving_20 rfl rfl ?_
    refine q_iload_n (pc' := 22) C 0 d_M_directSaving_21 rfl rfl ?_
    refine q_join (fun J4 : St → Option (Int32 × St) => ∀ (σ3 : St), Rt z qM_directSaving wM g o_w 45 [] [] σ3 (J4 σ3)) (fun σ3 => ?_) (fun J4 hJ4 => ?_)
    · refine q_ldcw (pc' := 48) C lcM_483 d_M_directSaving_45 rfl ?_
      exact q_iret C rfl d_M_directSaving_48 rfl
    refine q_icmp_lt (tgt := 45) (pc' := 25) C d_M_directSaving_22 rfl rfl ?_ ?_
    · exact Rt.sub [] rfl (hJ4 σ)
    · refine q_aload_n (pc' := 26) C 1 d_M_directSaving_25 rfl rfl ?_
      refine q_iconst (pc' := 27) C d_M_directSaving_26 ki_0 rfl ?_
      refine q_iload_n (pc' := 28) C 2 d_M_directSaving_27 rfl rfl ?_
      refine q_iconst (pc' := 29) C d_M_directSaving_28 ki_0 rfl ?_
      refine q_callVr (fr' := 0) (lo' := 0) (pc' := 32) C FM_of lmM_168 d_M_directSaving_29 0 jM_0 kM_0 cM0 [.int (0 : Int32), .int p1, .int (0 : Int32)] [] rfl rfl (Nat.le_of_ble_eq_true rfl) ⟨rfl, rfl⟩ (fun x h => cM_of _ g hi σ (0 : Int32) p1 (0 : Int32) x h) rfl (fun x5 _ => ?_)
      refine q_callSr (fr' := 0) (lo' := 0) (pc' := 35) C FM_hasFix lmM_263 d_M_directSaving_32 [.int x5] [] rfl rfl (Nat.le_of_ble_eq_true rfl) ⟨rfl, rfl⟩ (fun x h => cM_hasFix _ g hi σ x5 x h) rfl (fun x6 _ => ?_)
      refine q_if_eq (tgt := 45) (pc' := 38) C d_M_directSaving_35 rfl rfl ?_ ?_
      · exact Rt.sub [] rfl (hJ4 σ)
      · refine q_aload_n (pc' := 39) C 1 d_M_directSaving_38 rfl rfl ?_
        refine q_callVw (fr' := 8) (lo' := 199) (pc' := 42) C FM_hasPosition lmM_512 d_M_directSaving_39 0 jM_0 kM_0 cM0 [] [] rfl rfl (Nat.le_of_ble_eq_true rfl) ⟨rfl, rfl⟩ (fun x h => cM_hasPosition _ g hi σ x h) rfl (fun x7 _ => ?_)
        refine q_if_ne (tgt := 49) (pc' := 45) C d_M_directSaving_42 rfl rfl ?_ ?_
        · refine q_aload_n (pc' := 50) C 1 d_M_directSaving_49 rfl rfl ?_
          refine q_iload_n (pc' := 51) C 2 d_M_directSaving_50 rfl rfl ?_
          refine q_callVr (fr' := 0) (lo' := 0) (pc' := 54) C FM_lengthUpTo lmM_520 d_M_directSaving_51 0 jM_0 kM_0 cM0 [.int p1] [] rfl rfl (Nat.le_of_ble_eq_true rfl) ⟨rfl, rfl⟩ (fun x h => cM_lengthUpTo _ g hi x7.2 p1 x h) rfl (fun x8 _ => ?_)
          refine q_aload_n (pc' := 55) C 1 d_M_directSaving_54 rfl rfl ?_
          refine q_iload_n (pc' := 56) C 0 d_M_directSaving_55 rfl rfl ?_
          refine q_iconst (pc' := 57) C d_M_directSaving_56 ki_1 rfl ?_
          refine q_isub (pc' := 58) C d_M_directSaving_57 rfl ?_
          refine q_callVr (fr' := 0) (lo' := 0) (pc' := 61) C FM_lengthUpTo lmM_520 d_M_directSaving_58 0 jM_0 kM_0 cM0 [.int (x2 - (1 : Int32))] [.int x8] rfl rfl (Nat.le_of_ble_eq_true rfl) ⟨rfl, rfl⟩ (fun x h => cM_lengthUpTo _ g hi x7.2 (x2 - (1 : Int32)) x h) rfl (fun x9 _ => ?_)
          refine q_isub (pc' := 62) C d_M_directSaving_61 rfl ?_
          refine q_aload_n (pc' := 63) C 1 d_M_directSaving_62 rfl rfl ?_
          refine gM_362 (pc' := 66) C d_M_directSaving_63 rfl rfl ?_
          refine q_isub (pc' := 67) C d_M_directSaving_66 rfl ?_
          refine q_let (fun x10 e10 => ?_)
          refine q_topi e10 ?_
          refine q_istore_n (pc' := 68) (lv' := [(3, .int x10), (2, .int x2), (0, .ref (g.1 0)), (1, .int p1)]) C d_M_directSaving_67 (by decide) rfl rfl ?_
          refine q_aload_n (pc' := 69) C 2 d_M_directSaving_68 rfl rfl ?_
          refine q_iconst (pc' := 70) C d_M_directSaving_69 ki_0 rfl ?_
          refine q_iload_n (pc' := 71) C 3 d_M_directSaving_70 rfl rfl ?_
          refine q_callVv (fr' := 1) (lo' := 25) (pc' := 74) C FM_laysDirect lmM_515 d_M_directSaving_71 0 jM_0 kM_0 cM0 [.int (0 : Int32), .int p1] [] rfl rfl (Nat.le_of_ble_eq_true rfl) ⟨rfl, rfl⟩ (fun x h => cM_laysDirect _ g hi x7.2 (0 : Int32) p1 x h) rfl (fun x11 _ => ?_)
          refine q_aload_n (pc' := 75) C 2 d_M_directSaving_74 rfl rfl ?_
          refine q_sipush (pc' := 78) C d_M_directSaving_75 ks_594 rfl ?_
          refine q_callVv (fr' := 7) (lo' := 176) (pc' := 81) C FM_lays lmM_359 d_M_directSaving_78 0 jM_0 kM_0 cM0 [.int (594 : Int32)] [] rfl rfl (Nat.le_of_ble_eq_true rfl) ⟨rfl, rfl⟩ (fun x h => cM_lays _ g hi x11 (594 : Int32) x h) rfl (fun x12 _ => ?_)
          refine q_iload_n (pc' := 82) C 0 d_M_directSaving_81 rfl rfl ?_
          refine q_aload_n (pc' := 83) C 2 d_M_directSaving_82 rfl rfl ?_
          refine gM_135 (pc' := 86) C d_M_directSaving_83 rfl rfl ?_
          refine q_iconst (pc' := 87) C d_M_directSaving_86 ki_1 rfl ?_
          refine q_iald (pc' := 88) C 37 jM_37 kM_37 d_M_directSaving_87 rfl ?_
          refine q_isub (pc' := 89) C d_M_directSaving_88 rfl ?_
          exact q_iret C rfl d_M_directSaving_89 rfl
        · exact Rt.sub [] rfl (hJ4 x7.2)
  · refine q_ldcw (pc' := 12) C lcM_493 d_M_directSaving_9 rfl ?_
    exact q_iret C rfl d_M_directSaving_12 rfl
theorem d_M_planOf_0 : decode qM_planOf.1 0 = .ok (.iload_n 1, 1) := by decide +kernel
theorem d_M_planOf_1 : decode qM_planOf.1 1 = .ok (.ifCond .ne 7, 3) := by decide +kernel
theorem d_M_planOf_4 : decode qM_planOf.1 4 = .ok (.iconst 0, 1) := by decide +kernel
theorem d_M_planOf_5 : decode qM_planOf.1 5 = .ok (.goto 6, 3) := by decide +kernel
theorem d_M_planOf_8 : decode qM_planOf.1 8 = .ok (.sipush 297, 3) := by decide +kernel
theorem d_M_planOf_11 : decode qM_planOf.1 11 = .ok (.ireturn, 1) := by decide +kernel
set_option maxRecDepth 100000 in
def m_planOf (p1 : Int32) : Option (Int32) :=
  Jn (fun (x1 : Int32) =>
  some x1
  ) fun J2 =>
  if (p1 : Int32) = 0 then (
  J2 (0 : Int32)
  ) else (
  J2 (297 : Int32)
  )
set_option maxHeartbeats 4000000 in
set_option maxRecDepth 100000 in
theorem cM_planOf (l : Launch) (g : Ge) (hi : injB wM.2 g) (σ : St) (p1 : Int32) (x : Int32) (h : m_planOf p1 = some x) : Ct l wM g yM_planOf qM_planOf 0 0 [.ref (g.1 0), .int p1] σ (some (.int x), σ) := by
  refine Ct.of (out := (o_r σ)) FM_planOf rfl hi rfl h (fun z hz C => ?_)
  clear h
  subst hz
  unfold m_planOf
  show Rt z qM_planOf wM g (o_r σ) 0 [(0, .ref (g.1 0)), (1, .int p1)] [] σ _
  refine q_iload_n (pc' := 1) C 1 d_M_planOf_0 rfl rfl ?_
  refine q_join (fun J2 : Int32 → Option (Int32) => ∀ (x1 : Int32), Rt z qM_planOf wM g (o_r σ) 11 [] [.int x1] σ (J2 x1)) (fun x1 => ?_) (fun J2 hJ2 => ?_)
  · exact q_iret C rfl d_M_planOf_11 rfl
  refine q_if_ne (tgt := 8) (pc' := 4) C d_M_planOf_1 rfl rfl ?_ ?_
  · refine q_sipush (pc' := 11) C d_M_planOf_8 ks_297 rfl ?_
    exact Rt.sub [] rfl (hJ2 (297 : Int32))
  · refine q_iconst (pc' := 5) C d_M_planOf_4 ki_0 rfl ?_
    refine q_goto (tgt := 11) C d_M_planOf_5 rfl ?_
    exact Rt.sub [] rfl (hJ2 (0 : Int32))
theorem d_M_isPlan_0 : decode qM_isPlan.1 0 = .ok (.iload_n 1, 1) := by decide +kernel
theorem d_M_isPlan_1 : decode qM_isPlan.1 1 = .ok (.ifCond .eq 17, 3) := by decide +kernel
theorem d_M_isPlan_4 : decode qM_isPlan.1 4 = .ok (.iload_n 1, 1) := by decide +kernel
theorem d_M_isPlan_5 : decode qM_isPlan.1 5 = .ok (.iconst 1, 1) := by decide +kernel
theorem d_M_isPlan_6 : decode qM_isPlan.1 6 = .ok (.if_icmp .ne 10, 3) := by decide +kernel
theorem d_M_isPlan_9 : decode qM_isPlan.1 9 = .ok (.aload_n 0, 1) := by decide +kernel
theorem d_M_isPlan_10 : decode qM_isPlan.1 10 = .ok (.getfield 473, 3) := by decide +kernel
theorem d_M_isPlan_13 : decode qM_isPlan.1 13 = .ok (.ifCond .ne 5, 3) := by decide +kernel
theorem d_M_isPlan_16 : decode qM_isPlan.1 16 = .ok (.iconst 0, 1) := by decide +kernel
theorem d_M_isPlan_17 : decode qM_isPlan.1 17 = .ok (.ireturn, 1) := by decide +kernel
theorem d_M_isPlan_18 : decode qM_isPlan.1 18 = .ok (.aload_n 0, 1) := by decide +kernel
theorem d_M_isPlan_19 : decode qM_isPlan.1 19 = .ok (.aload_n 0, 1) := by decide +kernel
theorem d_M_isPlan_20 : decode qM_isPlan.1 20 = .ok (.iload_n 1, 1) := by decide +kernel
theorem d_M_isPlan_21 : decode qM_isPlan.1 21 = .ok (.invokevirtual 523, 3) := by decide +kernel
theorem d_M_isPlan_24 : decode qM_isPlan.1 24 = .ok (.invokevirtual 359, 3) := by decide +kernel
theorem d_M_isPlan_27 : decode qM_isPlan.1 27 = .ok (.iconst 1, 1) := by decide +kernel
theorem d_M_isPlan_28 : decode qM_isPlan.1 28 = .ok (.ireturn, 1) := by decide +kernel
set_option maxRecDepth 100000 in
def m_isPlan (σ : St) (p1 : Int32) : Option (Int32 × St) :=
  Jn (fun (_ : Unit) =>
  Option.bind (m_planOf p1) fun x2 =>
  Option.bind (m_lays σ x2) fun x3 =>
  some ((1 : Int32), x3)
  ) fun J1 =>
  if (p1 : Int32) = 0 then (
  J1 ()
  ) else (
  Jn (fun (_ : Unit) =>
  some ((0 : Int32), σ)
  ) fun J4 =>
  if (p1 : Int32) = (1 : Int32) then (
  if ((σ 0 1) : Int32) = 0 then (
  J4 ()
  ) else (
  J1 ()
  )
  ) else (
  J4 ()
  )
  )
set_option maxHeartbeats 4000000 in
set_option maxRecDepth 100000 in
theorem cM_isPlan (l : Launch) (g : Ge) (hi : injB wM.2 g) (σ : St) (p1 : Int32) (x : Int32 × St) (h : m_isPlan σ p1 = some x) : Ct l wM g yM_isPlan qM_isPlan 8 199 [.ref (g.1 0), .int p1] σ (some (.int x.1), x.2) := by
  refine Ct.of (out := o_w) FM_isPlan rfl hi rfl h (fun z hz C => ?_)
  clear h
  subst hz
  unfold m_isPlan
  show Rt z qM_isPlan wM g o_w 0 [(0, .ref (g.1 0)), (1, .int p1)] [] σ _
  refine q_iload_n (pc' := 1) C 1 d_M_isPlan_0 rfl rfl ?_
  refine q_join (fun J1 : Unit → Option (Int32 × St) => ∀ (_ : Unit), Rt z qM_isPlan wM g o_w 18 [(0, .ref (g.1 0)), (1, .int p1)] [] σ (J1 ())) (fun _ => ?_) (fun J1 hJ1 => ?_)
  · refine q_aload_n (pc' := 19) C 0 d_M_isPlan_18 rfl rfl ?_
    refine q_aload_n (pc' := 20) C 0 d_M_isPlan_19 rfl rfl ?_
    refine q_iload_n (pc' := 21) C 1 d_M_isPlan_20 rfl rfl ?_
    refine q_callVr (fr' := 0) (lo' := 0) (pc' := 24) C FM_planOf lmM_523 d_M_isPlan_21 0 jM_0 kM_0 cM0 [.int p1] [.ref (g.1 0)] rfl rfl (Nat.le_of_ble_eq_true rfl) ⟨rfl, rfl⟩ (fun x h => cM_planOf _ g hi σ p1 x h) rfl (fun x2 _ => ?_)
    refine q_callVv (fr' := 7) (lo' := 176) (pc' := 27) C FM_lays lmM_359 d_M_isPlan_24 0 jM_0 kM_0 cM0 [.int x2] [] rfl rfl (Nat.le_of_ble_eq_true rfl) ⟨rfl, rfl⟩ (fun x h => cM_lays _ g hi σ x2 x h) rfl (fun x3 _ => ?_)
    refine q_iconst (pc' := 28) C d_M_isPlan_27 ki_1 rfl ?_
    exact q_zret C rfl (by decide) d_M_isPlan_28 rfl
  refine q_if_eq (tgt := 18) (pc' := 4) C d_M_isPlan_1 rfl rfl ?_ ?_
  · exact Rt.sub [0, 1] rfl (hJ1 ())
  · refine q_iload_n (pc' := 5) C 1 d_M_isPlan_4 rfl rfl ?_
    refine q_iconst (pc' := 6) C d_M_isPlan_5 ki_1 rfl ?_
    refine q_join (fun J4 : Unit → Option (Int32 × St) => ∀ (_ : Unit), Rt z qM_isPlan wM g o_w 16 [] [] σ (J4 ())) (fun _ => ?_) (fun J4 hJ4 => ?_)
    · refine q_iconst (pc' := 17) C d_M_isPlan_16 ki_0 rfl ?_
      exact q_zret C rfl (by decide) d_M_isPlan_17 rfl
    refine q_icmp_ne (tgt := 16) (pc' := 9) C d_M_isPlan_6 rfl rfl ?_ ?_
    · exact Rt.sub [] rfl (hJ4 ())
    · refine q_aload_n (pc' := 10) C 0 d_M_isPlan_9 rfl rfl ?_
      refine gM_473 (pc' := 13) C d_M_isPlan_10 rfl rfl ?_
      refine q_if_ne (tgt := 18) (pc' := 16) C d_M_isPlan_13 rfl rfl ?_ ?_
      · exact Rt.sub [0, 1] rfl (hJ1 ())
      · exact Rt.sub [] rfl (hJ4 ())
theorem d_M_isLegOf_0 : decode qM_isLegOf.1 0 = .ok (.aload_n 0, 1) := by decide +kernel
theorem d_M_isLegOf_1 : decode qM_isLegOf.1 1 = .ok (.iload_n 1, 1) := by decide +kernel
theorem d_M_isLegOf_2 : decode qM_isLegOf.1 2 = .ok (.invokevirtual 526, 3) := by decide +kernel
theorem d_M_isLegOf_5 : decode qM_isLegOf.1 5 = .ok (.ifCond .eq 20, 3) := by decide +kernel
theorem d_M_isLegOf_8 : decode qM_isLegOf.1 8 = .ok (.aload_n 0, 1) := by decide +kernel
theorem d_M_isLegOf_9 : decode qM_isLegOf.1 9 = .ok (.aload_n 0, 1) := by decide +kernel
theorem d_M_isLegOf_10 : decode qM_isLegOf.1 10 = .ok (.iload_n 1, 1) := by decide +kernel
theorem d_M_isLegOf_11 : decode qM_isLegOf.1 11 = .ok (.invokevirtual 523, 3) := by decide +kernel
theorem d_M_isLegOf_14 : decode qM_isLegOf.1 14 = .ok (.iload_n 2, 1) := by decide +kernel
theorem d_M_isLegOf_15 : decode qM_isLegOf.1 15 = .ok (.invokevirtual 503, 3) := by decide +kernel
theorem d_M_isLegOf_18 : decode qM_isLegOf.1 18 = .ok (.ifCond .eq 7, 3) := by decide +kernel
theorem d_M_isLegOf_21 : decode qM_isLegOf.1 21 = .ok (.iconst 1, 1) := by decide +kernel
theorem d_M_isLegOf_22 : decode qM_isLegOf.1 22 = .ok (.goto 4, 3) := by decide +kernel
theorem d_M_isLegOf_25 : decode qM_isLegOf.1 25 = .ok (.iconst 0, 1) := by decide +kernel
theorem d_M_isLegOf_26 : decode qM_isLegOf.1 26 = .ok (.ireturn, 1) := by decide +kernel
set_option maxRecDepth 100000 in
def m_isLegOf (σ : St) (p1 : Int32) (p2 : Int32) : Option (Int32 × St) :=
  Option.bind (m_isPlan σ p1) fun x1 =>
  Jn (fun (x2 : Int32) =>
  Gd ((x2 : Int32) &&& 1 = x2) <|
  some (x2, x1.2)
  ) fun J3 =>
  Jn (fun (_ : Unit) =>
  J3 (0 : Int32)
  ) fun J5 =>
  if (x1.1 : Int32) = 0 then (
  J5 ()
  ) else (
  Option.bind (m_planOf p1) fun x6 =>
  Option.bind (m_isLeg x1.2 x6 p2) fun x7 =>
  if (x7 : Int32) = 0 then (
  J5 ()
  ) else (
  J3 (1 : Int32)
  )
  )
set_option maxHeartbeats 4000000 in
set_option maxRecDepth 100000 in
theorem cM_isLegOf (l : Launch) (g : Ge) (hi : injB wM.2 g) (σ : St) (p1 : Int32) (p2 : Int32) (x : Int32 × St) (h : m_isLegOf σ p1 p2 = some x) : Ct l wM g yM_isLegOf qM_isLegOf 9 220 [.ref (g.1 0), .int p1, .int p2] σ (some (.int x.1), x.2) := by
  refine Ct.of (out := o_w) FM_isLegOf rfl hi rfl h (fun z hz C => ?_)
  clear h
  subst hz
  unfold m_isLegOf
  show Rt z qM_isLegOf wM g o_w 0 [(0, .ref (g.1 0)), (1, .int p1), (2, .int p2)] [] σ _
  refine q_aload_n (pc' := 1) C 0 d_M_isLegOf_0 rfl rfl ?_
  refine q_iload_n (pc' := 2) C 1 d_M_isLegOf_1 rfl rfl ?_
  refine q_callVw (fr' := 8) (lo' := 199) (pc' := 5) C FM_isPlan lmM_526 d_M_isLegOf_2 0 jM_0 kM_0 cM0 [.int p1] [] rfl rfl (Nat.le_of_ble_eq_true rfl) ⟨rfl, rfl⟩ (fun x h => cM_isPlan _ g hi σ p1 x h) rfl (fun x1 _ => ?_)
  refine q_join (fun J3 : Int32 → Option (Int32 × St) => ∀ (x2 : Int32), Rt z qM_isLegOf wM g o_w 26 [] [.int x2] x1.2 (J3 x2)) (fun x2 => ?_) (fun J3 hJ3 => ?_)
  · refine q_guard (fun gx4 => ?_)
    exact q_zret C rfl gx4 d_M_isLegOf_26 rfl
  refine q_join (fun J5 : Unit → Option (Int32 × St) => ∀ (_ : Unit), Rt z qM_isLegOf wM g o_w 25 [] [] x1.2 (J5 ())) (fun _ => ?_) (fun J5 hJ5 => ?_)
  · refine q_iconst (pc' := 26) C d_M_isLegOf_25 ki_0 rfl ?_
    exact Rt.sub [] rfl (hJ3 (0 : Int32))
  refine q_if_eq (tgt := 25) (pc' := 8) C d_M_isLegOf_5 rfl rfl ?_ ?_
  · exact Rt.sub [] rfl (hJ5 ())
  · refine q_aload_n (pc' := 9) C 0 d_M_isLegOf_8 rfl rfl ?_
    refine q_aload_n (pc' := 10) C 0 d_M_isLegOf_9 rfl rfl ?_
    refine q_iload_n (pc' := 11) C 1 d_M_isLegOf_10 rfl rfl ?_
    refine q_callVr (fr' := 0) (lo' := 0) (pc' := 14) C FM_planOf lmM_523 d_M_isLegOf_11 0 jM_0 kM_0 cM0 [.int p1] [.ref (g.1 0)] rfl rfl (Nat.le_of_ble_eq_true rfl) ⟨rfl, rfl⟩ (fun x h => cM_planOf _ g hi x1.2 p1 x h) rfl (fun x6 _ => ?_)
    refine q_iload_n (pc' := 15) C 2 d_M_isLegOf_14 rfl rfl ?_
    refine q_callVr (fr' := 1) (lo' := 25) (pc' := 18) C FM_isLeg lmM_503 d_M_isLegOf_15 0 jM_0 kM_0 cM0 [.int x6, .int p2] [] rfl rfl (Nat.le_of_ble_eq_true rfl) ⟨rfl, rfl⟩ (fun x h => cM_isLeg _ g hi x1.2 x6 p2 x h) rfl (fun x7 _ => ?_)
    refine q_if_eq (tgt := 25) (pc' := 21) C d_M_isLegOf_18 rfl rfl ?_ ?_
    · exact Rt.sub [] rfl (hJ5 ())
    · refine q_iconst (pc' := 22) C d_M_isLegOf_21 ki_1 rfl ?_
      refine q_goto (tgt := 26) C d_M_isLegOf_22 rfl ?_
      exact Rt.sub [] rfl (hJ3 (1 : Int32))
theorem d_M_isPieceOf_0 : decode qM_isPieceOf.1 0 = .ok (.aload_n 0, 1) := by decide +kernel
theorem d_M_isPieceOf_1 : decode qM_isPieceOf.1 1 = .ok (.iload_n 1, 1) := by decide +kernel
theorem d_M_isPieceOf_2 : decode qM_isPieceOf.1 2 = .ok (.invokevirtual 526, 3) := by decide +kernel
theorem d_M_isPieceOf_5 : decode qM_isPieceOf.1 5 = .ok (.ifCond .eq 23, 3) := by decide +kernel
theorem d_M_isPieceOf_8 : decode qM_isPieceOf.1 8 = .ok (.iload_n 2, 1) := by decide +kernel
theorem d_M_isPieceOf_9 : decode qM_isPieceOf.1 9 = .ok (.i2l, 1) := by decide +kernel
theorem d_M_isPieceOf_10 : decode qM_isPieceOf.1 10 = .ok (.lconst 0, 1) := by decide +kernel
theorem d_M_isPieceOf_11 : decode qM_isPieceOf.1 11 = .ok (.aload_n 0, 1) := by decide +kernel
theorem d_M_isPieceOf_12 : decode qM_isPieceOf.1 12 = .ok (.getfield 289, 3) := by decide +kernel
theorem d_M_isPieceOf_15 : decode qM_isPieceOf.1 15 = .ok (.iconst 1, 1) := by decide +kernel
theorem d_M_isPieceOf_16 : decode qM_isPieceOf.1 16 = .ok (.isub, 1) := by decide +kernel
theorem d_M_isPieceOf_17 : decode qM_isPieceOf.1 17 = .ok (.i2l, 1) := by decide +kernel
theorem d_M_isPieceOf_18 : decode qM_isPieceOf.1 18 = .ok (.invokestatic 232, 3) := by decide +kernel
theorem d_M_isPieceOf_21 : decode qM_isPieceOf.1 21 = .ok (.ifCond .eq 7, 3) := by decide +kernel
theorem d_M_isPieceOf_24 : decode qM_isPieceOf.1 24 = .ok (.iconst 1, 1) := by decide +kernel
theorem d_M_isPieceOf_25 : decode qM_isPieceOf.1 25 = .ok (.goto 4, 3) := by decide +kernel
theorem d_M_isPieceOf_28 : decode qM_isPieceOf.1 28 = .ok (.iconst 0, 1) := by decide +kernel
theorem d_M_isPieceOf_29 : decode qM_isPieceOf.1 29 = .ok (.ireturn, 1) := by decide +kernel
set_option maxRecDepth 100000 in
def m_isPieceOf (σ : St) (p1 : Int32) (p2 : Int32) : Option (Int32 × St) :=
  Option.bind (m_isPlan σ p1) fun x1 =>
  Jn (fun (x2 : Int32) =>
  Gd ((x2 : Int32) &&& 1 = x2) <|
  some (x2, x1.2)
  ) fun J3 =>
  Jn (fun (_ : Unit) =>
  J3 (0 : Int32)
  ) fun J5 =>
  if (x1.1 : Int32) = 0 then (
  J5 ()
  ) else (
  Option.bind (m_in (Int32.toInt64 p2) (0 : Int64) (Int32.toInt64 ((x1.2 0 57) - (1 : Int32)))) fun x6 =>
  if (x6 : Int32) = 0 then (
  J5 ()
  ) else (
  J3 (1 : Int32)
  )
  )
set_option maxHeartbeats 4000000 in
set_option maxRecDepth 100000 in
theorem cM_isPieceOf (l : Launch) (g : Ge) (hi : injB wM.2 g) (σ : St) (p1 : Int32) (p2 : Int32) (x : Int32 × St) (h : m_isPieceOf σ p1 p2 = some x) : Ct l wM g yM_isPieceOf qM_isPieceOf 9 220 [.ref (g.1 0), .int p1, .int p2] σ (some (.int x.1), x.2) := by
  refine Ct.of (out := o_w) FM_isPieceOf rfl hi rfl h (fun z hz C => ?_)
  clear h
  subst hz
  unfold m_isPieceOf
  show Rt z qM_isPieceOf wM g o_w 0 [(0, .ref (g.1 0)), (1, .int p1), (2, .int p2)] [] σ _
  refine q_aload_n (pc' := 1) C 0 d_M_isPieceOf_0 rfl rfl ?_
  refine q_iload_n (pc' := 2) C 1 d_M_isPieceOf_1 rfl rfl ?_
  refine q_callVw (fr' := 8) (lo' := 199) (pc' := 5) C FM_isPlan lmM_526 d_M_isPieceOf_2 0 jM_0 kM_0 cM0 [.int p1] [] rfl rfl (Nat.le_of_ble_eq_true rfl) ⟨rfl, rfl⟩ (fun x h => cM_isPlan _ g hi σ p1 x h) rfl (fun x1 _ => ?_)
  refine q_join (fun J3 : Int32 → Option (Int32 × St) => ∀ (x2 : Int32), Rt z qM_isPieceOf wM g o_w 29 [] [.int x2] x1.2 (J3 x2)) (fun x2 => ?_) (fun J3 hJ3 => ?_)
  · refine q_guard (fun gx4 => ?_)
    exact q_zret C rfl gx4 d_M_isPieceOf_29 rfl
  refine q_join (fun J5 : Unit → Option (Int32 × St) => ∀ (_ : Unit), Rt z qM_isPieceOf wM g o_w 28 [] [] x1.2 (J5 ())) (fun _ => ?_) (fun J5 hJ5 => ?_)
  · refine q_iconst (pc' := 29) C d_M_isPieceOf_28 ki_0 rfl ?_
    exact Rt.sub [] rfl (hJ3 (0 : Int32))
  refine q_if_eq (tgt := 28) (pc' := 8) C d_M_isPieceOf_5 rfl rfl ?_ ?_
  · exact Rt.sub [] rfl (hJ5 ())
  · refine q_iload_n (pc' := 9) C 2 d_M_isPieceOf_8 rfl rfl ?_
    refine q_i2l (pc' := 10) C d_M_isPieceOf_9 rfl ?_
    refine q_lconst (pc' := 11) C d_M_isPieceOf_10 kl_0 rfl ?_
    refine q_aload_n (pc' := 12) C 0 d_M_isPieceOf_11 rfl rfl ?_
    refine gM_289 (pc' := 15) C d_M_isPieceOf_12 rfl rfl ?_
    refine q_iconst (pc' := 16) C d_M_isPieceOf_15 ki_1 rfl ?_
    refine q_isub (pc' := 17) C d_M_isPieceOf_16 rfl ?_
    refine q_i2l (pc' := 18) C d_M_isPieceOf_17 rfl ?_
    refine q_callSr (fr' := 0) (lo' := 0) (pc' := 21) C FM_in lmM_232 d_M_isPieceOf_18 [.long (Int32.toInt64 p2), .long (0 : Int64), .long (Int32.toInt64 ((x1.2 0 57) - (1 : Int32)))] [] rfl rfl (Nat.le_of_ble_eq_true rfl) ⟨rfl, rfl⟩ (fun x h => cM_in _ g hi x1.2 (Int32.toInt64 p2) (0 : Int64) (Int32.toInt64 ((x1.2 0 57) - (1 : Int32))) x h) rfl (fun x6 _ => ?_)
    refine q_if_eq (tgt := 28) (pc' := 24) C d_M_isPieceOf_21 rfl rfl ?_ ?_
    · exact Rt.sub [] rfl (hJ5 ())
    · refine q_iconst (pc' := 25) C d_M_isPieceOf_24 ki_1 rfl ?_
      refine q_goto (tgt := 29) C d_M_isPieceOf_25 rfl ?_
      exact Rt.sub [] rfl (hJ3 (1 : Int32))
theorem d_M_legCount_0 : decode qM_legCount.1 0 = .ok (.aload_n 0, 1) := by decide +kernel
theorem d_M_legCount_1 : decode qM_legCount.1 1 = .ok (.iload_n 1, 1) := by decide +kernel
theorem d_M_legCount_2 : decode qM_legCount.1 2 = .ok (.invokevirtual 526, 3) := by decide +kernel
theorem d_M_legCount_5 : decode qM_legCount.1 5 = .ok (.ifCond .eq 15, 3) := by decide +kernel
theorem d_M_legCount_8 : decode qM_legCount.1 8 = .ok (.aload_n 0, 1) := by decide +kernel
theorem d_M_legCount_9 : decode qM_legCount.1 9 = .ok (.aload_n 0, 1) := by decide +kernel
theorem d_M_legCount_10 : decode qM_legCount.1 10 = .ok (.iload_n 1, 1) := by decide +kernel
theorem d_M_legCount_11 : decode qM_legCount.1 11 = .ok (.invokevirtual 523, 3) := by decide +kernel
theorem d_M_legCount_14 : decode qM_legCount.1 14 = .ok (.invokevirtual 218, 3) := by decide +kernel
theorem d_M_legCount_17 : decode qM_legCount.1 17 = .ok (.goto 6, 3) := by decide +kernel
theorem d_M_legCount_20 : decode qM_legCount.1 20 = .ok (.ldc_w 493, 3) := by decide +kernel
theorem d_M_legCount_23 : decode qM_legCount.1 23 = .ok (.ireturn, 1) := by decide +kernel
set_option maxRecDepth 100000 in
def m_legCount (σ : St) (p1 : Int32) : Option (Int32 × St) :=
  Option.bind (m_isPlan σ p1) fun x1 =>
  Jn (fun (x2 : Int32) =>
  some (x2, x1.2)
  ) fun J3 =>
  if (x1.1 : Int32) = 0 then (
  J3 (-1000001 : Int32)
  ) else (
  Option.bind (m_planOf p1) fun x4 =>
  Option.bind (m_count x1.2 x4) fun x5 =>
  J3 x5
  )
set_option maxHeartbeats 4000000 in
set_option maxRecDepth 100000 in
theorem cM_legCount (l : Launch) (g : Ge) (hi : injB wM.2 g) (σ : St) (p1 : Int32) (x : Int32 × St) (h : m_legCount σ p1 = some x) : Ct l wM g yM_legCount qM_legCount 9 220 [.ref (g.1 0), .int p1] σ (some (.int x.1), x.2) := by
  refine Ct.of (out := o_w) FM_legCount rfl hi rfl h (fun z hz C => ?_)
  clear h
  subst hz
  unfold m_legCount
  show Rt z qM_legCount wM g o_w 0 [(0, .ref (g.1 0)), (1, .int p1)] [] σ _
  refine q_aload_n (pc' := 1) C 0 d_M_legCount_0 rfl rfl ?_
  refine q_iload_n (pc' := 2) C 1 d_M_legCount_1 rfl rfl ?_
  refine q_callVw (fr' := 8) (lo' := 199) (pc' := 5) C FM_isPlan lmM_526 d_M_legCount_2 0 jM_0 kM_0 cM0 [.int p1] [] rfl rfl (Nat.le_of_ble_eq_true rfl) ⟨rfl, rfl⟩ (fun x h => cM_isPlan _ g hi σ p1 x h) rfl (fun x1 _ => ?_)
  refine q_join (fun J3 : Int32 → Option (Int32 × St) => ∀ (x2 : Int32), Rt z qM_legCount wM g o_w 23 [] [.int x2] x1.2 (J3 x2)) (fun x2 => ?_) (fun J3 hJ3 => ?_)
  · exact q_iret C rfl d_M_legCount_23 rfl
  refine q_if_eq (tgt := 20) (pc' := 8) C d_M_legCount_5 rfl rfl ?_ ?_
  · refine q_ldcw (pc' := 23) C lcM_493 d_M_legCount_20 rfl ?_
    exact Rt.sub [] rfl (hJ3 (-1000001 : Int32))
  · refine q_aload_n (pc' := 9) C 0 d_M_legCount_8 rfl rfl ?_
    refine q_aload_n (pc' := 10) C 0 d_M_legCount_9 rfl rfl ?_
    refine q_iload_n (pc' := 11) C 1 d_M_legCount_10 rfl rfl ?_
    refine q_callVr (fr' := 0) (lo' := 0) (pc' := 14) C FM_planOf lmM_523 d_M_legCount_11 0 jM_0 kM_0 cM0 [.int p1] [.ref (g.1 0)] rfl rfl (Nat.le_of_ble_eq_true rfl) ⟨rfl, rfl⟩ (fun x h => cM_planOf _ g hi x1.2 p1 x h) rfl (fun x4 _ => ?_)
    refine q_callVr (fr' := 0) (lo' := 0) (pc' := 17) C FM_count lmM_218 d_M_legCount_14 0 jM_0 kM_0 cM0 [.int x4] [] rfl rfl (Nat.le_of_ble_eq_true rfl) ⟨rfl, rfl⟩ (fun x h => cM_count _ g hi x1.2 x4 x h) rfl (fun x5 _ => ?_)
    refine q_goto (tgt := 23) C d_M_legCount_17 rfl ?_
    exact Rt.sub [] rfl (hJ3 x5)
theorem d_M_legKind_0 : decode qM_legKind.1 0 = .ok (.aload_n 0, 1) := by decide +kernel
theorem d_M_legKind_1 : decode qM_legKind.1 1 = .ok (.iload_n 1, 1) := by decide +kernel
theorem d_M_legKind_2 : decode qM_legKind.1 2 = .ok (.iload_n 2, 1) := by decide +kernel
theorem d_M_legKind_3 : decode qM_legKind.1 3 = .ok (.invokevirtual 529, 3) := by decide +kernel
theorem d_M_legKind_6 : decode qM_legKind.1 6 = .ok (.ifCond .eq 17, 3) := by decide +kernel
theorem d_M_legKind_9 : decode qM_legKind.1 9 = .ok (.aload_n 0, 1) := by decide +kernel
theorem d_M_legKind_10 : decode qM_legKind.1 10 = .ok (.aload_n 0, 1) := by decide +kernel
theorem d_M_legKind_11 : decode qM_legKind.1 11 = .ok (.iload_n 1, 1) := by decide +kernel
theorem d_M_legKind_12 : decode qM_legKind.1 12 = .ok (.invokevirtual 523, 3) := by decide +kernel
theorem d_M_legKind_15 : decode qM_legKind.1 15 = .ok (.iload_n 2, 1) := by decide +kernel
theorem d_M_legKind_16 : decode qM_legKind.1 16 = .ok (.iconst 0, 1) := by decide +kernel
theorem d_M_legKind_17 : decode qM_legKind.1 17 = .ok (.invokevirtual 168, 3) := by decide +kernel
theorem d_M_legKind_20 : decode qM_legKind.1 20 = .ok (.goto 6, 3) := by decide +kernel
theorem d_M_legKind_23 : decode qM_legKind.1 23 = .ok (.ldc_w 493, 3) := by decide +kernel
theorem d_M_legKind_26 : decode qM_legKind.1 26 = .ok (.ireturn, 1) := by decide +kernel
set_option maxRecDepth 100000 in
def m_legKind (σ : St) (p1 : Int32) (p2 : Int32) : Option (Int32 × St) :=
  Option.bind (m_isLegOf σ p1 p2) fun x1 =>
  Jn (fun (x2 : Int32) =>
  some (x2, x1.2)
  ) fun J3 =>
  if (x1.1 : Int32) = 0 then (
  J3 (-1000001 : Int32)
  ) else (
  Option.bind (m_planOf p1) fun x4 =>
  Option.bind (m_of x1.2 x4 p2 (0 : Int32)) fun x5 =>
  J3 x5
  )
set_option maxHeartbeats 4000000 in
set_option maxRecDepth 100000 in
theorem cM_legKind (l : Launch) (g : Ge) (hi : injB wM.2 g) (σ : St) (p1 : Int32) (p2 : Int32) (x : Int32 × St) (h : m_legKind σ p1 p2 = some x) : Ct l wM g yM_legKind qM_legKind 10 242 [.ref (g.1 0), .int p1, .int p2] σ (some (.int x.1), x.2) := by
  refine Ct.of (out := o_w) FM_legKind rfl hi rfl h (fun z hz C => ?_)
  clear h
  subst hz
  unfold m_legKind
  show Rt z qM_legKind wM g o_w 0 [(0, .ref (g.1 0)), (1, .int p1), (2, .int p2)] [] σ _
  refine q_aload_n (pc' := 1) C 0 d_M_legKind_0 rfl rfl ?_
  refine q_iload_n (pc' := 2) C 1 d_M_legKind_1 rfl rfl ?_
  refine q_iload_n (pc' := 3) C 2 d_M_legKind_2 rfl rfl ?_
  refine q_callVw (fr' := 9) (lo' := 220) (pc' := 6) C FM_isLegOf lmM_529 d_M_legKind_3 0 jM_0 kM_0 cM0 [.int p1, .int p2] [] rfl rfl (Nat.le_of_ble_eq_true rfl) ⟨rfl, rfl⟩ (fun x h => cM_isLegOf _ g hi σ p1 p2 x h) rfl (fun x1 _ => ?_)
  refine q_join (fun J3 : Int32 → Option (Int32 × St) => ∀ (x2 : Int32), Rt z qM_legKind wM g o_w 26 [] [.int x2] x1.2 (J3 x2)) (fun x2 => ?_) (fun J3 hJ3 => ?_)
  · exact q_iret C rfl d_M_legKind_26 rfl
  refine q_if_eq (tgt := 23) (pc' := 9) C d_M_legKind_6 rfl rfl ?_ ?_
  · refine q_ldcw (pc' := 26) C lcM_493 d_M_legKind_23 rfl ?_
    exact Rt.sub [] rfl (hJ3 (-1000001 : Int32))
  · refine q_aload_n (pc' := 10) C 0 d_M_legKind_9 rfl rfl ?_
    refine q_aload_n (pc' := 11) C 0 d_M_legKind_10 rfl rfl ?_
    refine q_iload_n (pc' := 12) C 1 d_M_legKind_11 rfl rfl ?_
    refine q_callVr (fr' := 0) (lo' := 0) (pc' := 15) C FM_planOf lmM_523 d_M_legKind_12 0 jM_0 kM_0 cM0 [.int p1] [.ref (g.1 0)] rfl rfl (Nat.le_of_ble_eq_true rfl) ⟨rfl, rfl⟩ (fun x h => cM_planOf _ g hi x1.2 p1 x h) rfl (fun x4 _ => ?_)
    refine q_iload_n (pc' := 16) C 2 d_M_legKind_15 rfl rfl ?_
    refine q_iconst (pc' := 17) C d_M_legKind_16 ki_0 rfl ?_
    refine q_callVr (fr' := 0) (lo' := 0) (pc' := 20) C FM_of lmM_168 d_M_legKind_17 0 jM_0 kM_0 cM0 [.int x4, .int p2, .int (0 : Int32)] [] rfl rfl (Nat.le_of_ble_eq_true rfl) ⟨rfl, rfl⟩ (fun x h => cM_of _ g hi x1.2 x4 p2 (0 : Int32) x h) rfl (fun x5 _ => ?_)
    refine q_goto (tgt := 26) C d_M_legKind_20 rfl ?_
    exact Rt.sub [] rfl (hJ3 x5)
theorem d_M_legFix_0 : decode qM_legFix.1 0 = .ok (.aload_n 0, 1) := by decide +kernel
theorem d_M_legFix_1 : decode qM_legFix.1 1 = .ok (.iload_n 1, 1) := by decide +kernel
theorem d_M_legFix_2 : decode qM_legFix.1 2 = .ok (.iload_n 2, 1) := by decide +kernel
theorem d_M_legFix_3 : decode qM_legFix.1 3 = .ok (.invokevirtual 529, 3) := by decide +kernel
theorem d_M_legFix_6 : decode qM_legFix.1 6 = .ok (.ifCond .ne 7, 3) := by decide +kernel
theorem d_M_legFix_9 : decode qM_legFix.1 9 = .ok (.ldc_w 493, 3) := by decide +kernel
theorem d_M_legFix_12 : decode qM_legFix.1 12 = .ok (.ireturn, 1) := by decide +kernel
theorem d_M_legFix_13 : decode qM_legFix.1 13 = .ok (.aload_n 0, 1) := by decide +kernel
theorem d_M_legFix_14 : decode qM_legFix.1 14 = .ok (.aload_n 0, 1) := by decide +kernel
theorem d_M_legFix_15 : decode qM_legFix.1 15 = .ok (.iload_n 1, 1) := by decide +kernel
theorem d_M_legFix_16 : decode qM_legFix.1 16 = .ok (.invokevirtual 523, 3) := by decide +kernel
theorem d_M_legFix_19 : decode qM_legFix.1 19 = .ok (.iload_n 2, 1) := by decide +kernel
theorem d_M_legFix_20 : decode qM_legFix.1 20 = .ok (.iconst 0, 1) := by decide +kernel
theorem d_M_legFix_21 : decode qM_legFix.1 21 = .ok (.invokevirtual 168, 3) := by decide +kernel
theorem d_M_legFix_24 : decode qM_legFix.1 24 = .ok (.invokestatic 263, 3) := by decide +kernel
theorem d_M_legFix_27 : decode qM_legFix.1 27 = .ok (.ifCond .eq 17, 3) := by decide +kernel
theorem d_M_legFix_30 : decode qM_legFix.1 30 = .ok (.aload_n 0, 1) := by decide +kernel
theorem d_M_legFix_31 : decode qM_legFix.1 31 = .ok (.aload_n 0, 1) := by decide +kernel
theorem d_M_legFix_32 : decode qM_legFix.1 32 = .ok (.iload_n 1, 1) := by decide +kernel
theorem d_M_legFix_33 : decode qM_legFix.1 33 = .ok (.invokevirtual 523, 3) := by decide +kernel
theorem d_M_legFix_36 : decode qM_legFix.1 36 = .ok (.iload_n 2, 1) := by decide +kernel
theorem d_M_legFix_37 : decode qM_legFix.1 37 = .ok (.iconst 1, 1) := by decide +kernel
theorem d_M_legFix_38 : decode qM_legFix.1 38 = .ok (.invokevirtual 168, 3) := by decide +kernel
theorem d_M_legFix_41 : decode qM_legFix.1 41 = .ok (.goto 6, 3) := by decide +kernel
theorem d_M_legFix_44 : decode qM_legFix.1 44 = .ok (.ldc_w 453, 3) := by decide +kernel
theorem d_M_legFix_47 : decode qM_legFix.1 47 = .ok (.ireturn, 1) := by decide +kernel
set_option maxRecDepth 100000 in
def m_legFix (σ : St) (p1 : Int32) (p2 : Int32) : Option (Int32 × St) :=
  Option.bind (m_isLegOf σ p1 p2) fun x1 =>
  if (x1.1 : Int32) = 0 then (
  some ((-1000001 : Int32), x1.2)
  ) else (
  Option.bind (m_planOf p1) fun x2 =>
  Option.bind (m_of x1.2 x2 p2 (0 : Int32)) fun x3 =>
  Option.bind (m_hasFix x3) fun x4 =>
  Jn (fun (x5 : Int32) =>
  some (x5, x1.2)
  ) fun J6 =>
  if (x4 : Int32) = 0 then (
  J6 (-1000000 : Int32)
  ) else (
  Option.bind (m_planOf p1) fun x7 =>
  Option.bind (m_of x1.2 x7 p2 (1 : Int32)) fun x8 =>
  J6 x8
  )
  )
set_option maxHeartbeats 4000000 in
set_option maxRecDepth 100000 in
theorem cM_legFix (l : Launch) (g : Ge) (hi : injB wM.2 g) (σ : St) (p1 : Int32) (p2 : Int32) (x : Int32 × St) (h : m_legFix σ p1 p2 = some x) : Ct l wM g yM_legFix qM_legFix 10 242 [.ref (g.1 0), .int p1, .int p2] σ (some (.int x.1), x.2) := by
  refine Ct.of (out := o_w) FM_legFix rfl hi rfl h (fun z hz C => ?_)
  clear h
  subst hz
  unfold m_legFix
  show Rt z qM_legFix wM g o_w 0 [(0, .ref (g.1 0)), (1, .int p1), (2, .int p2)] [] σ _
  refine q_aload_n (pc' := 1) C 0 d_M_legFix_0 rfl rfl ?_
  refine q_iload_n (pc' := 2) C 1 d_M_legFix_1 rfl rfl ?_
  refine q_iload_n (pc' := 3) C 2 d_M_legFix_2 rfl rfl ?_
  refine q_callVw (fr' := 9) (lo' := 220) (pc' := 6) C FM_isLegOf lmM_529 d_M_legFix_3 0 jM_0 kM_0 cM0 [.int p1, .int p2] [] rfl rfl (Nat.le_of_ble_eq_true rfl) ⟨rfl, rfl⟩ (fun x h => cM_isLegOf _ g hi σ p1 p2 x h) rfl (fun x1 _ => ?_)
  refine q_if_ne (tgt := 13) (pc' := 9) C d_M_legFix_6 rfl rfl ?_ ?_
  · refine q_aload_n (pc' := 14) C 0 d_M_legFix_13 rfl rfl ?_
    refine q_aload_n (pc' := 15) C 0 d_M_legFix_14 rfl rfl ?_
    refine q_iload_n (pc' := 16) C 1 d_M_legFix_15 rfl rfl ?_
    refine q_callVr (fr' := 0) (lo' := 0) (pc' := 19) C FM_planOf lmM_523 d_M_legFix_16 0 jM_0 kM_0 cM0 [.int p1] [.ref (g.1 0)] rfl rfl (Nat.le_of_ble_eq_true rfl) ⟨rfl, rfl⟩ (fun x h => cM_planOf _ g hi x1.2 p1 x h) rfl (fun x2 _ => ?_)
    refine q_iload_n (pc' := 20) C 2 d_M_legFix_19 rfl rfl ?_
    refine q_iconst (pc' := 21) C d_M_legFix_20 ki_0 rfl ?_
    refine q_callVr (fr' := 0) (lo' := 0) (pc' := 24) C FM_of lmM_168 d_M_legFix_21 0 jM_0 kM_0 cM0 [.int x2, .int p2, .int (0 : Int32)] [] rfl rfl (Nat.le_of_ble_eq_true rfl) ⟨rfl, rfl⟩ (fun x h => cM_of _ g hi x1.2 x2 p2 (0 : Int32) x h) rfl (fun x3 _ => ?_)
    refine q_callSr (fr' := 0) (lo' := 0) (pc' := 27) C FM_hasFix lmM_263 d_M_legFix_24 [.int x3] [] rfl rfl (Nat.le_of_ble_eq_true rfl) ⟨rfl, rfl⟩ (fun x h => cM_hasFix _ g hi x1.2 x3 x h) rfl (fun x4 _ => ?_)
    refine q_join (fun J6 : Int32 → Option (Int32 × St) => ∀ (x5 : Int32), Rt z qM_legFix wM g o_w 47 [] [.int x5] x1.2 (J6 x5)) (fun x5 => ?_) (fun J6 hJ6 => ?_)
    · exact q_iret C rfl d_M_legFix_47 rfl
    refine q_if_eq (tgt := 44) (pc' := 30) C d_M_legFix_27 rfl rfl ?_ ?_
    · refine q_ldcw (pc' := 47) C lcM_453 d_M_legFix_44 rfl ?_
      exact Rt.sub [] rfl (hJ6 (-1000000 : Int32))
    · refine q_aload_n (pc' := 31) C 0 d_M_legFix_30 rfl rfl ?_
      refine q_aload_n (pc' := 32) C 0 d_M_legFix_31 rfl rfl ?_
      refine q_iload_n (pc' := 33) C 1 d_M_legFix_32 rfl rfl ?_
      refine q_callVr (fr' := 0) (lo' := 0) (pc' := 36) C FM_planOf lmM_523 d_M_legFix_33 0 jM_0 kM_0 cM0 [.int p1] [.ref (g.1 0)] rfl rfl (Nat.le_of_ble_eq_true rfl) ⟨rfl, rfl⟩ (fun x h => cM_planOf _ g hi x1.2 p1 x h) rfl (fun x7 _ => ?_)
      refine q_iload_n (pc' := 37) C 2 d_M_legFix_36 rfl rfl ?_
      refine q_iconst (pc' := 38) C d_M_legFix_37 ki_1 rfl ?_
      refine q_callVr (fr' := 0) (lo' := 0) (pc' := 41) C FM_of lmM_168 d_M_legFix_38 0 jM_0 kM_0 cM0 [.int x7, .int p2, .int (1 : Int32)] [] rfl rfl (Nat.le_of_ble_eq_true rfl) ⟨rfl, rfl⟩ (fun x h => cM_of _ g hi x1.2 x7 p2 (1 : Int32) x h) rfl (fun x8 _ => ?_)
      refine q_goto (tgt := 47) C d_M_legFix_41 rfl ?_
      exact Rt.sub [] rfl (hJ6 x8)
  · refine q_ldcw (pc' := 12) C lcM_493 d_M_legFix_9 rfl ?_
    exact q_iret C rfl d_M_legFix_12 rfl
theorem d_M_hasGap_0 : decode qM_hasGap.1 0 = .ok (.aload_n 0, 1) := by decide +kernel
theorem d_M_hasGap_1 : decode qM_hasGap.1 1 = .ok (.iload_n 1, 1) := by decide +kernel
theorem d_M_hasGap_2 : decode qM_hasGap.1 2 = .ok (.iload_n 2, 1) := by decide +kernel
theorem d_M_hasGap_3 : decode qM_hasGap.1 3 = .ok (.invokevirtual 529, 3) := by decide +kernel
theorem d_M_hasGap_6 : decode qM_hasGap.1 6 = .ok (.ifCond .ne 9, 3) := by decide +kernel
theorem d_M_hasGap_9 : decode qM_hasGap.1 9 = .ok (.ldc_w 493, 3) := by decide +kernel
theorem d_M_hasGap_12 : decode qM_hasGap.1 12 = .ok (.goto 21, 3) := by decide +kernel
theorem d_M_hasGap_15 : decode qM_hasGap.1 15 = .ok (.iload_n 2, 1) := by decide +kernel
theorem d_M_hasGap_16 : decode qM_hasGap.1 16 = .ok (.ifCond .le 16, 3) := by decide +kernel
theorem d_M_hasGap_19 : decode qM_hasGap.1 19 = .ok (.aload_n 0, 1) := by decide +kernel
theorem d_M_hasGap_20 : decode qM_hasGap.1 20 = .ok (.getfield 78, 3) := by decide +kernel
theorem d_M_hasGap_23 : decode qM_hasGap.1 23 = .ok (.iload_n 2, 1) := by decide +kernel
theorem d_M_hasGap_24 : decode qM_hasGap.1 24 = .ok (.baload, 1) := by decide +kernel
theorem d_M_hasGap_25 : decode qM_hasGap.1 25 = .ok (.ifCond .eq 7, 3) := by decide +kernel
theorem d_M_hasGap_28 : decode qM_hasGap.1 28 = .ok (.iconst 1, 1) := by decide +kernel
theorem d_M_hasGap_29 : decode qM_hasGap.1 29 = .ok (.goto 4, 3) := by decide +kernel
theorem d_M_hasGap_32 : decode qM_hasGap.1 32 = .ok (.iconst 0, 1) := by decide +kernel
theorem d_M_hasGap_33 : decode qM_hasGap.1 33 = .ok (.ireturn, 1) := by decide +kernel
set_option maxRecDepth 100000 in
def m_hasGap (σ : St) (p1 : Int32) (p2 : Int32) : Option (Int32 × St) :=
  Option.bind (m_isLegOf σ p1 p2) fun x1 =>
  Jn (fun (x2 : Int32) =>
  some (x2, x1.2)
  ) fun J3 =>
  if (x1.1 : Int32) = 0 then (
  J3 (-1000001 : Int32)
  ) else (
  Jn (fun (_ : Unit) =>
  J3 (0 : Int32)
  ) fun J4 =>
  if (p2 : Int32) ≤ 0 then (
  J4 ()
  ) else (
  Gd (Ix p2 21) <|
  if ((x1.2 18 (Int32.toNatClampNeg p2)) : Int32) = 0 then (
  J4 ()
  ) else (
  J3 (1 : Int32)
  )
  )
  )
set_option maxHeartbeats 4000000 in
set_option maxRecDepth 100000 in
theorem cM_hasGap (l : Launch) (g : Ge) (hi : injB wM.2 g) (σ : St) (p1 : Int32) (p2 : Int32) (x : Int32 × St) (h : m_hasGap σ p1 p2 = some x) : Ct l wM g yM_hasGap qM_hasGap 10 242 [.ref (g.1 0), .int p1, .int p2] σ (some (.int x.1), x.2) := by
  refine Ct.of (out := o_w) FM_hasGap rfl hi rfl h (fun z hz C => ?_)
  clear h
  subst hz
  unfold m_hasGap
  show Rt z qM_hasGap wM g o_w 0 [(0, .ref (g.1 0)), (1, .int p1), (2, .int p2)] [] σ _
  refine q_aload_n (pc' := 1) C 0 d_M_hasGap_0 rfl rfl ?_
  refine q_iload_n (pc' := 2) C 1 d_M_hasGap_1 rfl rfl ?_
  refine q_iload_n (pc' := 3) C 2 d_M_hasGap_2 rfl rfl ?_
  refine q_callVw (fr' := 9) (lo' := 220) (pc' := 6) C FM_isLegOf lmM_529 d_M_hasGap_3 0 jM_0 kM_0 cM0 [.int p1, .int p2] [] rfl rfl (Nat.le_of_ble_eq_true rfl) ⟨rfl, rfl⟩ (fun x h => cM_isLegOf _ g hi σ p1 p2 x h) rfl (fun x1 _ => ?_)
  refine q_join (fun J3 : Int32 → Option (Int32 × St) => ∀ (x2 : Int32), Rt z qM_hasGap wM g o_w 33 [] [.int x2] x1.2 (J3 x2)) (fun x2 => ?_) (fun J3 hJ3 => ?_)
  · exact q_iret C rfl d_M_hasGap_33 rfl
  refine q_if_ne (tgt := 15) (pc' := 9) C d_M_hasGap_6 rfl rfl ?_ ?_
  · refine q_iload_n (pc' := 16) C 2 d_M_hasGap_15 rfl rfl ?_
    refine q_join (fun J4 : Unit → Option (Int32 × St) => ∀ (_ : Unit), Rt z qM_hasGap wM g o_w 32 [] [] x1.2 (J4 ())) (fun _ => ?_) (fun J4 hJ4 => ?_)
    · refine q_iconst (pc' := 33) C d_M_hasGap_32 ki_0 rfl ?_
      exact Rt.sub [] rfl (hJ3 (0 : Int32))
    refine q_if_le (tgt := 32) (pc' := 19) C d_M_hasGap_16 rfl rfl ?_ ?_
    · exact Rt.sub [] rfl (hJ4 ())
    · refine q_aload_n (pc' := 20) C 0 d_M_hasGap_19 rfl rfl ?_
      refine gM_78 (pc' := 23) C d_M_hasGap_20 rfl rfl ?_
      refine q_iload_n (pc' := 24) C 2 d_M_hasGap_23 rfl rfl ?_
      refine q_zald (pc' := 25) C 18 jM_18 kM_18 d_M_hasGap_24 rfl ?_
      refine q_if_eq (tgt := 32) (pc' := 28) C d_M_hasGap_25 rfl rfl ?_ ?_
      · exact Rt.sub [] rfl (hJ4 ())
      · refine q_iconst (pc' := 29) C d_M_hasGap_28 ki_1 rfl ?_
        refine q_goto (tgt := 33) C d_M_hasGap_29 rfl ?_
        exact Rt.sub [] rfl (hJ3 (1 : Int32))
  · refine q_ldcw (pc' := 12) C lcM_493 d_M_hasGap_9 rfl ?_
    refine q_goto (tgt := 33) C d_M_hasGap_12 rfl ?_
    exact Rt.sub [] rfl (hJ3 (-1000001 : Int32))
theorem d_M_endX_0 : decode qM_endX.1 0 = .ok (.aload_n 0, 1) := by decide +kernel
theorem d_M_endX_1 : decode qM_endX.1 1 = .ok (.iload_n 1, 1) := by decide +kernel
theorem d_M_endX_2 : decode qM_endX.1 2 = .ok (.iload_n 2, 1) := by decide +kernel
theorem d_M_endX_3 : decode qM_endX.1 3 = .ok (.invokevirtual 529, 3) := by decide +kernel
theorem d_M_endX_6 : decode qM_endX.1 6 = .ok (.ifCond .ne 9, 3) := by decide +kernel
theorem d_M_endX_9 : decode qM_endX.1 9 = .ok (.ldc_w 493, 3) := by decide +kernel
theorem d_M_endX_12 : decode qM_endX.1 12 = .ok (.goto 24, 3) := by decide +kernel
theorem d_M_endX_15 : decode qM_endX.1 15 = .ok (.aload_n 0, 1) := by decide +kernel
theorem d_M_endX_16 : decode qM_endX.1 16 = .ok (.getfield 81, 3) := by decide +kernel
theorem d_M_endX_19 : decode qM_endX.1 19 = .ok (.iload_n 2, 1) := by decide +kernel
theorem d_M_endX_20 : decode qM_endX.1 20 = .ok (.baload, 1) := by decide +kernel
theorem d_M_endX_21 : decode qM_endX.1 21 = .ok (.ifCond .eq 12, 3) := by decide +kernel
theorem d_M_endX_24 : decode qM_endX.1 24 = .ok (.aload_n 0, 1) := by decide +kernel
theorem d_M_endX_25 : decode qM_endX.1 25 = .ok (.getfield 84, 3) := by decide +kernel
theorem d_M_endX_28 : decode qM_endX.1 28 = .ok (.iload_n 2, 1) := by decide +kernel
theorem d_M_endX_29 : decode qM_endX.1 29 = .ok (.iaload, 1) := by decide +kernel
theorem d_M_endX_30 : decode qM_endX.1 30 = .ok (.goto 6, 3) := by decide +kernel
theorem d_M_endX_33 : decode qM_endX.1 33 = .ok (.ldc_w 453, 3) := by decide +kernel
theorem d_M_endX_36 : decode qM_endX.1 36 = .ok (.ireturn, 1) := by decide +kernel
set_option maxRecDepth 100000 in
def m_endX (σ : St) (p1 : Int32) (p2 : Int32) : Option (Int32 × St) :=
  Option.bind (m_isLegOf σ p1 p2) fun x1 =>
  Jn (fun (x2 : Int32) =>
  some (x2, x1.2)
  ) fun J3 =>
  if (x1.1 : Int32) = 0 then (
  J3 (-1000001 : Int32)
  ) else (
  Gd (Ix p2 21) <|
  if ((x1.2 19 (Int32.toNatClampNeg p2)) : Int32) = 0 then (
  J3 (-1000000 : Int32)
  ) else (
  Gd (Ix p2 21) <|
  J3 (x1.2 20 (Int32.toNatClampNeg p2))
  )
  )
set_option maxHeartbeats 4000000 in
set_option maxRecDepth 100000 in
theorem cM_endX (l : Launch) (g : Ge) (hi : injB wM.2 g) (σ : St) (p1 : Int32) (p2 : Int32) (x : Int32 × St) (h : m_endX σ p1 p2 = some x) : Ct l wM g yM_endX qM_endX 10 242 [.ref (g.1 0), .int p1, .int p2] σ (some (.int x.1), x.2) := by
  refine Ct.of (out := o_w) FM_endX rfl hi rfl h (fun z hz C => ?_)
  clear h
  subst hz
  unfold m_endX
  show Rt z qM_endX wM g o_w 0 [(0, .ref (g.1 0)), (1, .int p1), (2, .int p2)] [] σ _
  refine q_aload_n (pc' := 1) C 0 d_M_endX_0 rfl rfl ?_
  refine q_iload_n (pc' := 2) C 1 d_M_endX_1 rfl rfl ?_
  refine q_iload_n (pc' := 3) C 2 d_M_endX_2 rfl rfl ?_
  refine q_callVw (fr' := 9) (lo' := 220) (pc' := 6) C FM_isLegOf lmM_529 d_M_endX_3 0 jM_0 kM_0 cM0 [.int p1, .int p2] [] rfl rfl (Nat.le_of_ble_eq_true rfl) ⟨rfl, rfl⟩ (fun x h => cM_isLegOf _ g hi σ p1 p2 x h) rfl (fun x1 _ => ?_)
  refine q_join (fun J3 : Int32 → Option (Int32 × St) => ∀ (x2 : Int32), Rt z qM_endX wM g o_w 36 [] [.int x2] x1.2 (J3 x2)) (fun x2 => ?_) (fun J3 hJ3 => ?_)
  · exact q_iret C rfl d_M_endX_36 rfl
  refine q_if_ne (tgt := 15) (pc' := 9) C d_M_endX_6 rfl rfl ?_ ?_
  · refine q_aload_n (pc' := 16) C 0 d_M_endX_15 rfl rfl ?_
    refine gM_81 (pc' := 19) C d_M_endX_16 rfl rfl ?_
    refine q_iload_n (pc' := 20) C 2 d_M_endX_19 rfl rfl ?_
    refine q_zald (pc' := 21) C 19 jM_19 kM_19 d_M_endX_20 rfl ?_
    refine q_if_eq (tgt := 33) (pc' := 24) C d_M_endX_21 rfl rfl ?_ ?_
    · refine q_ldcw (pc' := 36) C lcM_453 d_M_endX_33 rfl ?_
      exact Rt.sub [] rfl (hJ3 (-1000000 : Int32))
    · refine q_aload_n (pc' := 25) C 0 d_M_endX_24 rfl rfl ?_
      refine gM_84 (pc' := 28) C d_M_endX_25 rfl rfl ?_
      refine q_iload_n (pc' := 29) C 2 d_M_endX_28 rfl rfl ?_
      refine q_iald (pc' := 30) C 20 jM_20 kM_20 d_M_endX_29 rfl ?_
      refine q_goto (tgt := 36) C d_M_endX_30 rfl ?_
      exact Rt.sub [] rfl (hJ3 (x1.2 20 (Int32.toNatClampNeg p2)))
  · refine q_ldcw (pc' := 12) C lcM_493 d_M_endX_9 rfl ?_
    refine q_goto (tgt := 36) C d_M_endX_12 rfl ?_
    exact Rt.sub [] rfl (hJ3 (-1000001 : Int32))
theorem d_M_endY_0 : decode qM_endY.1 0 = .ok (.aload_n 0, 1) := by decide +kernel
theorem d_M_endY_1 : decode qM_endY.1 1 = .ok (.iload_n 1, 1) := by decide +kernel
theorem d_M_endY_2 : decode qM_endY.1 2 = .ok (.iload_n 2, 1) := by decide +kernel
theorem d_M_endY_3 : decode qM_endY.1 3 = .ok (.invokevirtual 529, 3) := by decide +kernel
theorem d_M_endY_6 : decode qM_endY.1 6 = .ok (.ifCond .ne 9, 3) := by decide +kernel
theorem d_M_endY_9 : decode qM_endY.1 9 = .ok (.ldc_w 493, 3) := by decide +kernel
theorem d_M_endY_12 : decode qM_endY.1 12 = .ok (.goto 24, 3) := by decide +kernel
theorem d_M_endY_15 : decode qM_endY.1 15 = .ok (.aload_n 0, 1) := by decide +kernel
theorem d_M_endY_16 : decode qM_endY.1 16 = .ok (.getfield 81, 3) := by decide +kernel
theorem d_M_endY_19 : decode qM_endY.1 19 = .ok (.iload_n 2, 1) := by decide +kernel
theorem d_M_endY_20 : decode qM_endY.1 20 = .ok (.baload, 1) := by decide +kernel
theorem d_M_endY_21 : decode qM_endY.1 21 = .ok (.ifCond .eq 12, 3) := by decide +kernel
theorem d_M_endY_24 : decode qM_endY.1 24 = .ok (.aload_n 0, 1) := by decide +kernel
theorem d_M_endY_25 : decode qM_endY.1 25 = .ok (.getfield 87, 3) := by decide +kernel
theorem d_M_endY_28 : decode qM_endY.1 28 = .ok (.iload_n 2, 1) := by decide +kernel
theorem d_M_endY_29 : decode qM_endY.1 29 = .ok (.iaload, 1) := by decide +kernel
theorem d_M_endY_30 : decode qM_endY.1 30 = .ok (.goto 6, 3) := by decide +kernel
theorem d_M_endY_33 : decode qM_endY.1 33 = .ok (.ldc_w 453, 3) := by decide +kernel
theorem d_M_endY_36 : decode qM_endY.1 36 = .ok (.ireturn, 1) := by decide +kernel
set_option maxRecDepth 100000 in
def m_endY (σ : St) (p1 : Int32) (p2 : Int32) : Option (Int32 × St) :=
  Option.bind (m_isLegOf σ p1 p2) fun x1 =>
  Jn (fun (x2 : Int32) =>
  some (x2, x1.2)
  ) fun J3 =>
  if (x1.1 : Int32) = 0 then (
  J3 (-1000001 : Int32)
  ) else (
  Gd (Ix p2 21) <|
  if ((x1.2 19 (Int32.toNatClampNeg p2)) : Int32) = 0 then (
  J3 (-1000000 : Int32)
  ) else (
  Gd (Ix p2 21) <|
  J3 (x1.2 21 (Int32.toNatClampNeg p2))
  )
  )
set_option maxHeartbeats 4000000 in
set_option maxRecDepth 100000 in
theorem cM_endY (l : Launch) (g : Ge) (hi : injB wM.2 g) (σ : St) (p1 : Int32) (p2 : Int32) (x : Int32 × St) (h : m_endY σ p1 p2 = some x) : Ct l wM g yM_endY qM_endY 10 242 [.ref (g.1 0), .int p1, .int p2] σ (some (.int x.1), x.2) := by
  refine Ct.of (out := o_w) FM_endY rfl hi rfl h (fun z hz C => ?_)
  clear h
  subst hz
  unfold m_endY
  show Rt z qM_endY wM g o_w 0 [(0, .ref (g.1 0)), (1, .int p1), (2, .int p2)] [] σ _
  refine q_aload_n (pc' := 1) C 0 d_M_endY_0 rfl rfl ?_
  refine q_iload_n (pc' := 2) C 1 d_M_endY_1 rfl rfl ?_
  refine q_iload_n (pc' := 3) C 2 d_M_endY_2 rfl rfl ?_
  refine q_callVw (fr' := 9) (lo' := 220) (pc' := 6) C FM_isLegOf lmM_529 d_M_endY_3 0 jM_0 kM_0 cM0 [.int p1, .int p2] [] rfl rfl (Nat.le_of_ble_eq_true rfl) ⟨rfl, rfl⟩ (fun x h => cM_isLegOf _ g hi σ p1 p2 x h) rfl (fun x1 _ => ?_)
  refine q_join (fun J3 : Int32 → Option (Int32 × St) => ∀ (x2 : Int32), Rt z qM_endY wM g o_w 36 [] [.int x2] x1.2 (J3 x2)) (fun x2 => ?_) (fun J3 hJ3 => ?_)
  · exact q_iret C rfl d_M_endY_36 rfl
  refine q_if_ne (tgt := 15) (pc' := 9) C d_M_endY_6 rfl rfl ?_ ?_
  · refine q_aload_n (pc' := 16) C 0 d_M_endY_15 rfl rfl ?_
    refine gM_81 (pc' := 19) C d_M_endY_16 rfl rfl ?_
    refine q_iload_n (pc' := 20) C 2 d_M_endY_19 rfl rfl ?_
    refine q_zald (pc' := 21) C 19 jM_19 kM_19 d_M_endY_20 rfl ?_
    refine q_if_eq (tgt := 33) (pc' := 24) C d_M_endY_21 rfl rfl ?_ ?_
    · refine q_ldcw (pc' := 36) C lcM_453 d_M_endY_33 rfl ?_
      exact Rt.sub [] rfl (hJ3 (-1000000 : Int32))
    · refine q_aload_n (pc' := 25) C 0 d_M_endY_24 rfl rfl ?_
      refine gM_87 (pc' := 28) C d_M_endY_25 rfl rfl ?_
      refine q_iload_n (pc' := 29) C 2 d_M_endY_28 rfl rfl ?_
      refine q_iald (pc' := 30) C 21 jM_21 kM_21 d_M_endY_29 rfl ?_
      refine q_goto (tgt := 36) C d_M_endY_30 rfl ?_
      exact Rt.sub [] rfl (hJ3 (x1.2 21 (Int32.toNatClampNeg p2)))
  · refine q_ldcw (pc' := 12) C lcM_493 d_M_endY_9 rfl ?_
    refine q_goto (tgt := 36) C d_M_endY_12 rfl ?_
    exact Rt.sub [] rfl (hJ3 (-1000001 : Int32))
theorem d_M_legCourse_0 : decode qM_legCourse.1 0 = .ok (.aload_n 0, 1) := by decide +kernel
theorem d_M_legCourse_1 : decode qM_legCourse.1 1 = .ok (.iload_n 1, 1) := by decide +kernel
theorem d_M_legCourse_2 : decode qM_legCourse.1 2 = .ok (.iload_n 2, 1) := by decide +kernel
theorem d_M_legCourse_3 : decode qM_legCourse.1 3 = .ok (.invokevirtual 529, 3) := by decide +kernel
theorem d_M_legCourse_6 : decode qM_legCourse.1 6 = .ok (.ifCond .ne 7, 3) := by decide +kernel
theorem d_M_legCourse_9 : decode qM_legCourse.1 9 = .ok (.ldc_w 493, 3) := by decide +kernel
theorem d_M_legCourse_12 : decode qM_legCourse.1 12 = .ok (.ireturn, 1) := by decide +kernel
theorem d_M_legCourse_13 : decode qM_legCourse.1 13 = .ok (.ldc_w 453, 3) := by decide +kernel
theorem d_M_legCourse_16 : decode qM_legCourse.1 16 = .ok (.istore_n 3, 1) := by decide +kernel
theorem d_M_legCourse_17 : decode qM_legCourse.1 17 = .ok (.iconst 0, 1) := by decide +kernel
theorem d_M_legCourse_18 : decode qM_legCourse.1 18 = .ok (.istore 4, 2) := by decide +kernel
theorem d_M_legCourse_20 : decode qM_legCourse.1 20 = .ok (.iload 4, 2) := by decide +kernel
theorem d_M_legCourse_22 : decode qM_legCourse.1 22 = .ok (.aload_n 0, 1) := by decide +kernel
theorem d_M_legCourse_23 : decode qM_legCourse.1 23 = .ok (.getfield 289, 3) := by decide +kernel
theorem d_M_legCourse_26 : decode qM_legCourse.1 26 = .ok (.if_icmp .ge 32, 3) := by decide +kernel
theorem d_M_legCourse_29 : decode qM_legCourse.1 29 = .ok (.aload_n 0, 1) := by decide +kernel
theorem d_M_legCourse_30 : decode qM_legCourse.1 30 = .ok (.getfield 111, 3) := by decide +kernel
theorem d_M_legCourse_33 : decode qM_legCourse.1 33 = .ok (.iload 4, 2) := by decide +kernel
theorem d_M_legCourse_35 : decode qM_legCourse.1 35 = .ok (.iaload, 1) := by decide +kernel
theorem d_M_legCourse_36 : decode qM_legCourse.1 36 = .ok (.iload_n 2, 1) := by decide +kernel
theorem d_M_legCourse_37 : decode qM_legCourse.1 37 = .ok (.if_icmp .ne 13, 3) := by decide +kernel
theorem d_M_legCourse_40 : decode qM_legCourse.1 40 = .ok (.aload_n 0, 1) := by decide +kernel
theorem d_M_legCourse_41 : decode qM_legCourse.1 41 = .ok (.getfield 120, 3) := by decide +kernel
theorem d_M_legCourse_44 : decode qM_legCourse.1 44 = .ok (.iload 4, 2) := by decide +kernel
theorem d_M_legCourse_46 : decode qM_legCourse.1 46 = .ok (.iaload, 1) := by decide +kernel
theorem d_M_legCourse_47 : decode qM_legCourse.1 47 = .ok (.goto 4, 3) := by decide +kernel
theorem d_M_legCourse_50 : decode qM_legCourse.1 50 = .ok (.iload_n 3, 1) := by decide +kernel
theorem d_M_legCourse_51 : decode qM_legCourse.1 51 = .ok (.istore_n 3, 1) := by decide +kernel
theorem d_M_legCourse_52 : decode qM_legCourse.1 52 = .ok (.iinc 4 1, 3) := by decide +kernel
theorem d_M_legCourse_55 : decode qM_legCourse.1 55 = .ok (.goto (-35), 3) := by decide +kernel
theorem d_M_legCourse_58 : decode qM_legCourse.1 58 = .ok (.iload_n 3, 1) := by decide +kernel
theorem d_M_legCourse_59 : decode qM_legCourse.1 59 = .ok (.ireturn, 1) := by decide +kernel
set_option maxRecDepth 100000 in
def lb_m_legCourse_20 (p2 : Int32) (x1 : Int32 × St) (J3 : Int32 → Option (Int32 × St)) (ih5 : Int32 × Int32 → Option (Int32 × St)) (a4 : Int32 × Int32) : Option (Int32 × St) :=
  if ((x1.2 0 57) : Int32) ≤ a4.2 then (
  J3 a4.1
  ) else (
  Gd (Ix a4.2 180) <|
  Jn (fun (x6 : Int32) =>
  Lt (a4.2 + (1 : Int32) : Int32) fun x8 =>
  ih5 (x6, x8)
  ) fun J7 =>
  if ((x1.2 29 (Int32.toNatClampNeg a4.2)) : Int32) = p2 then (
  Gd (Ix a4.2 180) <|
  J7 (x1.2 32 (Int32.toNatClampNeg a4.2))
  ) else (
  J7 a4.1
  )
  )
set_option maxRecDepth 100000 in
def m_legCourse (σ : St) (p1 : Int32) (p2 : Int32) : Option (Int32 × St) :=
  Option.bind (m_isLegOf σ p1 p2) fun x1 =>
  if (x1.1 : Int32) = 0 then (
  some ((-1000001 : Int32), x1.2)
  ) else (
  Jn (fun (x2 : Int32) =>
  some (x2, x1.2)
  ) fun J3 =>
  lp (lb_m_legCourse_20 p2 x1 J3) 4000 ((-1000000 : Int32), (0 : Int32))
  )
set_option maxHeartbeats 4000000 in
set_option maxRecDepth 100000 in
theorem cM_legCourse (l : Launch) (g : Ge) (hi : injB wM.2 g) (σ : St) (p1 : Int32) (p2 : Int32) (x : Int32 × St) (h : m_legCourse σ p1 p2 = some x) : Ct l wM g yM_legCourse qM_legCourse 10 242 [.ref (g.1 0), .int p1, .int p2] σ (some (.int x.1), x.2) := by
  refine Ct.of (out := o_w) FM_legCourse rfl hi rfl h (fun z hz C => ?_)
  clear h
  subst hz
  unfold m_legCourse
  show Rt z qM_legCourse wM g o_w 0 [(0, .ref (g.1 0)), (1, .int p1), (2, .int p2)] [] σ _
  refine q_aload_n (pc' := 1) C 0 d_M_legCourse_0 rfl rfl ?_
  refine q_iload_n (pc' := 2) C 1 d_M_legCourse_1 rfl rfl ?_
  refine q_iload_n (pc' := 3) C 2 d_M_legCourse_2 rfl rfl ?_
  refine q_callVw (fr' := 9) (lo' := 220) (pc' := 6) C FM_isLegOf lmM_529 d_M_legCourse_3 0 jM_0 kM_0 cM0 [.int p1, .int p2] [] rfl rfl (Nat.le_of_ble_eq_true rfl) ⟨rfl, rfl⟩ (fun x h => cM_isLegOf _ g hi σ p1 p2 x h) rfl (fun x1 _ => ?_)
  refine q_if_ne (tgt := 13) (pc' := 9) C d_M_legCourse_6 rfl rfl ?_ ?_
  · refine q_ldcw (pc' := 16) C lcM_453 d_M_legCourse_13 rfl ?_
    refine q_istore_n (pc' := 17) (lv' := [(3, .int (-1000000 : Int32)), (0, .ref (g.1 0)), (1, .int p1), (2, .int p2)]) C d_M_legCourse_16 (by decide) rfl rfl ?_
    refine q_iconst (pc' := 18) C d_M_legCourse_17 ki_0 rfl ?_
    refine q_istore (pc' := 20) (lv' := [(4, .int (0 : Int32)), (3, .int (-1000000 : Int32)), (0, .ref (g.1 0)), (1, .int p1), (2, .int p2)]) C d_M_legCourse_18 (by decide) rfl rfl ?_
    refine q_join (fun J3 : Int32 → Option (Int32 × St) => ∀ (x2 : Int32), Rt z qM_legCourse wM g o_w 58 [(3, .int x2)] [] x1.2 (J3 x2)) (fun x2 => ?_) (fun J3 hJ3 => ?_)
    · refine q_iload_n (pc' := 59) C 0 d_M_legCourse_58 rfl rfl ?_
      exact q_iret C rfl d_M_legCourse_59 rfl
    refine Rt.sub [2, 4, 1, 0] rfl (q_lp (fun a4 : Int32 × Int32 => [(0, .ref (g.1 0)), (2, .int p2), (3, .int a4.1), (4, .int a4.2)]) (fun a4 => []) (fun a4 => x1.2) (fun ih5 hih5 a4 => ?_) 4000 ((-1000000 : Int32), (0 : Int32)))
    unfold lb_m_legCourse_20
    refine q_iload (pc' := 22) C 3 d_M_legCourse_20 rfl rfl ?_
    refine q_aload_n (pc' := 23) C 0 d_M_legCourse_22 rfl rfl ?_
    refine gM_289 (pc' := 26) C d_M_legCourse_23 rfl rfl ?_
    refine q_icmp_ge (tgt := 58) (pc' := 29) C d_M_legCourse_26 rfl rfl ?_ ?_
    · exact Rt.sub [2] rfl (hJ3 a4.1)
    · refine q_aload_n (pc' := 30) C 0 d_M_legCourse_29 rfl rfl ?_
      refine gM_111 (pc' := 33) C d_M_legCourse_30 rfl rfl ?_
      refine q_iload (pc' := 35) C 3 d_M_legCourse_33 rfl rfl ?_
      refine q_iald (pc' := 36) C 29 jM_29 kM_29 d_M_legCourse_35 rfl ?_
      refine q_iload_n (pc' := 37) C 1 d_M_legCourse_36 rfl rfl ?_
      refine q_join (fun J7 : Int32 → Option (Int32 × St) => ∀ (x6 : Int32), Rt z qM_legCourse wM g o_w 51 [(0, .ref (g.1 0)), (2, .int p2), (4, .int a4.2)] [.int x6] x1.2 (J7 x6)) (fun x6 => ?_) (fun J7 hJ7 => ?_)
      · refine q_istore_n (pc' := 52) (lv' := [(3, .int x6), (0, .ref (g.1 0)), (2, .int p2), (4, .int a4.2)]) C d_M_legCourse_51 (by decide) rfl rfl ?_
        refine q_let (fun x8 e8 => ?_)
        refine q_iinc (pc' := 55) (lv' := [(4, .int x8), (3, .int x6), (0, .ref (g.1 0)), (2, .int p2)]) C 3 d_M_legCourse_52 rfl (by rw [e8, ki_1]) (by decide) rfl rfl ?_
        refine q_goto (tgt := 20) C d_M_legCourse_55 rfl ?_
        exact Rt.sub [2, 3, 1, 0] rfl (hih5 (x6, x8))
      refine q_icmp_ne (tgt := 50) (pc' := 40) C d_M_legCourse_37 rfl rfl ?_ ?_
      · refine q_iload_n (pc' := 51) C 2 d_M_legCourse_50 rfl rfl ?_
        exact Rt.sub [0, 1, 3] rfl (hJ7 a4.1)
      · refine q_aload_n (pc' := 41) C 0 d_M_legCourse_40 rfl rfl ?_
        refine gM_120 (pc' := 44) C d_M_legCourse_41 rfl rfl ?_
        refine q_iload (pc' := 46) C 3 d_M_legCourse_44 rfl rfl ?_
        refine q_iald (pc' := 47) C 32 jM_32 kM_32 d_M_legCourse_46 rfl ?_
        refine q_goto (tgt := 51) C d_M_legCourse_47 rfl ?_
        exact Rt.sub [0, 1, 3] rfl (hJ7 (x1.2 32 (Int32.toNatClampNeg a4.2)))
  · refine q_ldcw (pc' := 12) C lcM_493 d_M_legCourse_9 rfl ?_
    exact q_iret C rfl d_M_legCourse_12 rfl
theorem d_M_legLength_0 : decode qM_legLength.1 0 = .ok (.aload_n 0, 1) := by decide +kernel
theorem d_M_legLength_1 : decode qM_legLength.1 1 = .ok (.iload_n 1, 1) := by decide +kernel
theorem d_M_legLength_2 : decode qM_legLength.1 2 = .ok (.iload_n 2, 1) := by decide +kernel
theorem d_M_legLength_3 : decode qM_legLength.1 3 = .ok (.invokevirtual 529, 3) := by decide +kernel
theorem d_M_legLength_6 : decode qM_legLength.1 6 = .ok (.ifCond .eq 12, 3) := by decide +kernel
theorem d_M_legLength_9 : decode qM_legLength.1 9 = .ok (.aload_n 0, 1) := by decide +kernel
theorem d_M_legLength_10 : decode qM_legLength.1 10 = .ok (.getfield 135, 3) := by decide +kernel
theorem d_M_legLength_13 : decode qM_legLength.1 13 = .ok (.iload_n 2, 1) := by decide +kernel
theorem d_M_legLength_14 : decode qM_legLength.1 14 = .ok (.iaload, 1) := by decide +kernel
theorem d_M_legLength_15 : decode qM_legLength.1 15 = .ok (.goto 6, 3) := by decide +kernel
theorem d_M_legLength_18 : decode qM_legLength.1 18 = .ok (.ldc_w 493, 3) := by decide +kernel
theorem d_M_legLength_21 : decode qM_legLength.1 21 = .ok (.ireturn, 1) := by decide +kernel
set_option maxRecDepth 100000 in
def m_legLength (σ : St) (p1 : Int32) (p2 : Int32) : Option (Int32 × St) :=
  Option.bind (m_isLegOf σ p1 p2) fun x1 =>
  Jn (fun (x2 : Int32) =>
  some (x2, x1.2)
  ) fun J3 =>
  if (x1.1 : Int32) = 0 then (
  J3 (-1000001 : Int32)
  ) else (
  Gd (Ix p2 21) <|
  J3 (x1.2 37 (Int32.toNatClampNeg p2))
  )
set_option maxHeartbeats 4000000 in
set_option maxRecDepth 100000 in
theorem cM_legLength (l : Launch) (g : Ge) (hi : injB wM.2 g) (σ : St) (p1 : Int32) (p2 : Int32) (x : Int32 × St) (h : m_legLength σ p1 p2 = some x) : Ct l wM g yM_legLength qM_legLength 10 242 [.ref (g.1 0), .int p1, .int p2] σ (some (.int x.1), x.2) := by
  refine Ct.of (out := o_w) FM_legLength rfl hi rfl h (fun z hz C => ?_)
  clear h
  subst hz
  unfold m_legLength
  show Rt z qM_legLength wM g o_w 0 [(0, .ref (g.1 0)), (1, .int p1), (2, .int p2)] [] σ _
  refine q_aload_n (pc' := 1) C 0 d_M_legLength_0 rfl rfl ?_
  refine q_iload_n (pc' := 2) C 1 d_M_legLength_1 rfl rfl ?_
  refine q_iload_n (pc' := 3) C 2 d_M_legLength_2 rfl rfl ?_
  refine q_callVw (fr' := 9) (lo' := 220) (pc' := 6) C FM_isLegOf lmM_529 d_M_legLength_3 0 jM_0 kM_0 cM0 [.int p1, .int p2] [] rfl rfl (Nat.le_of_ble_eq_true rfl) ⟨rfl, rfl⟩ (fun x h => cM_isLegOf _ g hi σ p1 p2 x h) rfl (fun x1 _ => ?_)
  refine q_join (fun J3 : Int32 → Option (Int32 × St) => ∀ (x2 : Int32), Rt z qM_legLength wM g o_w 21 [] [.int x2] x1.2 (J3 x2)) (fun x2 => ?_) (fun J3 hJ3 => ?_)
  · exact q_iret C rfl d_M_legLength_21 rfl
  refine q_if_eq (tgt := 18) (pc' := 9) C d_M_legLength_6 rfl rfl ?_ ?_
  · refine q_ldcw (pc' := 21) C lcM_493 d_M_legLength_18 rfl ?_
    exact Rt.sub [] rfl (hJ3 (-1000001 : Int32))
  · refine q_aload_n (pc' := 10) C 0 d_M_legLength_9 rfl rfl ?_
    refine gM_135 (pc' := 13) C d_M_legLength_10 rfl rfl ?_
    refine q_iload_n (pc' := 14) C 2 d_M_legLength_13 rfl rfl ?_
    refine q_iald (pc' := 15) C 37 jM_37 kM_37 d_M_legLength_14 rfl ?_
    refine q_goto (tgt := 21) C d_M_legLength_15 rfl ?_
    exact Rt.sub [] rfl (hJ3 (x1.2 37 (Int32.toNatClampNeg p2)))
theorem d_M_legTime_0 : decode qM_legTime.1 0 = .ok (.aload_n 0, 1) := by decide +kernel
theorem d_M_legTime_1 : decode qM_legTime.1 1 = .ok (.iload_n 1, 1) := by decide +kernel
theorem d_M_legTime_2 : decode qM_legTime.1 2 = .ok (.iload_n 2, 1) := by decide +kernel
theorem d_M_legTime_3 : decode qM_legTime.1 3 = .ok (.invokevirtual 529, 3) := by decide +kernel
theorem d_M_legTime_6 : decode qM_legTime.1 6 = .ok (.ifCond .eq 12, 3) := by decide +kernel
theorem d_M_legTime_9 : decode qM_legTime.1 9 = .ok (.aload_n 0, 1) := by decide +kernel
theorem d_M_legTime_10 : decode qM_legTime.1 10 = .ok (.getfield 138, 3) := by decide +kernel
theorem d_M_legTime_13 : decode qM_legTime.1 13 = .ok (.iload_n 2, 1) := by decide +kernel
theorem d_M_legTime_14 : decode qM_legTime.1 14 = .ok (.iaload, 1) := by decide +kernel
theorem d_M_legTime_15 : decode qM_legTime.1 15 = .ok (.goto 6, 3) := by decide +kernel
theorem d_M_legTime_18 : decode qM_legTime.1 18 = .ok (.ldc_w 493, 3) := by decide +kernel
theorem d_M_legTime_21 : decode qM_legTime.1 21 = .ok (.ireturn, 1) := by decide +kernel
set_option maxRecDepth 100000 in
def m_legTime (σ : St) (p1 : Int32) (p2 : Int32) : Option (Int32 × St) :=
  Option.bind (m_isLegOf σ p1 p2) fun x1 =>
  Jn (fun (x2 : Int32) =>
  some (x2, x1.2)
  ) fun J3 =>
  if (x1.1 : Int32) = 0 then (
  J3 (-1000001 : Int32)
  ) else (
  Gd (Ix p2 21) <|
  J3 (x1.2 38 (Int32.toNatClampNeg p2))
  )
set_option maxHeartbeats 4000000 in
set_option maxRecDepth 100000 in
theorem cM_legTime (l : Launch) (g : Ge) (hi : injB wM.2 g) (σ : St) (p1 : Int32) (p2 : Int32) (x : Int32 × St) (h : m_legTime σ p1 p2 = some x) : Ct l wM g yM_legTime qM_legTime 10 242 [.ref (g.1 0), .int p1, .int p2] σ (some (.int x.1), x.2) := by
  refine Ct.of (out := o_w) FM_legTime rfl hi rfl h (fun z hz C => ?_)
  clear h
  subst hz
  unfold m_legTime
  show Rt z qM_legTime wM g o_w 0 [(0, .ref (g.1 0)), (1, .int p1), (2, .int p2)] [] σ _
  refine q_aload_n (pc' := 1) C 0 d_M_legTime_0 rfl rfl ?_
  refine q_iload_n (pc' := 2) C 1 d_M_legTime_1 rfl rfl ?_
  refine q_iload_n (pc' := 3) C 2 d_M_legTime_2 rfl rfl ?_
  refine q_callVw (fr' := 9) (lo' := 220) (pc' := 6) C FM_isLegOf lmM_529 d_M_legTime_3 0 jM_0 kM_0 cM0 [.int p1, .int p2] [] rfl rfl (Nat.le_of_ble_eq_true rfl) ⟨rfl, rfl⟩ (fun x h => cM_isLegOf _ g hi σ p1 p2 x h) rfl (fun x1 _ => ?_)
  refine q_join (fun J3 : Int32 → Option (Int32 × St) => ∀ (x2 : Int32), Rt z qM_legTime wM g o_w 21 [] [.int x2] x1.2 (J3 x2)) (fun x2 => ?_) (fun J3 hJ3 => ?_)
  · exact q_iret C rfl d_M_legTime_21 rfl
  refine q_if_eq (tgt := 18) (pc' := 9) C d_M_legTime_6 rfl rfl ?_ ?_
  · refine q_ldcw (pc' := 21) C lcM_493 d_M_legTime_18 rfl ?_
    exact Rt.sub [] rfl (hJ3 (-1000001 : Int32))
  · refine q_aload_n (pc' := 10) C 0 d_M_legTime_9 rfl rfl ?_
    refine gM_138 (pc' := 13) C d_M_legTime_10 rfl rfl ?_
    refine q_iload_n (pc' := 14) C 2 d_M_legTime_13 rfl rfl ?_
    refine q_iald (pc' := 15) C 38 jM_38 kM_38 d_M_legTime_14 rfl ?_
    refine q_goto (tgt := 21) C d_M_legTime_15 rfl ?_
    exact Rt.sub [] rfl (hJ3 (x1.2 38 (Int32.toNatClampNeg p2)))
theorem d_M_lengthTo_0 : decode qM_lengthTo.1 0 = .ok (.aload_n 0, 1) := by decide +kernel
theorem d_M_lengthTo_1 : decode qM_lengthTo.1 1 = .ok (.iload_n 1, 1) := by decide +kernel
theorem d_M_lengthTo_2 : decode qM_lengthTo.1 2 = .ok (.iload_n 2, 1) := by decide +kernel
theorem d_M_lengthTo_3 : decode qM_lengthTo.1 3 = .ok (.invokevirtual 529, 3) := by decide +kernel
theorem d_M_lengthTo_6 : decode qM_lengthTo.1 6 = .ok (.ifCond .eq 11, 3) := by decide +kernel
theorem d_M_lengthTo_9 : decode qM_lengthTo.1 9 = .ok (.aload_n 0, 1) := by decide +kernel
theorem d_M_lengthTo_10 : decode qM_lengthTo.1 10 = .ok (.iload_n 2, 1) := by decide +kernel
theorem d_M_lengthTo_11 : decode qM_lengthTo.1 11 = .ok (.invokevirtual 520, 3) := by decide +kernel
theorem d_M_lengthTo_14 : decode qM_lengthTo.1 14 = .ok (.goto 6, 3) := by decide +kernel
theorem d_M_lengthTo_17 : decode qM_lengthTo.1 17 = .ok (.ldc_w 493, 3) := by decide +kernel
theorem d_M_lengthTo_20 : decode qM_lengthTo.1 20 = .ok (.ireturn, 1) := by decide +kernel
set_option maxRecDepth 100000 in
def m_lengthTo (σ : St) (p1 : Int32) (p2 : Int32) : Option (Int32 × St) :=
  Option.bind (m_isLegOf σ p1 p2) fun x1 =>
  Jn (fun (x2 : Int32) =>
  some (x2, x1.2)
  ) fun J3 =>
  if (x1.1 : Int32) = 0 then (
  J3 (-1000001 : Int32)
  ) else (
  Option.bind (m_lengthUpTo x1.2 p2) fun x4 =>
  J3 x4
  )
set_option maxHeartbeats 4000000 in
set_option maxRecDepth 100000 in
theorem cM_lengthTo (l : Launch) (g : Ge) (hi : injB wM.2 g) (σ : St) (p1 : Int32) (p2 : Int32) (x : Int32 × St) (h : m_lengthTo σ p1 p2 = some x) : Ct l wM g yM_lengthTo qM_lengthTo 10 242 [.ref (g.1 0), .int p1, .int p2] σ (some (.int x.1), x.2) := by
  refine Ct.of (out := o_w) FM_lengthTo rfl hi rfl h (fun z hz C => ?_)
  clear h
  subst hz
  unfold m_lengthTo
  show Rt z qM_lengthTo wM g o_w 0 [(0, .ref (g.1 0)), (1, .int p1), (2, .int p2)] [] σ _
  refine q_aload_n (pc' := 1) C 0 d_M_lengthTo_0 rfl rfl ?_
  refine q_iload_n (pc' := 2) C 1 d_M_lengthTo_1 rfl rfl ?_
  refine q_iload_n (pc' := 3) C 2 d_M_lengthTo_2 rfl rfl ?_
  refine q_callVw (fr' := 9) (lo' := 220) (pc' := 6) C FM_isLegOf lmM_529 d_M_lengthTo_3 0 jM_0 kM_0 cM0 [.int p1, .int p2] [] rfl rfl (Nat.le_of_ble_eq_true rfl) ⟨rfl, rfl⟩ (fun x h => cM_isLegOf _ g hi σ p1 p2 x h) rfl (fun x1 _ => ?_)
  refine q_join (fun J3 : Int32 → Option (Int32 × St) => ∀ (x2 : Int32), Rt z qM_lengthTo wM g o_w 20 [] [.int x2] x1.2 (J3 x2)) (fun x2 => ?_) (fun J3 hJ3 => ?_)
  · exact q_iret C rfl d_M_lengthTo_20 rfl
  refine q_if_eq (tgt := 17) (pc' := 9) C d_M_lengthTo_6 rfl rfl ?_ ?_
  · refine q_ldcw (pc' := 20) C lcM_493 d_M_lengthTo_17 rfl ?_
    exact Rt.sub [] rfl (hJ3 (-1000001 : Int32))
  · refine q_aload_n (pc' := 10) C 0 d_M_lengthTo_9 rfl rfl ?_
    refine q_iload_n (pc' := 11) C 2 d_M_lengthTo_10 rfl rfl ?_
    refine q_callVr (fr' := 0) (lo' := 0) (pc' := 14) C FM_lengthUpTo lmM_520 d_M_lengthTo_11 0 jM_0 kM_0 cM0 [.int p2] [] rfl rfl (Nat.le_of_ble_eq_true rfl) ⟨rfl, rfl⟩ (fun x h => cM_lengthUpTo _ g hi x1.2 p2 x h) rfl (fun x4 _ => ?_)
    refine q_goto (tgt := 20) C d_M_lengthTo_14 rfl ?_
    exact Rt.sub [] rfl (hJ3 x4)
theorem d_M_segmentOf_0 : decode qM_segmentOf.1 0 = .ok (.aload_n 0, 1) := by decide +kernel
theorem d_M_segmentOf_1 : decode qM_segmentOf.1 1 = .ok (.getfield 90, 3) := by decide +kernel
theorem d_M_segmentOf_4 : decode qM_segmentOf.1 4 = .ok (.iload_n 1, 1) := by decide +kernel
theorem d_M_segmentOf_5 : decode qM_segmentOf.1 5 = .ok (.iaload, 1) := by decide +kernel
theorem d_M_segmentOf_6 : decode qM_segmentOf.1 6 = .ok (.aload_n 0, 1) := by decide +kernel
theorem d_M_segmentOf_7 : decode qM_segmentOf.1 7 = .ok (.getfield 90, 3) := by decide +kernel
theorem d_M_segmentOf_10 : decode qM_segmentOf.1 10 = .ok (.iload_n 1, 1) := by decide +kernel
theorem d_M_segmentOf_11 : decode qM_segmentOf.1 11 = .ok (.iconst 1, 1) := by decide +kernel
theorem d_M_segmentOf_12 : decode qM_segmentOf.1 12 = .ok (.iadd, 1) := by decide +kernel
theorem d_M_segmentOf_13 : decode qM_segmentOf.1 13 = .ok (.iaload, 1) := by decide +kernel
theorem d_M_segmentOf_14 : decode qM_segmentOf.1 14 = .ok (.if_icmp .ge 12, 3) := by decide +kernel
theorem d_M_segmentOf_17 : decode qM_segmentOf.1 17 = .ok (.aload_n 0, 1) := by decide +kernel
theorem d_M_segmentOf_18 : decode qM_segmentOf.1 18 = .ok (.getfield 90, 3) := by decide +kernel
theorem d_M_segmentOf_21 : decode qM_segmentOf.1 21 = .ok (.iload_n 1, 1) := by decide +kernel
theorem d_M_segmentOf_22 : decode qM_segmentOf.1 22 = .ok (.iaload, 1) := by decide +kernel
theorem d_M_segmentOf_23 : decode qM_segmentOf.1 23 = .ok (.goto 4, 3) := by decide +kernel
theorem d_M_segmentOf_26 : decode qM_segmentOf.1 26 = .ok (.iconst (-1), 1) := by decide +kernel
theorem d_M_segmentOf_27 : decode qM_segmentOf.1 27 = .ok (.ireturn, 1) := by decide +kernel
set_option maxRecDepth 100000 in
def m_segmentOf (σ : St) (p1 : Int32) : Option (Int32) :=
  Gd (Ix p1 22) <|
  Gd (Ix (p1 + (1 : Int32)) 22) <|
  Jn (fun (x1 : Int32) =>
  some x1
  ) fun J2 =>
  if ((σ 22 (Int32.toNatClampNeg (p1 + (1 : Int32)))) : Int32) ≤ (σ 22 (Int32.toNatClampNeg p1)) then (
  J2 (-1 : Int32)
  ) else (
  Gd (Ix p1 22) <|
  J2 (σ 22 (Int32.toNatClampNeg p1))
  )
set_option maxHeartbeats 4000000 in
set_option maxRecDepth 100000 in
theorem cM_segmentOf (l : Launch) (g : Ge) (hi : injB wM.2 g) (σ : St) (p1 : Int32) (x : Int32) (h : m_segmentOf σ p1 = some x) : Ct l wM g yM_segmentOf qM_segmentOf 0 0 [.ref (g.1 0), .int p1] σ (some (.int x), σ) := by
  refine Ct.of (out := (o_r σ)) FM_segmentOf rfl hi rfl h (fun z hz C => ?_)
  clear h
  subst hz
  unfold m_segmentOf
  show Rt z qM_segmentOf wM g (o_r σ) 0 [(0, .ref (g.1 0)), (1, .int p1)] [] σ _
  refine q_aload_n (pc' := 1) C 0 d_M_segmentOf_0 rfl rfl ?_
  refine gM_90 (pc' := 4) C d_M_segmentOf_1 rfl rfl ?_
  refine q_iload_n (pc' := 5) C 1 d_M_segmentOf_4 rfl rfl ?_
  refine q_iald (pc' := 6) C 22 jM_22 kM_22 d_M_segmentOf_5 rfl ?_
  refine q_aload_n (pc' := 7) C 0 d_M_segmentOf_6 rfl rfl ?_
  refine gM_90 (pc' := 10) C d_M_segmentOf_7 rfl rfl ?_
  refine q_iload_n (pc' := 11) C 1 d_M_segmentOf_10 rfl rfl ?_
  refine q_iconst (pc' := 12) C d_M_segmentOf_11 ki_1 rfl ?_
  refine q_iadd (pc' := 13) C d_M_segmentOf_12 rfl ?_
  refine q_iald (pc' := 14) C 22 jM_22 kM_22 d_M_segmentOf_13 rfl ?_
  refine q_join (fun J2 : Int32 → Option (Int32) => ∀ (x1 : Int32), Rt z qM_segmentOf wM g (o_r σ) 27 [] [.int x1] σ (J2 x1)) (fun x1 => ?_) (fun J2 hJ2 => ?_)
  · exact q_iret C rfl d_M_segmentOf_27 rfl
  refine q_icmp_ge (tgt := 26) (pc' := 17) C d_M_segmentOf_14 rfl rfl ?_ ?_
  · refine q_iconst (pc' := 27) C d_M_segmentOf_26 ki_m1 rfl ?_
    exact Rt.sub [] rfl (hJ2 (-1 : Int32))
  · refine q_aload_n (pc' := 18) C 0 d_M_segmentOf_17 rfl rfl ?_
    refine gM_90 (pc' := 21) C d_M_segmentOf_18 rfl rfl ?_
    refine q_iload_n (pc' := 22) C 1 d_M_segmentOf_21 rfl rfl ?_
    refine q_iald (pc' := 23) C 22 jM_22 kM_22 d_M_segmentOf_22 rfl ?_
    refine q_goto (tgt := 27) C d_M_segmentOf_23 rfl ?_
    exact Rt.sub [] rfl (hJ2 (σ 22 (Int32.toNatClampNeg p1)))
theorem d_M_turnKind_0 : decode qM_turnKind.1 0 = .ok (.aload_n 0, 1) := by decide +kernel
theorem d_M_turnKind_1 : decode qM_turnKind.1 1 = .ok (.iload_n 1, 1) := by decide +kernel
theorem d_M_turnKind_2 : decode qM_turnKind.1 2 = .ok (.iload_n 2, 1) := by decide +kernel
theorem d_M_turnKind_3 : decode qM_turnKind.1 3 = .ok (.invokevirtual 529, 3) := by decide +kernel
theorem d_M_turnKind_6 : decode qM_turnKind.1 6 = .ok (.ifCond .ne 7, 3) := by decide +kernel
theorem d_M_turnKind_9 : decode qM_turnKind.1 9 = .ok (.ldc_w 493, 3) := by decide +kernel
theorem d_M_turnKind_12 : decode qM_turnKind.1 12 = .ok (.ireturn, 1) := by decide +kernel
theorem d_M_turnKind_13 : decode qM_turnKind.1 13 = .ok (.aload_n 0, 1) := by decide +kernel
theorem d_M_turnKind_14 : decode qM_turnKind.1 14 = .ok (.iload_n 2, 1) := by decide +kernel
theorem d_M_turnKind_15 : decode qM_turnKind.1 15 = .ok (.invokevirtual 532, 3) := by decide +kernel
theorem d_M_turnKind_18 : decode qM_turnKind.1 18 = .ok (.ifCond .ge 7, 3) := by decide +kernel
theorem d_M_turnKind_21 : decode qM_turnKind.1 21 = .ok (.iconst 0, 1) := by decide +kernel
theorem d_M_turnKind_22 : decode qM_turnKind.1 22 = .ok (.goto 13, 3) := by decide +kernel
theorem d_M_turnKind_25 : decode qM_turnKind.1 25 = .ok (.aload_n 0, 1) := by decide +kernel
theorem d_M_turnKind_26 : decode qM_turnKind.1 26 = .ok (.getfield 96, 3) := by decide +kernel
theorem d_M_turnKind_29 : decode qM_turnKind.1 29 = .ok (.aload_n 0, 1) := by decide +kernel
theorem d_M_turnKind_30 : decode qM_turnKind.1 30 = .ok (.iload_n 2, 1) := by decide +kernel
theorem d_M_turnKind_31 : decode qM_turnKind.1 31 = .ok (.invokevirtual 532, 3) := by decide +kernel
theorem d_M_turnKind_34 : decode qM_turnKind.1 34 = .ok (.iaload, 1) := by decide +kernel
theorem d_M_turnKind_35 : decode qM_turnKind.1 35 = .ok (.ireturn, 1) := by decide +kernel
set_option maxRecDepth 100000 in
def m_turnKind (σ : St) (p1 : Int32) (p2 : Int32) : Option (Int32 × St) :=
  Option.bind (m_isLegOf σ p1 p2) fun x1 =>
  if (x1.1 : Int32) = 0 then (
  some ((-1000001 : Int32), x1.2)
  ) else (
  Option.bind (m_segmentOf x1.2 p2) fun x2 =>
  Jn (fun (x3 : Int32) =>
  some (x3, x1.2)
  ) fun J4 =>
  if (0 : Int32) ≤ x2 then (
  Option.bind (m_segmentOf x1.2 p2) fun x5 =>
  Gd (Ix x5 42) <|
  J4 (x1.2 24 (Int32.toNatClampNeg x5))
  ) else (
  J4 (0 : Int32)
  )
  )
set_option maxHeartbeats 4000000 in
set_option maxRecDepth 100000 in
theorem cM_turnKind (l : Launch) (g : Ge) (hi : injB wM.2 g) (σ : St) (p1 : Int32) (p2 : Int32) (x : Int32 × St) (h : m_turnKind σ p1 p2 = some x) : Ct l wM g yM_turnKind qM_turnKind 10 242 [.ref (g.1 0), .int p1, .int p2] σ (some (.int x.1), x.2) := by
  refine Ct.of (out := o_w) FM_turnKind rfl hi rfl h (fun z hz C => ?_)
  clear h
  subst hz
  unfold m_turnKind
  show Rt z qM_turnKind wM g o_w 0 [(0, .ref (g.1 0)), (1, .int p1), (2, .int p2)] [] σ _
  refine q_aload_n (pc' := 1) C 0 d_M_turnKind_0 rfl rfl ?_
  refine q_iload_n (pc' := 2) C 1 d_M_turnKind_1 rfl rfl ?_
  refine q_iload_n (pc' := 3) C 2 d_M_turnKind_2 rfl rfl ?_
  refine q_callVw (fr' := 9) (lo' := 220) (pc' := 6) C FM_isLegOf lmM_529 d_M_turnKind_3 0 jM_0 kM_0 cM0 [.int p1, .int p2] [] rfl rfl (Nat.le_of_ble_eq_true rfl) ⟨rfl, rfl⟩ (fun x h => cM_isLegOf _ g hi σ p1 p2 x h) rfl (fun x1 _ => ?_)
  refine q_if_ne (tgt := 13) (pc' := 9) C d_M_turnKind_6 rfl rfl ?_ ?_
  · refine q_aload_n (pc' := 14) C 0 d_M_turnKind_13 rfl rfl ?_
    refine q_iload_n (pc' := 15) C 2 d_M_turnKind_14 rfl rfl ?_
    refine q_callVr (fr' := 0) (lo' := 0) (pc' := 18) C FM_segmentOf lmM_532 d_M_turnKind_15 0 jM_0 kM_0 cM0 [.int p2] [] rfl rfl (Nat.le_of_ble_eq_true rfl) ⟨rfl, rfl⟩ (fun x h => cM_segmentOf _ g hi x1.2 p2 x h) rfl (fun x2 _ => ?_)
    refine q_join (fun J4 : Int32 → Option (Int32 × St) => ∀ (x3 : Int32), Rt z qM_turnKind wM g o_w 35 [] [.int x3] x1.2 (J4 x3)) (fun x3 => ?_) (fun J4 hJ4 => ?_)
    · exact q_iret C rfl d_M_turnKind_35 rfl
    refine q_if_ge (tgt := 25) (pc' := 21) C d_M_turnKind_18 rfl rfl ?_ ?_
    · refine q_aload_n (pc' := 26) C 0 d_M_turnKind_25 rfl rfl ?_
      refine gM_96 (pc' := 29) C d_M_turnKind_26 rfl rfl ?_
      refine q_aload_n (pc' := 30) C 0 d_M_turnKind_29 rfl rfl ?_
      refine q_iload_n (pc' := 31) C 2 d_M_turnKind_30 rfl rfl ?_
      refine q_callVr (fr' := 0) (lo' := 0) (pc' := 34) C FM_segmentOf lmM_532 d_M_turnKind_31 0 jM_0 kM_0 cM0 [.int p2] [.ref (g.1 24)] rfl rfl (Nat.le_of_ble_eq_true rfl) ⟨rfl, rfl⟩ (fun x h => cM_segmentOf _ g hi x1.2 p2 x h) rfl (fun x5 _ => ?_)
      refine q_iald (pc' := 35) C 24 jM_24 kM_24 d_M_turnKind_34 rfl ?_
      exact Rt.sub [] rfl (hJ4 (x1.2 24 (Int32.toNatClampNeg x5)))
    · refine q_iconst (pc' := 22) C d_M_turnKind_21 ki_0 rfl ?_
      refine q_goto (tgt := 35) C d_M_turnKind_22 rfl ?_
      exact Rt.sub [] rfl (hJ4 (0 : Int32))
  · refine q_ldcw (pc' := 12) C lcM_493 d_M_turnKind_9 rfl ?_
    exact q_iret C rfl d_M_turnKind_12 rfl
theorem d_M_turnSteps_0 : decode qM_turnSteps.1 0 = .ok (.aload_n 0, 1) := by decide +kernel
theorem d_M_turnSteps_1 : decode qM_turnSteps.1 1 = .ok (.iload_n 1, 1) := by decide +kernel
theorem d_M_turnSteps_2 : decode qM_turnSteps.1 2 = .ok (.iload_n 2, 1) := by decide +kernel
theorem d_M_turnSteps_3 : decode qM_turnSteps.1 3 = .ok (.invokevirtual 529, 3) := by decide +kernel
theorem d_M_turnSteps_6 : decode qM_turnSteps.1 6 = .ok (.ifCond .ne 7, 3) := by decide +kernel
theorem d_M_turnSteps_9 : decode qM_turnSteps.1 9 = .ok (.ldc_w 493, 3) := by decide +kernel
theorem d_M_turnSteps_12 : decode qM_turnSteps.1 12 = .ok (.ireturn, 1) := by decide +kernel
theorem d_M_turnSteps_13 : decode qM_turnSteps.1 13 = .ok (.aload_n 0, 1) := by decide +kernel
theorem d_M_turnSteps_14 : decode qM_turnSteps.1 14 = .ok (.iload_n 2, 1) := by decide +kernel
theorem d_M_turnSteps_15 : decode qM_turnSteps.1 15 = .ok (.invokevirtual 532, 3) := by decide +kernel
theorem d_M_turnSteps_18 : decode qM_turnSteps.1 18 = .ok (.ifCond .ge 7, 3) := by decide +kernel
theorem d_M_turnSteps_21 : decode qM_turnSteps.1 21 = .ok (.iconst 0, 1) := by decide +kernel
theorem d_M_turnSteps_22 : decode qM_turnSteps.1 22 = .ok (.goto 13, 3) := by decide +kernel
theorem d_M_turnSteps_25 : decode qM_turnSteps.1 25 = .ok (.aload_n 0, 1) := by decide +kernel
theorem d_M_turnSteps_26 : decode qM_turnSteps.1 26 = .ok (.getfield 99, 3) := by decide +kernel
theorem d_M_turnSteps_29 : decode qM_turnSteps.1 29 = .ok (.aload_n 0, 1) := by decide +kernel
theorem d_M_turnSteps_30 : decode qM_turnSteps.1 30 = .ok (.iload_n 2, 1) := by decide +kernel
theorem d_M_turnSteps_31 : decode qM_turnSteps.1 31 = .ok (.invokevirtual 532, 3) := by decide +kernel
theorem d_M_turnSteps_34 : decode qM_turnSteps.1 34 = .ok (.iaload, 1) := by decide +kernel
theorem d_M_turnSteps_35 : decode qM_turnSteps.1 35 = .ok (.ireturn, 1) := by decide +kernel
set_option maxRecDepth 100000 in
def m_turnSteps (σ : St) (p1 : Int32) (p2 : Int32) : Option (Int32 × St) :=
  Option.bind (m_isLegOf σ p1 p2) fun x1 =>
  if (x1.1 : Int32) = 0 then (
  some ((-1000001 : Int32), x1.2)
  ) else (
  Option.bind (m_segmentOf x1.2 p2) fun x2 =>
  Jn (fun (x3 : Int32) =>
  some (x3, x1.2)
  ) fun J4 =>
  if (0 : Int32) ≤ x2 then (
  Option.bind (m_segmentOf x1.2 p2) fun x5 =>
  Gd (Ix x5 42) <|
  J4 (x1.2 25 (Int32.toNatClampNeg x5))
  ) else (
  J4 (0 : Int32)
  )
  )
set_option maxHeartbeats 4000000 in
set_option maxRecDepth 100000 in
theorem cM_turnSteps (l : Launch) (g : Ge) (hi : injB wM.2 g) (σ : St) (p1 : Int32) (p2 : Int32) (x : Int32 × St) (h : m_turnSteps σ p1 p2 = some x) : Ct l wM g yM_turnSteps qM_turnSteps 10 242 [.ref (g.1 0), .int p1, .int p2] σ (some (.int x.1), x.2) := by
  refine Ct.of (out := o_w) FM_turnSteps rfl hi rfl h (fun z hz C => ?_)
  clear h
  subst hz
  unfold m_turnSteps
  show Rt z qM_turnSteps wM g o_w 0 [(0, .ref (g.1 0)), (1, .int p1), (2, .int p2)] [] σ _
  refine q_aload_n (pc' := 1) C 0 d_M_turnSteps_0 rfl rfl ?_
  refine q_iload_n (pc' := 2) C 1 d_M_turnSteps_1 rfl rfl ?_
  refine q_iload_n (pc' := 3) C 2 d_M_turnSteps_2 rfl rfl ?_
  refine q_callVw (fr' := 9) (lo' := 220) (pc' := 6) C FM_isLegOf lmM_529 d_M_turnSteps_3 0 jM_0 kM_0 cM0 [.int p1, .int p2] [] rfl rfl (Nat.le_of_ble_eq_true rfl) ⟨rfl, rfl⟩ (fun x h => cM_isLegOf _ g hi σ p1 p2 x h) rfl (fun x1 _ => ?_)
  refine q_if_ne (tgt := 13) (pc' := 9) C d_M_turnSteps_6 rfl rfl ?_ ?_
  · refine q_aload_n (pc' := 14) C 0 d_M_turnSteps_13 rfl rfl ?_
    refine q_iload_n (pc' := 15) C 2 d_M_turnSteps_14 rfl rfl ?_
    refine q_callVr (fr' := 0) (lo' := 0) (pc' := 18) C FM_segmentOf lmM_532 d_M_turnSteps_15 0 jM_0 kM_0 cM0 [.int p2] [] rfl rfl (Nat.le_of_ble_eq_true rfl) ⟨rfl, rfl⟩ (fun x h => cM_segmentOf _ g hi x1.2 p2 x h) rfl (fun x2 _ => ?_)
    refine q_join (fun J4 : Int32 → Option (Int32 × St) => ∀ (x3 : Int32), Rt z qM_turnSteps wM g o_w 35 [] [.int x3] x1.2 (J4 x3)) (fun x3 => ?_) (fun J4 hJ4 => ?_)
    · exact q_iret C rfl d_M_turnSteps_35 rfl
    refine q_if_ge (tgt := 25) (pc' := 21) C d_M_turnSteps_18 rfl rfl ?_ ?_
    · refine q_aload_n (pc' := 26) C 0 d_M_turnSteps_25 rfl rfl ?_
      refine gM_99 (pc' := 29) C d_M_turnSteps_26 rfl rfl ?_
      refine q_aload_n (pc' := 30) C 0 d_M_turnSteps_29 rfl rfl ?_
      refine q_iload_n (pc' := 31) C 2 d_M_turnSteps_30 rfl rfl ?_
      refine q_callVr (fr' := 0) (lo' := 0) (pc' := 34) C FM_segmentOf lmM_532 d_M_turnSteps_31 0 jM_0 kM_0 cM0 [.int p2] [.ref (g.1 25)] rfl rfl (Nat.le_of_ble_eq_true rfl) ⟨rfl, rfl⟩ (fun x h => cM_segmentOf _ g hi x1.2 p2 x h) rfl (fun x5 _ => ?_)
      refine q_iald (pc' := 35) C 25 jM_25 kM_25 d_M_turnSteps_34 rfl ?_
      exact Rt.sub [] rfl (hJ4 (x1.2 25 (Int32.toNatClampNeg x5)))
    · refine q_iconst (pc' := 22) C d_M_turnSteps_21 ki_0 rfl ?_
      refine q_goto (tgt := 35) C d_M_turnSteps_22 rfl ?_
      exact Rt.sub [] rfl (hJ4 (0 : Int32))
  · refine q_ldcw (pc' := 12) C lcM_493 d_M_turnSteps_9 rfl ?_
    exact q_iret C rfl d_M_turnSteps_12 rfl
theorem d_M_turnRadius_0 : decode qM_turnRadius.1 0 = .ok (.aload_n 0, 1) := by decide +kernel
theorem d_M_turnRadius_1 : decode qM_turnRadius.1 1 = .ok (.iload_n 1, 1) := by decide +kernel
theorem d_M_turnRadius_2 : decode qM_turnRadius.1 2 = .ok (.iload_n 2, 1) := by decide +kernel
theorem d_M_turnRadius_3 : decode qM_turnRadius.1 3 = .ok (.invokevirtual 529, 3) := by decide +kernel
theorem d_M_turnRadius_6 : decode qM_turnRadius.1 6 = .ok (.ifCond .ne 7, 3) := by decide +kernel
theorem d_M_turnRadius_9 : decode qM_turnRadius.1 9 = .ok (.ldc_w 493, 3) := by decide +kernel
theorem d_M_turnRadius_12 : decode qM_turnRadius.1 12 = .ok (.ireturn, 1) := by decide +kernel
theorem d_M_turnRadius_13 : decode qM_turnRadius.1 13 = .ok (.aload_n 0, 1) := by decide +kernel
theorem d_M_turnRadius_14 : decode qM_turnRadius.1 14 = .ok (.iload_n 2, 1) := by decide +kernel
theorem d_M_turnRadius_15 : decode qM_turnRadius.1 15 = .ok (.invokevirtual 532, 3) := by decide +kernel
theorem d_M_turnRadius_18 : decode qM_turnRadius.1 18 = .ok (.ifCond .ge 7, 3) := by decide +kernel
theorem d_M_turnRadius_21 : decode qM_turnRadius.1 21 = .ok (.iconst 0, 1) := by decide +kernel
theorem d_M_turnRadius_22 : decode qM_turnRadius.1 22 = .ok (.goto 13, 3) := by decide +kernel
theorem d_M_turnRadius_25 : decode qM_turnRadius.1 25 = .ok (.aload_n 0, 1) := by decide +kernel
theorem d_M_turnRadius_26 : decode qM_turnRadius.1 26 = .ok (.getfield 102, 3) := by decide +kernel
theorem d_M_turnRadius_29 : decode qM_turnRadius.1 29 = .ok (.aload_n 0, 1) := by decide +kernel
theorem d_M_turnRadius_30 : decode qM_turnRadius.1 30 = .ok (.iload_n 2, 1) := by decide +kernel
theorem d_M_turnRadius_31 : decode qM_turnRadius.1 31 = .ok (.invokevirtual 532, 3) := by decide +kernel
theorem d_M_turnRadius_34 : decode qM_turnRadius.1 34 = .ok (.iaload, 1) := by decide +kernel
theorem d_M_turnRadius_35 : decode qM_turnRadius.1 35 = .ok (.ireturn, 1) := by decide +kernel
set_option maxRecDepth 100000 in
def m_turnRadius (σ : St) (p1 : Int32) (p2 : Int32) : Option (Int32 × St) :=
  Option.bind (m_isLegOf σ p1 p2) fun x1 =>
  if (x1.1 : Int32) = 0 then (
  some ((-1000001 : Int32), x1.2)
  ) else (
  Option.bind (m_segmentOf x1.2 p2) fun x2 =>
  Jn (fun (x3 : Int32) =>
  some (x3, x1.2)
  ) fun J4 =>
  if (0 : Int32) ≤ x2 then (
  Option.bind (m_segmentOf x1.2 p2) fun x5 =>
  Gd (Ix x5 42) <|
  J4 (x1.2 26 (Int32.toNatClampNeg x5))
  ) else (
  J4 (0 : Int32)
  )
  )
set_option maxHeartbeats 4000000 in
set_option maxRecDepth 100000 in
theorem cM_turnRadius (l : Launch) (g : Ge) (hi : injB wM.2 g) (σ : St) (p1 : Int32) (p2 : Int32) (x : Int32 × St) (h : m_turnRadius σ p1 p2 = some x) : Ct l wM g yM_turnRadius qM_turnRadius 10 242 [.ref (g.1 0), .int p1, .int p2] σ (some (.int x.1), x.2) := by
  refine Ct.of (out := o_w) FM_turnRadius rfl hi rfl h (fun z hz C => ?_)
  clear h
  subst hz
  unfold m_turnRadius
  show Rt z qM_turnRadius wM g o_w 0 [(0, .ref (g.1 0)), (1, .int p1), (2, .int p2)] [] σ _
  refine q_aload_n (pc' := 1) C 0 d_M_turnRadius_0 rfl rfl ?_
  refine q_iload_n (pc' := 2) C 1 d_M_turnRadius_1 rfl rfl ?_
  refine q_iload_n (pc' := 3) C 2 d_M_turnRadius_2 rfl rfl ?_
  refine q_callVw (fr' := 9) (lo' := 220) (pc' := 6) C FM_isLegOf lmM_529 d_M_turnRadius_3 0 jM_0 kM_0 cM0 [.int p1, .int p2] [] rfl rfl (Nat.le_of_ble_eq_true rfl) ⟨rfl, rfl⟩ (fun x h => cM_isLegOf _ g hi σ p1 p2 x h) rfl (fun x1 _ => ?_)
  refine q_if_ne (tgt := 13) (pc' := 9) C d_M_turnRadius_6 rfl rfl ?_ ?_
  · refine q_aload_n (pc' := 14) C 0 d_M_turnRadius_13 rfl rfl ?_
    refine q_iload_n (pc' := 15) C 2 d_M_turnRadius_14 rfl rfl ?_
    refine q_callVr (fr' := 0) (lo' := 0) (pc' := 18) C FM_segmentOf lmM_532 d_M_turnRadius_15 0 jM_0 kM_0 cM0 [.int p2] [] rfl rfl (Nat.le_of_ble_eq_true rfl) ⟨rfl, rfl⟩ (fun x h => cM_segmentOf _ g hi x1.2 p2 x h) rfl (fun x2 _ => ?_)
    refine q_join (fun J4 : Int32 → Option (Int32 × St) => ∀ (x3 : Int32), Rt z qM_turnRadius wM g o_w 35 [] [.int x3] x1.2 (J4 x3)) (fun x3 => ?_) (fun J4 hJ4 => ?_)
    · exact q_iret C rfl d_M_turnRadius_35 rfl
    refine q_if_ge (tgt := 25) (pc' := 21) C d_M_turnRadius_18 rfl rfl ?_ ?_
    · refine q_aload_n (pc' := 26) C 0 d_M_turnRadius_25 rfl rfl ?_
      refine gM_102 (pc' := 29) C d_M_turnRadius_26 rfl rfl ?_
      refine q_aload_n (pc' := 30) C 0 d_M_turnRadius_29 rfl rfl ?_
      refine q_iload_n (pc' := 31) C 2 d_M_turnRadius_30 rfl rfl ?_
      refine q_callVr (fr' := 0) (lo' := 0) (pc' := 34) C FM_segmentOf lmM_532 d_M_turnRadius_31 0 jM_0 kM_0 cM0 [.int p2] [.ref (g.1 26)] rfl rfl (Nat.le_of_ble_eq_true rfl) ⟨rfl, rfl⟩ (fun x h => cM_segmentOf _ g hi x1.2 p2 x h) rfl (fun x5 _ => ?_)
      refine q_iald (pc' := 35) C 26 jM_26 kM_26 d_M_turnRadius_34 rfl ?_
      exact Rt.sub [] rfl (hJ4 (x1.2 26 (Int32.toNatClampNeg x5)))
    · refine q_iconst (pc' := 22) C d_M_turnRadius_21 ki_0 rfl ?_
      refine q_goto (tgt := 35) C d_M_turnRadius_22 rfl ?_
      exact Rt.sub [] rfl (hJ4 (0 : Int32))
  · refine q_ldcw (pc' := 12) C lcM_493 d_M_turnRadius_9 rfl ?_
    exact q_iret C rfl d_M_turnRadius_12 rfl
theorem d_M_turnLead_0 : decode qM_turnLead.1 0 = .ok (.aload_n 0, 1) := by decide +kernel
theorem d_M_turnLead_1 : decode qM_turnLead.1 1 = .ok (.iload_n 1, 1) := by decide +kernel
theorem d_M_turnLead_2 : decode qM_turnLead.1 2 = .ok (.iload_n 2, 1) := by decide +kernel
theorem d_M_turnLead_3 : decode qM_turnLead.1 3 = .ok (.invokevirtual 529, 3) := by decide +kernel
theorem d_M_turnLead_6 : decode qM_turnLead.1 6 = .ok (.ifCond .ne 7, 3) := by decide +kernel
theorem d_M_turnLead_9 : decode qM_turnLead.1 9 = .ok (.ldc_w 493, 3) := by decide +kernel
theorem d_M_turnLead_12 : decode qM_turnLead.1 12 = .ok (.ireturn, 1) := by decide +kernel
theorem d_M_turnLead_13 : decode qM_turnLead.1 13 = .ok (.aload_n 0, 1) := by decide +kernel
theorem d_M_turnLead_14 : decode qM_turnLead.1 14 = .ok (.iload_n 2, 1) := by decide +kernel
theorem d_M_turnLead_15 : decode qM_turnLead.1 15 = .ok (.invokevirtual 532, 3) := by decide +kernel
theorem d_M_turnLead_18 : decode qM_turnLead.1 18 = .ok (.ifCond .ge 7, 3) := by decide +kernel
theorem d_M_turnLead_21 : decode qM_turnLead.1 21 = .ok (.iconst 0, 1) := by decide +kernel
theorem d_M_turnLead_22 : decode qM_turnLead.1 22 = .ok (.goto 13, 3) := by decide +kernel
theorem d_M_turnLead_25 : decode qM_turnLead.1 25 = .ok (.aload_n 0, 1) := by decide +kernel
theorem d_M_turnLead_26 : decode qM_turnLead.1 26 = .ok (.getfield 105, 3) := by decide +kernel
theorem d_M_turnLead_29 : decode qM_turnLead.1 29 = .ok (.aload_n 0, 1) := by decide +kernel
theorem d_M_turnLead_30 : decode qM_turnLead.1 30 = .ok (.iload_n 2, 1) := by decide +kernel
theorem d_M_turnLead_31 : decode qM_turnLead.1 31 = .ok (.invokevirtual 532, 3) := by decide +kernel
theorem d_M_turnLead_34 : decode qM_turnLead.1 34 = .ok (.iaload, 1) := by decide +kernel
theorem d_M_turnLead_35 : decode qM_turnLead.1 35 = .ok (.ireturn, 1) := by decide +kernel
set_option maxRecDepth 100000 in
def m_turnLead (σ : St) (p1 : Int32) (p2 : Int32) : Option (Int32 × St) :=
  Option.bind (m_isLegOf σ p1 p2) fun x1 =>
  if (x1.1 : Int32) = 0 then (
  some ((-1000001 : Int32), x1.2)
  ) else (
  Option.bind (m_segmentOf x1.2 p2) fun x2 =>
  Jn (fun (x3 : Int32) =>
  some (x3, x1.2)
  ) fun J4 =>
  if (0 : Int32) ≤ x2 then (
  Option.bind (m_segmentOf x1.2 p2) fun x5 =>
  Gd (Ix x5 42) <|
  J4 (x1.2 27 (Int32.toNatClampNeg x5))
  ) else (
  J4 (0 : Int32)
  )
  )
set_option maxHeartbeats 4000000 in
set_option maxRecDepth 100000 in
theorem cM_turnLead (l : Launch) (g : Ge) (hi : injB wM.2 g) (σ : St) (p1 : Int32) (p2 : Int32) (x : Int32 × St) (h : m_turnLead σ p1 p2 = some x) : Ct l wM g yM_turnLead qM_turnLead 10 242 [.ref (g.1 0), .int p1, .int p2] σ (some (.int x.1), x.2) := by
  refine Ct.of (out := o_w) FM_turnLead rfl hi rfl h (fun z hz C => ?_)
  clear h
  subst hz
  unfold m_turnLead
  show Rt z qM_turnLead wM g o_w 0 [(0, .ref (g.1 0)), (1, .int p1), (2, .int p2)] [] σ _
  refine q_aload_n (pc' := 1) C 0 d_M_turnLead_0 rfl rfl ?_
  refine q_iload_n (pc' := 2) C 1 d_M_turnLead_1 rfl rfl ?_
  refine q_iload_n (pc' := 3) C 2 d_M_turnLead_2 rfl rfl ?_
  refine q_callVw (fr' := 9) (lo' := 220) (pc' := 6) C FM_isLegOf lmM_529 d_M_turnLead_3 0 jM_0 kM_0 cM0 [.int p1, .int p2] [] rfl rfl (Nat.le_of_ble_eq_true rfl) ⟨rfl, rfl⟩ (fun x h => cM_isLegOf _ g hi σ p1 p2 x h) rfl (fun x1 _ => ?_)
  refine q_if_ne (tgt := 13) (pc' := 9) C d_M_turnLead_6 rfl rfl ?_ ?_
  · refine q_aload_n (pc' := 14) C 0 d_M_turnLead_13 rfl rfl ?_
    refine q_iload_n (pc' := 15) C 2 d_M_turnLead_14 rfl rfl ?_
    refine q_callVr (fr' := 0) (lo' := 0) (pc' := 18) C FM_segmentOf lmM_532 d_M_turnLead_15 0 jM_0 kM_0 cM0 [.int p2] [] rfl rfl (Nat.le_of_ble_eq_true rfl) ⟨rfl, rfl⟩ (fun x h => cM_segmentOf _ g hi x1.2 p2 x h) rfl (fun x2 _ => ?_)
    refine q_join (fun J4 : Int32 → Option (Int32 × St) => ∀ (x3 : Int32), Rt z qM_turnLead wM g o_w 35 [] [.int x3] x1.2 (J4 x3)) (fun x3 => ?_) (fun J4 hJ4 => ?_)
    · exact q_iret C rfl d_M_turnLead_35 rfl
    refine q_if_ge (tgt := 25) (pc' := 21) C d_M_turnLead_18 rfl rfl ?_ ?_
    · refine q_aload_n (pc' := 26) C 0 d_M_turnLead_25 rfl rfl ?_
      refine gM_105 (pc' := 29) C d_M_turnLead_26 rfl rfl ?_
      refine q_aload_n (pc' := 30) C 0 d_M_turnLead_29 rfl rfl ?_
      refine q_iload_n (pc' := 31) C 2 d_M_turnLead_30 rfl rfl ?_
      refine q_callVr (fr' := 0) (lo' := 0) (pc' := 34) C FM_segmentOf lmM_532 d_M_turnLead_31 0 jM_0 kM_0 cM0 [.int p2] [.ref (g.1 27)] rfl rfl (Nat.le_of_ble_eq_true rfl) ⟨rfl, rfl⟩ (fun x h => cM_segmentOf _ g hi x1.2 p2 x h) rfl (fun x5 _ => ?_)
      refine q_iald (pc' := 35) C 27 jM_27 kM_27 d_M_turnLead_34 rfl ?_
      exact Rt.sub [] rfl (hJ4 (x1.2 27 (Int32.toNatClampNeg x5)))
    · refine q_iconst (pc' := 22) C d_M_turnLead_21 ki_0 rfl ?_
      refine q_goto (tgt := 35) C d_M_turnLead_22 rfl ?_
      exact Rt.sub [] rfl (hJ4 (0 : Int32))
  · refine q_ldcw (pc' := 12) C lcM_493 d_M_turnLead_9 rfl ?_
    exact q_iret C rfl d_M_turnLead_12 rfl
theorem d_M_holdEntry_0 : decode qM_holdEntry.1 0 = .ok (.aload_n 0, 1) := by decide +kernel
theorem d_M_holdEntry_1 : decode qM_holdEntry.1 1 = .ok (.iload_n 1, 1) := by decide +kernel
theorem d_M_holdEntry_2 : decode qM_holdEntry.1 2 = .ok (.iload_n 2, 1) := by decide +kernel
theorem d_M_holdEntry_3 : decode qM_holdEntry.1 3 = .ok (.invokevirtual 529, 3) := by decide +kernel
theorem d_M_holdEntry_6 : decode qM_holdEntry.1 6 = .ok (.ifCond .ne 7, 3) := by decide +kernel
theorem d_M_holdEntry_9 : decode qM_holdEntry.1 9 = .ok (.ldc_w 493, 3) := by decide +kernel
theorem d_M_holdEntry_12 : decode qM_holdEntry.1 12 = .ok (.ireturn, 1) := by decide +kernel
theorem d_M_holdEntry_13 : decode qM_holdEntry.1 13 = .ok (.aload_n 0, 1) := by decide +kernel
theorem d_M_holdEntry_14 : decode qM_holdEntry.1 14 = .ok (.aload_n 0, 1) := by decide +kernel
theorem d_M_holdEntry_15 : decode qM_holdEntry.1 15 = .ok (.iload_n 1, 1) := by decide +kernel
theorem d_M_holdEntry_16 : decode qM_holdEntry.1 16 = .ok (.invokevirtual 523, 3) := by decide +kernel
theorem d_M_holdEntry_19 : decode qM_holdEntry.1 19 = .ok (.iload_n 2, 1) := by decide +kernel
theorem d_M_holdEntry_20 : decode qM_holdEntry.1 20 = .ok (.iconst 0, 1) := by decide +kernel
theorem d_M_holdEntry_21 : decode qM_holdEntry.1 21 = .ok (.invokevirtual 168, 3) := by decide +kernel
theorem d_M_holdEntry_24 : decode qM_holdEntry.1 24 = .ok (.bipush 7, 2) := by decide +kernel
theorem d_M_holdEntry_26 : decode qM_holdEntry.1 26 = .ok (.if_icmp .ne 16, 3) := by decide +kernel
theorem d_M_holdEntry_29 : decode qM_holdEntry.1 29 = .ok (.aload_n 0, 1) := by decide +kernel
theorem d_M_holdEntry_30 : decode qM_holdEntry.1 30 = .ok (.aload_n 0, 1) := by decide +kernel
theorem d_M_holdEntry_31 : decode qM_holdEntry.1 31 = .ok (.iload_n 1, 1) := by decide +kernel
theorem d_M_holdEntry_32 : decode qM_holdEntry.1 32 = .ok (.invokevirtual 523, 3) := by decide +kernel
theorem d_M_holdEntry_35 : decode qM_holdEntry.1 35 = .ok (.iload_n 2, 1) := by decide +kernel
theorem d_M_holdEntry_36 : decode qM_holdEntry.1 36 = .ok (.invokevirtual 314, 3) := by decide +kernel
theorem d_M_holdEntry_39 : decode qM_holdEntry.1 39 = .ok (.goto 6, 3) := by decide +kernel
theorem d_M_holdEntry_42 : decode qM_holdEntry.1 42 = .ok (.ldc_w 453, 3) := by decide +kernel
theorem d_M_holdEntry_45 : decode qM_holdEntry.1 45 = .ok (.ireturn, 1) := by decide +kernel
set_option maxRecDepth 100000 in
def m_holdEntry (σ : St) (p1 : Int32) (p2 : Int32) : Option (Int32 × St) :=
  Option.bind (m_isLegOf σ p1 p2) fun x1 =>
  if (x1.1 : Int32) = 0 then (
  some ((-1000001 : Int32), x1.2)
  ) else (
  Option.bind (m_planOf p1) fun x2 =>
  Option.bind (m_of x1.2 x2 p2 (0 : Int32)) fun x3 =>
  Jn (fun (x4 : Int32) =>
  some (x4, x1.2)
  ) fun J5 =>
  if (x3 : Int32) = (7 : Int32) then (
  Option.bind (m_planOf p1) fun x6 =>
  Option.bind (m_entryOf x1.2 x6 p2) fun x7 =>
  J5 x7
  ) else (
  J5 (-1000000 : Int32)
  )
  )
set_option maxHeartbeats 4000000 in
set_option maxRecDepth 100000 in
theorem cM_holdEntry (l : Launch) (g : Ge) (hi : injB wM.2 g) (σ : St) (p1 : Int32) (p2 : Int32) (x : Int32 × St) (h : m_holdEntry σ p1 p2 = some x) : Ct l wM g yM_holdEntry qM_holdEntry 10 242 [.ref (g.1 0), .int p1, .int p2] σ (some (.int x.1), x.2) := by
  refine Ct.of (out := o_w) FM_holdEntry rfl hi rfl h (fun z hz C => ?_)
  clear h
  subst hz
  unfold m_holdEntry
  show Rt z qM_holdEntry wM g o_w 0 [(0, .ref (g.1 0)), (1, .int p1), (2, .int p2)] [] σ _
  refine q_aload_n (pc' := 1) C 0 d_M_holdEntry_0 rfl rfl ?_
  refine q_iload_n (pc' := 2) C 1 d_M_holdEntry_1 rfl rfl ?_
  refine q_iload_n (pc' := 3) C 2 d_M_holdEntry_2 rfl rfl ?_
  refine q_callVw (fr' := 9) (lo' := 220) (pc' := 6) C FM_isLegOf lmM_529 d_M_holdEntry_3 0 jM_0 kM_0 cM0 [.int p1, .int p2] [] rfl rfl (Nat.le_of_ble_eq_true rfl) ⟨rfl, rfl⟩ (fun x h => cM_isLegOf _ g hi σ p1 p2 x h) rfl (fun x1 _ => ?_)
  refine q_if_ne (tgt := 13) (pc' := 9) C d_M_holdEntry_6 rfl rfl ?_ ?_
  · refine q_aload_n (pc' := 14) C 0 d_M_holdEntry_13 rfl rfl ?_
    refine q_aload_n (pc' := 15) C 0 d_M_holdEntry_14 rfl rfl ?_
    refine q_iload_n (pc' := 16) C 1 d_M_holdEntry_15 rfl rfl ?_
    refine q_callVr (fr' := 0) (lo' := 0) (pc' := 19) C FM_planOf lmM_523 d_M_holdEntry_16 0 jM_0 kM_0 cM0 [.int p1] [.ref (g.1 0)] rfl rfl (Nat.le_of_ble_eq_true rfl) ⟨rfl, rfl⟩ (fun x h => cM_planOf _ g hi x1.2 p1 x h) rfl (fun x2 _ => ?_)
    refine q_iload_n (pc' := 20) C 2 d_M_holdEntry_19 rfl rfl ?_
    refine q_iconst (pc' := 21) C d_M_holdEntry_20 ki_0 rfl ?_
    refine q_callVr (fr' := 0) (lo' := 0) (pc' := 24) C FM_of lmM_168 d_M_holdEntry_21 0 jM_0 kM_0 cM0 [.int x2, .int p2, .int (0 : Int32)] [] rfl rfl (Nat.le_of_ble_eq_true rfl) ⟨rfl, rfl⟩ (fun x h => cM_of _ g hi x1.2 x2 p2 (0 : Int32) x h) rfl (fun x3 _ => ?_)
    refine q_bipush (pc' := 26) C d_M_holdEntry_24 kb_7 rfl ?_
    refine q_join (fun J5 : Int32 → Option (Int32 × St) => ∀ (x4 : Int32), Rt z qM_holdEntry wM g o_w 45 [] [.int x4] x1.2 (J5 x4)) (fun x4 => ?_) (fun J5 hJ5 => ?_)
    · exact q_iret C rfl d_M_holdEntry_45 rfl
    refine q_icmp_ne (tgt := 42) (pc' := 29) C d_M_holdEntry_26 rfl rfl ?_ ?_
    · refine q_ldcw (pc' := 45) C lcM_453 d_M_holdEntry_42 rfl ?_
      exact Rt.sub [] rfl (hJ5 (-1000000 : Int32))
    · refine q_aload_n (pc' := 30) C 0 d_M_holdEntry_29 rfl rfl ?_
      refine q_aload_n (pc' := 31) C 0 d_M_holdEntry_30 rfl rfl ?_
      refine q_iload_n (pc' := 32) C 1 d_M_holdEntry_31 rfl rfl ?_
      refine q_callVr (fr' := 0) (lo' := 0) (pc' := 35) C FM_planOf lmM_523 d_M_holdEntry_32 0 jM_0 kM_0 cM0 [.int p1] [.ref (g.1 0)] rfl rfl (Nat.le_of_ble_eq_true rfl) ⟨rfl, rfl⟩ (fun x h => cM_planOf _ g hi x1.2 p1 x h) rfl (fun x6 _ => ?_)
      refine q_iload_n (pc' := 36) C 2 d_M_holdEntry_35 rfl rfl ?_
      refine q_callVr (fr' := 2) (lo' := 43) (pc' := 39) C FM_entryOf lmM_314 d_M_holdEntry_36 0 jM_0 kM_0 cM0 [.int x6, .int p2] [] rfl rfl (Nat.le_of_ble_eq_true rfl) ⟨rfl, rfl⟩ (fun x h => cM_entryOf _ g hi x1.2 x6 p2 x h) rfl (fun x7 _ => ?_)
      refine q_goto (tgt := 45) C d_M_holdEntry_39 rfl ?_
      exact Rt.sub [] rfl (hJ5 x7)
  · refine q_ldcw (pc' := 12) C lcM_493 d_M_holdEntry_9 rfl ?_
    exact q_iret C rfl d_M_holdEntry_12 rfl
theorem d_M_entryFor_0 : decode qM_entryFor.1 0 = .ok (.iload_n 1, 1) := by decide +kernel
theorem d_M_entryFor_1 : decode qM_entryFor.1 1 = .ok (.i2l, 1) := by decide +kernel
theorem d_M_entryFor_2 : decode qM_entryFor.1 2 = .ok (.lconst 0, 1) := by decide +kernel
theorem d_M_entryFor_3 : decode qM_entryFor.1 3 = .ok (.ldc2_w 535, 3) := by decide +kernel
theorem d_M_entryFor_6 : decode qM_entryFor.1 6 = .ok (.invokestatic 232, 3) := by decide +kernel
theorem d_M_entryFor_9 : decode qM_entryFor.1 9 = .ok (.ifCond .eq 24, 3) := by decide +kernel
theorem d_M_entryFor_12 : decode qM_entryFor.1 12 = .ok (.iload_n 2, 1) := by decide +kernel
theorem d_M_entryFor_13 : decode qM_entryFor.1 13 = .ok (.i2l, 1) := by decide +kernel
theorem d_M_entryFor_14 : decode qM_entryFor.1 14 = .ok (.lconst 0, 1) := by decide +kernel
theorem d_M_entryFor_15 : decode qM_entryFor.1 15 = .ok (.ldc2_w 535, 3) := by decide +kernel
theorem d_M_entryFor_18 : decode qM_entryFor.1 18 = .ok (.invokestatic 232, 3) := by decide +kernel
theorem d_M_entryFor_21 : decode qM_entryFor.1 21 = .ok (.ifCond .eq 12, 3) := by decide +kernel
theorem d_M_entryFor_24 : decode qM_entryFor.1 24 = .ok (.iload_n 1, 1) := by decide +kernel
theorem d_M_entryFor_25 : decode qM_entryFor.1 25 = .ok (.iload_n 2, 1) := by decide +kernel
theorem d_M_entryFor_26 : decode qM_entryFor.1 26 = .ok (.iload_n 3, 1) := by decide +kernel
theorem d_M_entryFor_27 : decode qM_entryFor.1 27 = .ok (.invokestatic 310, 3) := by decide +kernel
theorem d_M_entryFor_30 : decode qM_entryFor.1 30 = .ok (.goto 6, 3) := by decide +kernel
theorem d_M_entryFor_33 : decode qM_entryFor.1 33 = .ok (.ldc_w 376, 3) := by decide +kernel
theorem d_M_entryFor_36 : decode qM_entryFor.1 36 = .ok (.ireturn, 1) := by decide +kernel
set_option maxRecDepth 100000 in
def m_entryFor (p1 : Int32) (p2 : Int32) (p3 : Int32) : Option (Int32) :=
  Option.bind (m_in (Int32.toInt64 p1) (0 : Int64) (23 : Int64)) fun x1 =>
  Jn (fun (x2 : Int32) =>
  some x2
  ) fun J3 =>
  Jn (fun (_ : Unit) =>
  J3 (-1000002 : Int32)
  ) fun J4 =>
  if (x1 : Int32) = 0 then (
  J4 ()
  ) else (
  Option.bind (m_in (Int32.toInt64 p2) (0 : Int64) (23 : Int64)) fun x5 =>
  if (x5 : Int32) = 0 then (
  J4 ()
  ) else (
  Option.bind (m_entry p1 p2 p3) fun x6 =>
  J3 x6
  )
  )
set_option maxHeartbeats 4000000 in
set_option maxRecDepth 100000 in
theorem cM_entryFor (l : Launch) (g : Ge) (hi : injB wM.2 g) (σ : St) (p1 : Int32) (p2 : Int32) (p3 : Int32) (x : Int32) (h : m_entryFor p1 p2 p3 = some x) : Ct l wM g yM_entryFor qM_entryFor 2 43 [.ref (g.1 0), .int p1, .int p2, .int p3] σ (some (.int x), σ) := by
  refine Ct.of (out := (o_r σ)) FM_entryFor rfl hi rfl h (fun z hz C => ?_)
  clear h
  subst hz
  unfold m_entryFor
  show Rt z qM_entryFor wM g (o_r σ) 0 [(0, .ref (g.1 0)), (1, .int p1), (2, .int p2), (3, .int p3)] [] σ _
  refine q_iload_n (pc' := 1) C 1 d_M_entryFor_0 rfl rfl ?_
  refine q_i2l (pc' := 2) C d_M_entryFor_1 rfl ?_
  refine q_lconst (pc' := 3) C d_M_entryFor_2 kl_0 rfl ?_
  refine q_ldc2 (pc' := 6) C lLM_535 d_M_entryFor_3 rfl ?_
  refine q_callSr (fr' := 0) (lo' := 0) (pc' := 9) C FM_in lmM_232 d_M_entryFor_6 [.long (Int32.toInt64 p1), .long (0 : Int64), .long (23 : Int64)] [] rfl rfl (Nat.le_of_ble_eq_true rfl) ⟨rfl, rfl⟩ (fun x h => cM_in _ g hi σ (Int32.toInt64 p1) (0 : Int64) (23 : Int64) x h) rfl (fun x1 _ => ?_)
  refine q_join (fun J3 : Int32 → Option (Int32) => ∀ (x2 : Int32), Rt z qM_entryFor wM g (o_r σ) 36 [] [.int x2] σ (J3 x2)) (fun x2 => ?_) (fun J3 hJ3 => ?_)
  · exact q_iret C rfl d_M_entryFor_36 rfl
  refine q_join (fun J4 : Unit → Option (Int32) => ∀ (_ : Unit), Rt z qM_entryFor wM g (o_r σ) 33 [] [] σ (J4 ())) (fun _ => ?_) (fun J4 hJ4 => ?_)
  · refine q_ldcw (pc' := 36) C lcM_376 d_M_entryFor_33 rfl ?_
    exact Rt.sub [] rfl (hJ3 (-1000002 : Int32))
  refine q_if_eq (tgt := 33) (pc' := 12) C d_M_entryFor_9 rfl rfl ?_ ?_
  · exact Rt.sub [] rfl (hJ4 ())
  · refine q_iload_n (pc' := 13) C 2 d_M_entryFor_12 rfl rfl ?_
    refine q_i2l (pc' := 14) C d_M_entryFor_13 rfl ?_
    refine q_lconst (pc' := 15) C d_M_entryFor_14 kl_0 rfl ?_
    refine q_ldc2 (pc' := 18) C lLM_535 d_M_entryFor_15 rfl ?_
    refine q_callSr (fr' := 0) (lo' := 0) (pc' := 21) C FM_in lmM_232 d_M_entryFor_18 [.long (Int32.toInt64 p2), .long (0 : Int64), .long (23 : Int64)] [] rfl rfl (Nat.le_of_ble_eq_true rfl) ⟨rfl, rfl⟩ (fun x h => cM_in _ g hi σ (Int32.toInt64 p2) (0 : Int64) (23 : Int64) x h) rfl (fun x5 _ => ?_)
    refine q_if_eq (tgt := 33) (pc' := 24) C d_M_entryFor_21 rfl rfl ?_ ?_
    · exact Rt.sub [] rfl (hJ4 ())
    · refine q_iload_n (pc' := 25) C 1 d_M_entryFor_24 rfl rfl ?_
      refine q_iload_n (pc' := 26) C 2 d_M_entryFor_25 rfl rfl ?_
      refine q_iload_n (pc' := 27) C 3 d_M_entryFor_26 rfl rfl ?_
      refine q_callSr (fr' := 1) (lo' := 20) (pc' := 30) C FM_entry lmM_310 d_M_entryFor_27 [.int p1, .int p2, .int p3] [] rfl rfl (Nat.le_of_ble_eq_true rfl) ⟨rfl, rfl⟩ (fun x h => cM_entry _ g hi σ p1 p2 p3 x h) rfl (fun x6 _ => ?_)
      refine q_goto (tgt := 36) C d_M_entryFor_30 rfl ?_
      exact Rt.sub [] rfl (hJ3 x6)
theorem d_M_pieceCount_0 : decode qM_pieceCount.1 0 = .ok (.aload_n 0, 1) := by decide +kernel
theorem d_M_pieceCount_1 : decode qM_pieceCount.1 1 = .ok (.iload_n 1, 1) := by decide +kernel
theorem d_M_pieceCount_2 : decode qM_pieceCount.1 2 = .ok (.invokevirtual 526, 3) := by decide +kernel
theorem d_M_pieceCount_5 : decode qM_pieceCount.1 5 = .ok (.ifCond .eq 10, 3) := by decide +kernel
theorem d_M_pieceCount_8 : decode qM_pieceCount.1 8 = .ok (.aload_n 0, 1) := by decide +kernel
theorem d_M_pieceCount_9 : decode qM_pieceCount.1 9 = .ok (.getfield 289, 3) := by decide +kernel
theorem d_M_pieceCount_12 : decode qM_pieceCount.1 12 = .ok (.goto 6, 3) := by decide +kernel
theorem d_M_pieceCount_15 : decode qM_pieceCount.1 15 = .ok (.ldc_w 493, 3) := by decide +kernel
theorem d_M_pieceCount_18 : decode qM_pieceCount.1 18 = .ok (.ireturn, 1) := by decide +kernel
set_option maxRecDepth 100000 in
def m_pieceCount (σ : St) (p1 : Int32) : Option (Int32 × St) :=
  Option.bind (m_isPlan σ p1) fun x1 =>
  Jn (fun (x2 : Int32) =>
  some (x2, x1.2)
  ) fun J3 =>
  if (x1.1 : Int32) = 0 then (
  J3 (-1000001 : Int32)
  ) else (
  J3 (x1.2 0 57)
  )
set_option maxHeartbeats 4000000 in
set_option maxRecDepth 100000 in
theorem cM_pieceCount (l : Launch) (g : Ge) (hi : injB wM.2 g) (σ : St) (p1 : Int32) (x : Int32 × St) (h : m_pieceCount σ p1 = some x) : Ct l wM g yM_pieceCount qM_pieceCount 9 220 [.ref (g.1 0), .int p1] σ (some (.int x.1), x.2) := by
  refine Ct.of (out := o_w) FM_pieceCount rfl hi rfl h (fun z hz C => ?_)
  clear h
  subst hz
  unfold m_pieceCount
  show Rt z qM_pieceCount wM g o_w 0 [(0, .ref (g.1 0)), (1, .int p1)] [] σ _
  refine q_aload_n (pc' := 1) C 0 d_M_pieceCount_0 rfl rfl ?_
  refine q_iload_n (pc' := 2) C 1 d_M_pieceCount_1 rfl rfl ?_
  refine q_callVw (fr' := 8) (lo' := 199) (pc' := 5) C FM_isPlan lmM_526 d_M_pieceCount_2 0 jM_0 kM_0 cM0 [.int p1] [] rfl rfl (Nat.le_of_ble_eq_true rfl) ⟨rfl, rfl⟩ (fun x h => cM_isPlan _ g hi σ p1 x h) rfl (fun x1 _ => ?_)
  refine q_join (fun J3 : Int32 → Option (Int32 × St) => ∀ (x2 : Int32), Rt z qM_pieceCount wM g o_w 18 [] [.int x2] x1.2 (J3 x2)) (fun x2 => ?_) (fun J3 hJ3 => ?_)
  · exact q_iret C rfl d_M_pieceCount_18 rfl
  refine q_if_eq (tgt := 15) (pc' := 8) C d_M_pieceCount_5 rfl rfl ?_ ?_
  · refine q_ldcw (pc' := 18) C lcM_493 d_M_pieceCount_15 rfl ?_
    exact Rt.sub [] rfl (hJ3 (-1000001 : Int32))
  · refine q_aload_n (pc' := 9) C 0 d_M_pieceCount_8 rfl rfl ?_
    refine gM_289 (pc' := 12) C d_M_pieceCount_9 rfl rfl ?_
    refine q_goto (tgt := 18) C d_M_pieceCount_12 rfl ?_
    exact Rt.sub [] rfl (hJ3 (x1.2 0 57))
theorem d_M_pieceLeg_0 : decode qM_pieceLeg.1 0 = .ok (.aload_n 0, 1) := by decide +kernel
theorem d_M_pieceLeg_1 : decode qM_pieceLeg.1 1 = .ok (.iload_n 1, 1) := by decide +kernel
theorem d_M_pieceLeg_2 : decode qM_pieceLeg.1 2 = .ok (.iload_n 2, 1) := by decide +kernel
theorem d_M_pieceLeg_3 : decode qM_pieceLeg.1 3 = .ok (.invokevirtual 537, 3) := by decide +kernel
theorem d_M_pieceLeg_6 : decode qM_pieceLeg.1 6 = .ok (.ifCond .eq 12, 3) := by decide +kernel
theorem d_M_pieceLeg_9 : decode qM_pieceLeg.1 9 = .ok (.aload_n 0, 1) := by decide +kernel
theorem d_M_pieceLeg_10 : decode qM_pieceLeg.1 10 = .ok (.getfield 111, 3) := by decide +kernel
theorem d_M_pieceLeg_13 : decode qM_pieceLeg.1 13 = .ok (.iload_n 2, 1) := by decide +kernel
theorem d_M_pieceLeg_14 : decode qM_pieceLeg.1 14 = .ok (.iaload, 1) := by decide +kernel
theorem d_M_pieceLeg_15 : decode qM_pieceLeg.1 15 = .ok (.goto 6, 3) := by decide +kernel
theorem d_M_pieceLeg_18 : decode qM_pieceLeg.1 18 = .ok (.ldc_w 493, 3) := by decide +kernel
theorem d_M_pieceLeg_21 : decode qM_pieceLeg.1 21 = .ok (.ireturn, 1) := by decide +kernel
set_option maxRecDepth 100000 in
def m_pieceLeg (σ : St) (p1 : Int32) (p2 : Int32) : Option (Int32 × St) :=
  Option.bind (m_isPieceOf σ p1 p2) fun x1 =>
  Jn (fun (x2 : Int32) =>
  some (x2, x1.2)
  ) fun J3 =>
  if (x1.1 : Int32) = 0 then (
  J3 (-1000001 : Int32)
  ) else (
  Gd (Ix p2 180) <|
  J3 (x1.2 29 (Int32.toNatClampNeg p2))
  )
set_option maxHeartbeats 4000000 in
set_option maxRecDepth 100000 in
theorem cM_pieceLeg (l : Launch) (g : Ge) (hi : injB wM.2 g) (σ : St) (p1 : Int32) (p2 : Int32) (x : Int32 × St) (h : m_pieceLeg σ p1 p2 = some x) : Ct l wM g yM_pieceLeg qM_pieceLeg 10 242 [.ref (g.1 0), .int p1, .int p2] σ (some (.int x.1), x.2) := by
  refine Ct.of (out := o_w) FM_pieceLeg rfl hi rfl h (fun z hz C => ?_)
  clear h
  subst hz
  unfold m_pieceLeg
  show Rt z qM_pieceLeg wM g o_w 0 [(0, .ref (g.1 0)), (1, .int p1), (2, .int p2)] [] σ _
  refine q_aload_n (pc' := 1) C 0 d_M_pieceLeg_0 rfl rfl ?_
  refine q_iload_n (pc' := 2) C 1 d_M_pieceLeg_1 rfl rfl ?_
  refine q_iload_n (pc' := 3) C 2 d_M_pieceLeg_2 rfl rfl ?_
  refine q_callVw (fr' := 9) (lo' := 220) (pc' := 6) C FM_isPieceOf lmM_537 d_M_pieceLeg_3 0 jM_0 kM_0 cM0 [.int p1, .int p2] [] rfl rfl (Nat.le_of_ble_eq_true rfl) ⟨rfl, rfl⟩ (fun x h => cM_isPieceOf _ g hi σ p1 p2 x h) rfl (fun x1 _ => ?_)
  refine q_join (fun J3 : Int32 → Option (Int32 × St) => ∀ (x2 : Int32), Rt z qM_pieceLeg wM g o_w 21 [] [.int x2] x1.2 (J3 x2)) (fun x2 => ?_) (fun J3 hJ3 => ?_)
  · exact q_iret C rfl d_M_pieceLeg_21 rfl
  refine q_if_eq (tgt := 18) (pc' := 9) C d_M_pieceLeg_6 rfl rfl ?_ ?_
  · refine q_ldcw (pc' := 21) C lcM_493 d_M_pieceLeg_18 rfl ?_
    exact Rt.sub [] rfl (hJ3 (-1000001 : Int32))
  · refine q_aload_n (pc' := 10) C 0 d_M_pieceLeg_9 rfl rfl ?_
    refine gM_111 (pc' := 13) C d_M_pieceLeg_10 rfl rfl ?_
    refine q_iload_n (pc' := 14) C 2 d_M_pieceLeg_13 rfl rfl ?_
    refine q_iald (pc' := 15) C 29 jM_29 kM_29 d_M_pieceLeg_14 rfl ?_
    refine q_goto (tgt := 21) C d_M_pieceLeg_15 rfl ?_
    exact Rt.sub [] rfl (hJ3 (x1.2 29 (Int32.toNatClampNeg p2)))
theorem d_M_pieceKind_0 : decode qM_pieceKind.1 0 = .ok (.aload_n 0, 1) := by decide +kernel
theorem d_M_pieceKind_1 : decode qM_pieceKind.1 1 = .ok (.iload_n 1, 1) := by decide +kernel
theorem d_M_pieceKind_2 : decode qM_pieceKind.1 2 = .ok (.iload_n 2, 1) := by decide +kernel
theorem d_M_pieceKind_3 : decode qM_pieceKind.1 3 = .ok (.invokevirtual 537, 3) := by decide +kernel
theorem d_M_pieceKind_6 : decode qM_pieceKind.1 6 = .ok (.ifCond .eq 12, 3) := by decide +kernel
theorem d_M_pieceKind_9 : decode qM_pieceKind.1 9 = .ok (.aload_n 0, 1) := by decide +kernel
theorem d_M_pieceKind_10 : decode qM_pieceKind.1 10 = .ok (.getfield 114, 3) := by decide +kernel
theorem d_M_pieceKind_13 : decode qM_pieceKind.1 13 = .ok (.iload_n 2, 1) := by decide +kernel
theorem d_M_pieceKind_14 : decode qM_pieceKind.1 14 = .ok (.iaload, 1) := by decide +kernel
theorem d_M_pieceKind_15 : decode qM_pieceKind.1 15 = .ok (.goto 6, 3) := by decide +kernel
theorem d_M_pieceKind_18 : decode qM_pieceKind.1 18 = .ok (.ldc_w 493, 3) := by decide +kernel
theorem d_M_pieceKind_21 : decode qM_pieceKind.1 21 = .ok (.ireturn, 1) := by decide +kernel
set_option maxRecDepth 100000 in
def m_pieceKind (σ : St) (p1 : Int32) (p2 : Int32) : Option (Int32 × St) :=
  Option.bind (m_isPieceOf σ p1 p2) fun x1 =>
  Jn (fun (x2 : Int32) =>
  some (x2, x1.2)
  ) fun J3 =>
  if (x1.1 : Int32) = 0 then (
  J3 (-1000001 : Int32)
  ) else (
  Gd (Ix p2 180) <|
  J3 (x1.2 30 (Int32.toNatClampNeg p2))
  )
set_option maxHeartbeats 4000000 in
set_option maxRecDepth 100000 in
theorem cM_pieceKind (l : Launch) (g : Ge) (hi : injB wM.2 g) (σ : St) (p1 : Int32) (p2 : Int32) (x : Int32 × St) (h : m_pieceKind σ p1 p2 = some x) : Ct l wM g yM_pieceKind qM_pieceKind 10 242 [.ref (g.1 0), .int p1, .int p2] σ (some (.int x.1), x.2) := by
  refine Ct.of (out := o_w) FM_pieceKind rfl hi rfl h (fun z hz C => ?_)
  clear h
  subst hz
  unfold m_pieceKind
  show Rt z qM_pieceKind wM g o_w 0 [(0, .ref (g.1 0)), (1, .int p1), (2, .int p2)] [] σ _
  refine q_aload_n (pc' := 1) C 0 d_M_pieceKind_0 rfl rfl ?_
  refine q_iload_n (pc' := 2) C 1 d_M_pieceKind_1 rfl rfl ?_
  refine q_iload_n (pc' := 3) C 2 d_M_pieceKind_2 rfl rfl ?_
  refine q_callVw (fr' := 9) (lo' := 220) (pc' := 6) C FM_isPieceOf lmM_537 d_M_pieceKind_3 0 jM_0 kM_0 cM0 [.int p1, .int p2] [] rfl rfl (Nat.le_of_ble_eq_true rfl) ⟨rfl, rfl⟩ (fun x h => cM_isPieceOf _ g hi σ p1 p2 x h) rfl (fun x1 _ => ?_)
  refine q_join (fun J3 : Int32 → Option (Int32 × St) => ∀ (x2 : Int32), Rt z qM_pieceKind wM g o_w 21 [] [.int x2] x1.2 (J3 x2)) (fun x2 => ?_) (fun J3 hJ3 => ?_)
  · exact q_iret C rfl d_M_pieceKind_21 rfl
  refine q_if_eq (tgt := 18) (pc' := 9) C d_M_pieceKind_6 rfl rfl ?_ ?_
  · refine q_ldcw (pc' := 21) C lcM_493 d_M_pieceKind_18 rfl ?_
    exact Rt.sub [] rfl (hJ3 (-1000001 : Int32))
  · refine q_aload_n (pc' := 10) C 0 d_M_pieceKind_9 rfl rfl ?_
    refine gM_114 (pc' := 13) C d_M_pieceKind_10 rfl rfl ?_
    refine q_iload_n (pc' := 14) C 2 d_M_pieceKind_13 rfl rfl ?_
    refine q_iald (pc' := 15) C 30 jM_30 kM_30 d_M_pieceKind_14 rfl ?_
    refine q_goto (tgt := 21) C d_M_pieceKind_15 rfl ?_
    exact Rt.sub [] rfl (hJ3 (x1.2 30 (Int32.toNatClampNeg p2)))
theorem d_M_pieceLength_0 : decode qM_pieceLength.1 0 = .ok (.aload_n 0, 1) := by decide +kernel
theorem d_M_pieceLength_1 : decode qM_pieceLength.1 1 = .ok (.iload_n 1, 1) := by decide +kernel
theorem d_M_pieceLength_2 : decode qM_pieceLength.1 2 = .ok (.iload_n 2, 1) := by decide +kernel
theorem d_M_pieceLength_3 : decode qM_pieceLength.1 3 = .ok (.invokevirtual 537, 3) := by decide +kernel
theorem d_M_pieceLength_6 : decode qM_pieceLength.1 6 = .ok (.ifCond .eq 12, 3) := by decide +kernel
theorem d_M_pieceLength_9 : decode qM_pieceLength.1 9 = .ok (.aload_n 0, 1) := by decide +kernel
theorem d_M_pieceLength_10 : decode qM_pieceLength.1 10 = .ok (.getfield 117, 3) := by decide +kernel
theorem d_M_pieceLength_13 : decode qM_pieceLength.1 13 = .ok (.iload_n 2, 1) := by decide +kernel
theorem d_M_pieceLength_14 : decode qM_pieceLength.1 14 = .ok (.iaload, 1) := by decide +kernel
theorem d_M_pieceLength_15 : decode qM_pieceLength.1 15 = .ok (.goto 6, 3) := by decide +kernel
theorem d_M_pieceLength_18 : decode qM_pieceLength.1 18 = .ok (.ldc_w 493, 3) := by decide +kernel
theorem d_M_pieceLength_21 : decode qM_pieceLength.1 21 = .ok (.ireturn, 1) := by decide +kernel
set_option maxRecDepth 100000 in
def m_pieceLength (σ : St) (p1 : Int32) (p2 : Int32) : Option (Int32 × St) :=
  Option.bind (m_isPieceOf σ p1 p2) fun x1 =>
  Jn (fun (x2 : Int32) =>
  some (x2, x1.2)
  ) fun J3 =>
  if (x1.1 : Int32) = 0 then (
  J3 (-1000001 : Int32)
  ) else (
  Gd (Ix p2 180) <|
  J3 (x1.2 31 (Int32.toNatClampNeg p2))
  )
set_option maxHeartbeats 4000000 in
set_option maxRecDepth 100000 in
theorem cM_pieceLength (l : Launch) (g : Ge) (hi : injB wM.2 g) (σ : St) (p1 : Int32) (p2 : Int32) (x : Int32 × St) (h : m_pieceLength σ p1 p2 = some x) : Ct l wM g yM_pieceLength qM_pieceLength 10 242 [.ref (g.1 0), .int p1, .int p2] σ (some (.int x.1), x.2) := by
  refine Ct.of (out := o_w) FM_pieceLength rfl hi rfl h (fun z hz C => ?_)
  clear h
  subst hz
  unfold m_pieceLength
  show Rt z qM_pieceLength wM g o_w 0 [(0, .ref (g.1 0)), (1, .int p1), (2, .int p2)] [] σ _
  refine q_aload_n (pc' := 1) C 0 d_M_pieceLength_0 rfl rfl ?_
  refine q_iload_n (pc' := 2) C 1 d_M_pieceLength_1 rfl rfl ?_
  refine q_iload_n (pc' := 3) C 2 d_M_pieceLength_2 rfl rfl ?_
  refine q_callVw (fr' := 9) (lo' := 220) (pc' := 6) C FM_isPieceOf lmM_537 d_M_pieceLength_3 0 jM_0 kM_0 cM0 [.int p1, .int p2] [] rfl rfl (Nat.le_of_ble_eq_true rfl) ⟨rfl, rfl⟩ (fun x h => cM_isPieceOf _ g hi σ p1 p2 x h) rfl (fun x1 _ => ?_)
  refine q_join (fun J3 : Int32 → Option (Int32 × St) => ∀ (x2 : Int32), Rt z qM_pieceLength wM g o_w 21 [] [.int x2] x1.2 (J3 x2)) (fun x2 => ?_) (fun J3 hJ3 => ?_)
  · exact q_iret C rfl d_M_pieceLength_21 rfl
  refine q_if_eq (tgt := 18) (pc' := 9) C d_M_pieceLength_6 rfl rfl ?_ ?_
  · refine q_ldcw (pc' := 21) C lcM_493 d_M_pieceLength_18 rfl ?_
    exact Rt.sub [] rfl (hJ3 (-1000001 : Int32))
  · refine q_aload_n (pc' := 10) C 0 d_M_pieceLength_9 rfl rfl ?_
    refine gM_117 (pc' := 13) C d_M_pieceLength_10 rfl rfl ?_
    refine q_iload_n (pc' := 14) C 2 d_M_pieceLength_13 rfl rfl ?_
    refine q_iald (pc' := 15) C 31 jM_31 kM_31 d_M_pieceLength_14 rfl ?_
    refine q_goto (tgt := 21) C d_M_pieceLength_15 rfl ?_
    exact Rt.sub [] rfl (hJ3 (x1.2 31 (Int32.toNatClampNeg p2)))
theorem d_M_pieceCourse_0 : decode qM_pieceCourse.1 0 = .ok (.aload_n 0, 1) := by decide +kernel
theorem d_M_pieceCourse_1 : decode qM_pieceCourse.1 1 = .ok (.iload_n 1, 1) := by decide +kernel
theorem d_M_pieceCourse_2 : decode qM_pieceCourse.1 2 = .ok (.iload_n 2, 1) := by decide +kernel
theorem d_M_pieceCourse_3 : decode qM_pieceCourse.1 3 = .ok (.invokevirtual 537, 3) := by decide +kernel
theorem d_M_pieceCourse_6 : decode qM_pieceCourse.1 6 = .ok (.ifCond .eq 12, 3) := by decide +kernel
theorem d_M_pieceCourse_9 : decode qM_pieceCourse.1 9 = .ok (.aload_n 0, 1) := by decide +kernel
theorem d_M_pieceCourse_10 : decode qM_pieceCourse.1 10 = .ok (.getfield 120, 3) := by decide +kernel
theorem d_M_pieceCourse_13 : decode qM_pieceCourse.1 13 = .ok (.iload_n 2, 1) := by decide +kernel
theorem d_M_pieceCourse_14 : decode qM_pieceCourse.1 14 = .ok (.iaload, 1) := by decide +kernel
theorem d_M_pieceCourse_15 : decode qM_pieceCourse.1 15 = .ok (.goto 6, 3) := by decide +kernel
theorem d_M_pieceCourse_18 : decode qM_pieceCourse.1 18 = .ok (.ldc_w 493, 3) := by decide +kernel
theorem d_M_pieceCourse_21 : decode qM_pieceCourse.1 21 = .ok (.ireturn, 1) := by decide +kernel
set_option maxRecDepth 100000 in
def m_pieceCourse (σ : St) (p1 : Int32) (p2 : Int32) : Option (Int32 × St) :=
  Option.bind (m_isPieceOf σ p1 p2) fun x1 =>
  Jn (fun (x2 : Int32) =>
  some (x2, x1.2)
  ) fun J3 =>
  if (x1.1 : Int32) = 0 then (
  J3 (-1000001 : Int32)
  ) else (
  Gd (Ix p2 180) <|
  J3 (x1.2 32 (Int32.toNatClampNeg p2))
  )
set_option maxHeartbeats 4000000 in
set_option maxRecDepth 100000 in
theorem cM_pieceCourse (l : Launch) (g : Ge) (hi : injB wM.2 g) (σ : St) (p1 : Int32) (p2 : Int32) (x : Int32 × St) (h : m_pieceCourse σ p1 p2 = some x) : Ct l wM g yM_pieceCourse qM_pieceCourse 10 242 [.ref (g.1 0), .int p1, .int p2] σ (some (.int x.1), x.2) := by
  refine Ct.of (out := o_w) FM_pieceCourse rfl hi rfl h (fun z hz C => ?_)
  clear h
  subst hz
  unfold m_pieceCourse
  show Rt z qM_pieceCourse wM g o_w 0 [(0, .ref (g.1 0)), (1, .int p1), (2, .int p2)] [] σ _
  refine q_aload_n (pc' := 1) C 0 d_M_pieceCourse_0 rfl rfl ?_
  refine q_iload_n (pc' := 2) C 1 d_M_pieceCourse_1 rfl rfl ?_
  refine q_iload_n (pc' := 3) C 2 d_M_pieceCourse_2 rfl rfl ?_
  refine q_callVw (fr' := 9) (lo' := 220) (pc' := 6) C FM_isPieceOf lmM_537 d_M_pieceCourse_3 0 jM_0 kM_0 cM0 [.int p1, .int p2] [] rfl rfl (Nat.le_of_ble_eq_true rfl) ⟨rfl, rfl⟩ (fun x h => cM_isPieceOf _ g hi σ p1 p2 x h) rfl (fun x1 _ => ?_)
  refine q_join (fun J3 : Int32 → Option (Int32 × St) => ∀ (x2 : Int32), Rt z qM_pieceCourse wM g o_w 21 [] [.int x2] x1.2 (J3 x2)) (fun x2 => ?_) (fun J3 hJ3 => ?_)
  · exact q_iret C rfl d_M_pieceCourse_21 rfl
  refine q_if_eq (tgt := 18) (pc' := 9) C d_M_pieceCourse_6 rfl rfl ?_ ?_
  · refine q_ldcw (pc' := 21) C lcM_493 d_M_pieceCourse_18 rfl ?_
    exact Rt.sub [] rfl (hJ3 (-1000001 : Int32))
  · refine q_aload_n (pc' := 10) C 0 d_M_pieceCourse_9 rfl rfl ?_
    refine gM_120 (pc' := 13) C d_M_pieceCourse_10 rfl rfl ?_
    refine q_iload_n (pc' := 14) C 2 d_M_pieceCourse_13 rfl rfl ?_
    refine q_iald (pc' := 15) C 32 jM_32 kM_32 d_M_pieceCourse_14 rfl ?_
    refine q_goto (tgt := 21) C d_M_pieceCourse_15 rfl ?_
    exact Rt.sub [] rfl (hJ3 (x1.2 32 (Int32.toNatClampNeg p2)))
theorem d_M_pieceX_0 : decode qM_pieceX.1 0 = .ok (.aload_n 0, 1) := by decide +kernel
theorem d_M_pieceX_1 : decode qM_pieceX.1 1 = .ok (.iload_n 1, 1) := by decide +kernel
theorem d_M_pieceX_2 : decode qM_pieceX.1 2 = .ok (.iload_n 2, 1) := by decide +kernel
theorem d_M_pieceX_3 : decode qM_pieceX.1 3 = .ok (.invokevirtual 537, 3) := by decide +kernel
theorem d_M_pieceX_6 : decode qM_pieceX.1 6 = .ok (.ifCond .eq 12, 3) := by decide +kernel
theorem d_M_pieceX_9 : decode qM_pieceX.1 9 = .ok (.aload_n 0, 1) := by decide +kernel
theorem d_M_pieceX_10 : decode qM_pieceX.1 10 = .ok (.getfield 129, 3) := by decide +kernel
theorem d_M_pieceX_13 : decode qM_pieceX.1 13 = .ok (.iload_n 2, 1) := by decide +kernel
theorem d_M_pieceX_14 : decode qM_pieceX.1 14 = .ok (.iaload, 1) := by decide +kernel
theorem d_M_pieceX_15 : decode qM_pieceX.1 15 = .ok (.goto 6, 3) := by decide +kernel
theorem d_M_pieceX_18 : decode qM_pieceX.1 18 = .ok (.ldc_w 493, 3) := by decide +kernel
theorem d_M_pieceX_21 : decode qM_pieceX.1 21 = .ok (.ireturn, 1) := by decide +kernel
set_option maxRecDepth 100000 in
def m_pieceX (σ : St) (p1 : Int32) (p2 : Int32) : Option (Int32 × St) :=
  Option.bind (m_isPieceOf σ p1 p2) fun x1 =>
  Jn (fun (x2 : Int32) =>
  some (x2, x1.2)
  ) fun J3 =>
  if (x1.1 : Int32) = 0 then (
  J3 (-1000001 : Int32)
  ) else (
  Gd (Ix p2 180) <|
  J3 (x1.2 35 (Int32.toNatClampNeg p2))
  )
set_option maxHeartbeats 4000000 in
set_option maxRecDepth 100000 in
theorem cM_pieceX (l : Launch) (g : Ge) (hi : injB wM.2 g) (σ : St) (p1 : Int32) (p2 : Int32) (x : Int32 × St) (h : m_pieceX σ p1 p2 = some x) : Ct l wM g yM_pieceX qM_pieceX 10 242 [.ref (g.1 0), .int p1, .int p2] σ (some (.int x.1), x.2) := by
  refine Ct.of (out := o_w) FM_pieceX rfl hi rfl h (fun z hz C => ?_)
  clear h
  subst hz
  unfold m_pieceX
  show Rt z qM_pieceX wM g o_w 0 [(0, .ref (g.1 0)), (1, .int p1), (2, .int p2)] [] σ _
  refine q_aload_n (pc' := 1) C 0 d_M_pieceX_0 rfl rfl ?_
  refine q_iload_n (pc' := 2) C 1 d_M_pieceX_1 rfl rfl ?_
  refine q_iload_n (pc' := 3) C 2 d_M_pieceX_2 rfl rfl ?_
  refine q_callVw (fr' := 9) (lo' := 220) (pc' := 6) C FM_isPieceOf lmM_537 d_M_pieceX_3 0 jM_0 kM_0 cM0 [.int p1, .int p2] [] rfl rfl (Nat.le_of_ble_eq_true rfl) ⟨rfl, rfl⟩ (fun x h => cM_isPieceOf _ g hi σ p1 p2 x h) rfl (fun x1 _ => ?_)
  refine q_join (fun J3 : Int32 → Option (Int32 × St) => ∀ (x2 : Int32), Rt z qM_pieceX wM g o_w 21 [] [.int x2] x1.2 (J3 x2)) (fun x2 => ?_) (fun J3 hJ3 => ?_)
  · exact q_iret C rfl d_M_pieceX_21 rfl
  refine q_if_eq (tgt := 18) (pc' := 9) C d_M_pieceX_6 rfl rfl ?_ ?_
  · refine q_ldcw (pc' := 21) C lcM_493 d_M_pieceX_18 rfl ?_
    exact Rt.sub [] rfl (hJ3 (-1000001 : Int32))
  · refine q_aload_n (pc' := 10) C 0 d_M_pieceX_9 rfl rfl ?_
    refine gM_129 (pc' := 13) C d_M_pieceX_10 rfl rfl ?_
    refine q_iload_n (pc' := 14) C 2 d_M_pieceX_13 rfl rfl ?_
    refine q_iald (pc' := 15) C 35 jM_35 kM_35 d_M_pieceX_14 rfl ?_
    refine q_goto (tgt := 21) C d_M_pieceX_15 rfl ?_
    exact Rt.sub [] rfl (hJ3 (x1.2 35 (Int32.toNatClampNeg p2)))
theorem d_M_pieceY_0 : decode qM_pieceY.1 0 = .ok (.aload_n 0, 1) := by decide +kernel
theorem d_M_pieceY_1 : decode qM_pieceY.1 1 = .ok (.iload_n 1, 1) := by decide +kernel
theorem d_M_pieceY_2 : decode qM_pieceY.1 2 = .ok (.iload_n 2, 1) := by decide +kernel
theorem d_M_pieceY_3 : decode qM_pieceY.1 3 = .ok (.invokevirtual 537, 3) := by decide +kernel
theorem d_M_pieceY_6 : decode qM_pieceY.1 6 = .ok (.ifCond .eq 12, 3) := by decide +kernel
theorem d_M_pieceY_9 : decode qM_pieceY.1 9 = .ok (.aload_n 0, 1) := by decide +kernel
theorem d_M_pieceY_10 : decode qM_pieceY.1 10 = .ok (.getfield 132, 3) := by decide +kernel
theorem d_M_pieceY_13 : decode qM_pieceY.1 13 = .ok (.iload_n 2, 1) := by decide +kernel
theorem d_M_pieceY_14 : decode qM_pieceY.1 14 = .ok (.iaload, 1) := by decide +kernel
theorem d_M_pieceY_15 : decode qM_pieceY.1 15 = .ok (.goto 6, 3) := by decide +kernel
theorem d_M_pieceY_18 : decode qM_pieceY.1 18 = .ok (.ldc_w 493, 3) := by decide +kernel
theorem d_M_pieceY_21 : decode qM_pieceY.1 21 = .ok (.ireturn, 1) := by decide +kernel
set_option maxRecDepth 100000 in
def m_pieceY (σ : St) (p1 : Int32) (p2 : Int32) : Option (Int32 × St) :=
  Option.bind (m_isPieceOf σ p1 p2) fun x1 =>
  Jn (fun (x2 : Int32) =>
  some (x2, x1.2)
  ) fun J3 =>
  if (x1.1 : Int32) = 0 then (
  J3 (-1000001 : Int32)
  ) else (
  Gd (Ix p2 180) <|
  J3 (x1.2 36 (Int32.toNatClampNeg p2))
  )
set_option maxHeartbeats 4000000 in
set_option maxRecDepth 100000 in
theorem cM_pieceY (l : Launch) (g : Ge) (hi : injB wM.2 g) (σ : St) (p1 : Int32) (p2 : Int32) (x : Int32 × St) (h : m_pieceY σ p1 p2 = some x) : Ct l wM g yM_pieceY qM_pieceY 10 242 [.ref (g.1 0), .int p1, .int p2] σ (some (.int x.1), x.2) := by
  refine Ct.of (out := o_w) FM_pieceY rfl hi rfl h (fun z hz C => ?_)
  clear h
  subst hz
  unfold m_pieceY
  show Rt z qM_pieceY wM g o_w 0 [(0, .ref (g.1 0)), (1, .int p1), (2, .int p2)] [] σ _
  refine q_aload_n (pc' := 1) C 0 d_M_pieceY_0 rfl rfl ?_
  refine q_iload_n (pc' := 2) C 1 d_M_pieceY_1 rfl rfl ?_
  refine q_iload_n (pc' := 3) C 2 d_M_pieceY_2 rfl rfl ?_
  refine q_callVw (fr' := 9) (lo' := 220) (pc' := 6) C FM_isPieceOf lmM_537 d_M_pieceY_3 0 jM_0 kM_0 cM0 [.int p1, .int p2] [] rfl rfl (Nat.le_of_ble_eq_true rfl) ⟨rfl, rfl⟩ (fun x h => cM_isPieceOf _ g hi σ p1 p2 x h) rfl (fun x1 _ => ?_)
  refine q_join (fun J3 : Int32 → Option (Int32 × St) => ∀ (x2 : Int32), Rt z qM_pieceY wM g o_w 21 [] [.int x2] x1.2 (J3 x2)) (fun x2 => ?_) (fun J3 hJ3 => ?_)
  · exact q_iret C rfl d_M_pieceY_21 rfl
  refine q_if_eq (tgt := 18) (pc' := 9) C d_M_pieceY_6 rfl rfl ?_ ?_
  · refine q_ldcw (pc' := 21) C lcM_493 d_M_pieceY_18 rfl ?_
    exact Rt.sub [] rfl (hJ3 (-1000001 : Int32))
  · refine q_aload_n (pc' := 10) C 0 d_M_pieceY_9 rfl rfl ?_
    refine gM_132 (pc' := 13) C d_M_pieceY_10 rfl rfl ?_
    refine q_iload_n (pc' := 14) C 2 d_M_pieceY_13 rfl rfl ?_
    refine q_iald (pc' := 15) C 36 jM_36 kM_36 d_M_pieceY_14 rfl ?_
    refine q_goto (tgt := 21) C d_M_pieceY_15 rfl ?_
    exact Rt.sub [] rfl (hJ3 (x1.2 36 (Int32.toNatClampNeg p2)))
theorem d_M_climbAltitude_0 : decode qM_climbAltitude.1 0 = .ok (.aload_n 0, 1) := by decide +kernel
theorem d_M_climbAltitude_1 : decode qM_climbAltitude.1 1 = .ok (.iload_n 1, 1) := by decide +kernel
theorem d_M_climbAltitude_2 : decode qM_climbAltitude.1 2 = .ok (.iload_n 2, 1) := by decide +kernel
theorem d_M_climbAltitude_3 : decode qM_climbAltitude.1 3 = .ok (.invokevirtual 529, 3) := by decide +kernel
theorem d_M_climbAltitude_6 : decode qM_climbAltitude.1 6 = .ok (.ifCond .eq 12, 3) := by decide +kernel
theorem d_M_climbAltitude_9 : decode qM_climbAltitude.1 9 = .ok (.aload_n 0, 1) := by decide +kernel
theorem d_M_climbAltitude_10 : decode qM_climbAltitude.1 10 = .ok (.getfield 141, 3) := by decide +kernel
theorem d_M_climbAltitude_13 : decode qM_climbAltitude.1 13 = .ok (.iload_n 2, 1) := by decide +kernel
theorem d_M_climbAltitude_14 : decode qM_climbAltitude.1 14 = .ok (.iaload, 1) := by decide +kernel
theorem d_M_climbAltitude_15 : decode qM_climbAltitude.1 15 = .ok (.goto 6, 3) := by decide +kernel
theorem d_M_climbAltitude_18 : decode qM_climbAltitude.1 18 = .ok (.ldc_w 493, 3) := by decide +kernel
theorem d_M_climbAltitude_21 : decode qM_climbAltitude.1 21 = .ok (.ireturn, 1) := by decide +kernel
set_option maxRecDepth 100000 in
def m_climbAltitude (σ : St) (p1 : Int32) (p2 : Int32) : Option (Int32 × St) :=
  Option.bind (m_isLegOf σ p1 p2) fun x1 =>
  Jn (fun (x2 : Int32) =>
  some (x2, x1.2)
  ) fun J3 =>
  if (x1.1 : Int32) = 0 then (
  J3 (-1000001 : Int32)
  ) else (
  Gd (Ix p2 21) <|
  J3 (x1.2 39 (Int32.toNatClampNeg p2))
  )
set_option maxHeartbeats 4000000 in
set_option maxRecDepth 100000 in
theorem cM_climbAltitude (l : Launch) (g : Ge) (hi : injB wM.2 g) (σ : St) (p1 : Int32) (p2 : Int32) (x : Int32 × St) (h : m_climbAltitude σ p1 p2 = some x) : Ct l wM g yM_climbAltitude qM_climbAltitude 10 242 [.ref (g.1 0), .int p1, .int p2] σ (some (.int x.1), x.2) := by
  refine Ct.of (out := o_w) FM_climbAltitude rfl hi rfl h (fun z hz C => ?_)
  clear h
  subst hz
  unfold m_climbAltitude
  show Rt z qM_climbAltitude wM g o_w 0 [(0, .ref (g.1 0)), (1, .int p1), (2, .int p2)] [] σ _
  refine q_aload_n (pc' := 1) C 0 d_M_climbAltitude_0 rfl rfl ?_
  refine q_iload_n (pc' := 2) C 1 d_M_climbAltitude_1 rfl rfl ?_
  refine q_iload_n (pc' := 3) C 2 d_M_climbAltitude_2 rfl rfl ?_
  refine q_callVw (fr' := 9) (lo' := 220) (pc' := 6) C FM_isLegOf lmM_529 d_M_climbAltitude_3 0 jM_0 kM_0 cM0 [.int p1, .int p2] [] rfl rfl (Nat.le_of_ble_eq_true rfl) ⟨rfl, rfl⟩ (fun x h => cM_isLegOf _ g hi σ p1 p2 x h) rfl (fun x1 _ => ?_)
  refine q_join (fun J3 : Int32 → Option (Int32 × St) => ∀ (x2 : Int32), Rt z qM_climbAltitude wM g o_w 21 [] [.int x2] x1.2 (J3 x2)) (fun x2 => ?_) (fun J3 hJ3 => ?_)
  · exact q_iret C rfl d_M_climbAltitude_21 rfl
  refine q_if_eq (tgt := 18) (pc' := 9) C d_M_climbAltitude_6 rfl rfl ?_ ?_
  · refine q_ldcw (pc' := 21) C lcM_493 d_M_climbAltitude_18 rfl ?_
    exact Rt.sub [] rfl (hJ3 (-1000001 : Int32))
  · refine q_aload_n (pc' := 10) C 0 d_M_climbAltitude_9 rfl rfl ?_
    refine gM_141 (pc' := 13) C d_M_climbAltitude_10 rfl rfl ?_
    refine q_iload_n (pc' := 14) C 2 d_M_climbAltitude_13 rfl rfl ?_
    refine q_iald (pc' := 15) C 39 jM_39 kM_39 d_M_climbAltitude_14 rfl ?_
    refine q_goto (tgt := 21) C d_M_climbAltitude_15 rfl ?_
    exact Rt.sub [] rfl (hJ3 (x1.2 39 (Int32.toNatClampNeg p2)))
theorem d_M_descentAltitude_0 : decode qM_descentAltitude.1 0 = .ok (.aload_n 0, 1) := by decide +kernel
theorem d_M_descentAltitude_1 : decode qM_descentAltitude.1 1 = .ok (.iload_n 1, 1) := by decide +kernel
theorem d_M_descentAltitude_2 : decode qM_descentAltitude.1 2 = .ok (.iload_n 2, 1) := by decide +kernel
theorem d_M_descentAltitude_3 : decode qM_descentAltitude.1 3 = .ok (.invokevirtual 529, 3) := by decide +kernel
theorem d_M_descentAltitude_6 : decode qM_descentAltitude.1 6 = .ok (.ifCond .eq 12, 3) := by decide +kernel
theorem d_M_descentAltitude_9 : decode qM_descentAltitude.1 9 = .ok (.aload_n 0, 1) := by decide +kernel
theorem d_M_descentAltitude_10 : decode qM_descentAltitude.1 10 = .ok (.getfield 144, 3) := by decide +kernel
theorem d_M_descentAltitude_13 : decode qM_descentAltitude.1 13 = .ok (.iload_n 2, 1) := by decide +kernel
theorem d_M_descentAltitude_14 : decode qM_descentAltitude.1 14 = .ok (.iaload, 1) := by decide +kernel
theorem d_M_descentAltitude_15 : decode qM_descentAltitude.1 15 = .ok (.goto 6, 3) := by decide +kernel
theorem d_M_descentAltitude_18 : decode qM_descentAltitude.1 18 = .ok (.ldc_w 493, 3) := by decide +kernel
theorem d_M_descentAltitude_21 : decode qM_descentAltitude.1 21 = .ok (.ireturn, 1) := by decide +kernel
set_option maxRecDepth 100000 in
def m_descentAltitude (σ : St) (p1 : Int32) (p2 : Int32) : Option (Int32 × St) :=
  Option.bind (m_isLegOf σ p1 p2) fun x1 =>
  Jn (fun (x2 : Int32) =>
  some (x2, x1.2)
  ) fun J3 =>
  if (x1.1 : Int32) = 0 then (
  J3 (-1000001 : Int32)
  ) else (
  Gd (Ix p2 21) <|
  J3 (x1.2 40 (Int32.toNatClampNeg p2))
  )
set_option maxHeartbeats 4000000 in
set_option maxRecDepth 100000 in
theorem cM_descentAltitude (l : Launch) (g : Ge) (hi : injB wM.2 g) (σ : St) (p1 : Int32) (p2 : Int32) (x : Int32 × St) (h : m_descentAltitude σ p1 p2 = some x) : Ct l wM g yM_descentAltitude qM_descentAltitude 10 242 [.ref (g.1 0), .int p1, .int p2] σ (some (.int x.1), x.2) := by
  refine Ct.of (out := o_w) FM_descentAltitude rfl hi rfl h (fun z hz C => ?_)
  clear h
  subst hz
  unfold m_descentAltitude
  show Rt z qM_descentAltitude wM g o_w 0 [(0, .ref (g.1 0)), (1, .int p1), (2, .int p2)] [] σ _
  refine q_aload_n (pc' := 1) C 0 d_M_descentAltitude_0 rfl rfl ?_
  refine q_iload_n (pc' := 2) C 1 d_M_descentAltitude_1 rfl rfl ?_
  refine q_iload_n (pc' := 3) C 2 d_M_descentAltitude_2 rfl rfl ?_
  refine q_callVw (fr' := 9) (lo' := 220) (pc' := 6) C FM_isLegOf lmM_529 d_M_descentAltitude_3 0 jM_0 kM_0 cM0 [.int p1, .int p2] [] rfl rfl (Nat.le_of_ble_eq_true rfl) ⟨rfl, rfl⟩ (fun x h => cM_isLegOf _ g hi σ p1 p2 x h) rfl (fun x1 _ => ?_)
  refine q_join (fun J3 : Int32 → Option (Int32 × St) => ∀ (x2 : Int32), Rt z qM_descentAltitude wM g o_w 21 [] [.int x2] x1.2 (J3 x2)) (fun x2 => ?_) (fun J3 hJ3 => ?_)
  · exact q_iret C rfl d_M_descentAltitude_21 rfl
  refine q_if_eq (tgt := 18) (pc' := 9) C d_M_descentAltitude_6 rfl rfl ?_ ?_
  · refine q_ldcw (pc' := 21) C lcM_493 d_M_descentAltitude_18 rfl ?_
    exact Rt.sub [] rfl (hJ3 (-1000001 : Int32))
  · refine q_aload_n (pc' := 10) C 0 d_M_descentAltitude_9 rfl rfl ?_
    refine gM_144 (pc' := 13) C d_M_descentAltitude_10 rfl rfl ?_
    refine q_iload_n (pc' := 14) C 2 d_M_descentAltitude_13 rfl rfl ?_
    refine q_iald (pc' := 15) C 40 jM_40 kM_40 d_M_descentAltitude_14 rfl ?_
    refine q_goto (tgt := 21) C d_M_descentAltitude_15 rfl ?_
    exact Rt.sub [] rfl (hJ3 (x1.2 40 (Int32.toNatClampNeg p2)))
theorem d_M_altitude_0 : decode qM_altitude.1 0 = .ok (.aload_n 0, 1) := by decide +kernel
theorem d_M_altitude_1 : decode qM_altitude.1 1 = .ok (.iload_n 1, 1) := by decide +kernel
theorem d_M_altitude_2 : decode qM_altitude.1 2 = .ok (.iload_n 2, 1) := by decide +kernel
theorem d_M_altitude_3 : decode qM_altitude.1 3 = .ok (.invokevirtual 529, 3) := by decide +kernel
theorem d_M_altitude_6 : decode qM_altitude.1 6 = .ok (.ifCond .eq 11, 3) := by decide +kernel
theorem d_M_altitude_9 : decode qM_altitude.1 9 = .ok (.aload_n 0, 1) := by decide +kernel
theorem d_M_altitude_10 : decode qM_altitude.1 10 = .ok (.iload_n 2, 1) := by decide +kernel
theorem d_M_altitude_11 : decode qM_altitude.1 11 = .ok (.invokevirtual 350, 3) := by decide +kernel
theorem d_M_altitude_14 : decode qM_altitude.1 14 = .ok (.goto 6, 3) := by decide +kernel
theorem d_M_altitude_17 : decode qM_altitude.1 17 = .ok (.ldc_w 493, 3) := by decide +kernel
theorem d_M_altitude_20 : decode qM_altitude.1 20 = .ok (.ireturn, 1) := by decide +kernel
set_option maxRecDepth 100000 in
def m_altitude (σ : St) (p1 : Int32) (p2 : Int32) : Option (Int32 × St) :=
  Option.bind (m_isLegOf σ p1 p2) fun x1 =>
  Jn (fun (x2 : Int32) =>
  some (x2, x1.2)
  ) fun J3 =>
  if (x1.1 : Int32) = 0 then (
  J3 (-1000001 : Int32)
  ) else (
  Option.bind (m_altitudeOf x1.2 p2) fun x4 =>
  J3 x4
  )
set_option maxHeartbeats 4000000 in
set_option maxRecDepth 100000 in
theorem cM_altitude (l : Launch) (g : Ge) (hi : injB wM.2 g) (σ : St) (p1 : Int32) (p2 : Int32) (x : Int32 × St) (h : m_altitude σ p1 p2 = some x) : Ct l wM g yM_altitude qM_altitude 10 242 [.ref (g.1 0), .int p1, .int p2] σ (some (.int x.1), x.2) := by
  refine Ct.of (out := o_w) FM_altitude rfl hi rfl h (fun z hz C => ?_)
  clear h
  subst hz
  unfold m_altitude
  show Rt z qM_altitude wM g o_w 0 [(0, .ref (g.1 0)), (1, .int p1), (2, .int p2)] [] σ _
  refine q_aload_n (pc' := 1) C 0 d_M_altitude_0 rfl rfl ?_
  refine q_iload_n (pc' := 2) C 1 d_M_altitude_1 rfl rfl ?_
  refine q_iload_n (pc' := 3) C 2 d_M_altitude_2 rfl rfl ?_
  refine q_callVw (fr' := 9) (lo' := 220) (pc' := 6) C FM_isLegOf lmM_529 d_M_altitude_3 0 jM_0 kM_0 cM0 [.int p1, .int p2] [] rfl rfl (Nat.le_of_ble_eq_true rfl) ⟨rfl, rfl⟩ (fun x h => cM_isLegOf _ g hi σ p1 p2 x h) rfl (fun x1 _ => ?_)
  refine q_join (fun J3 : Int32 → Option (Int32 × St) => ∀ (x2 : Int32), Rt z qM_altitude wM g o_w 20 [] [.int x2] x1.2 (J3 x2)) (fun x2 => ?_) (fun J3 hJ3 => ?_)
  · exact q_iret C rfl d_M_altitude_20 rfl
  refine q_if_eq (tgt := 17) (pc' := 9) C d_M_altitude_6 rfl rfl ?_ ?_
  · refine q_ldcw (pc' := 20) C lcM_493 d_M_altitude_17 rfl ?_
    exact Rt.sub [] rfl (hJ3 (-1000001 : Int32))
  · refine q_aload_n (pc' := 10) C 0 d_M_altitude_9 rfl rfl ?_
    refine q_iload_n (pc' := 11) C 2 d_M_altitude_10 rfl rfl ?_
    refine q_callVr (fr' := 1) (lo' := 21) (pc' := 14) C FM_altitudeOf lmM_350 d_M_altitude_11 0 jM_0 kM_0 cM0 [.int p2] [] rfl rfl (Nat.le_of_ble_eq_true rfl) ⟨rfl, rfl⟩ (fun x h => cM_altitudeOf _ g hi x1.2 p2 x h) rfl (fun x4 _ => ?_)
    refine q_goto (tgt := 20) C d_M_altitude_14 rfl ?_
    exact Rt.sub [] rfl (hJ3 x4)
theorem d_M_altitudeAt_0 : decode qM_altitudeAt.1 0 = .ok (.aload_n 0, 1) := by decide +kernel
theorem d_M_altitudeAt_1 : decode qM_altitudeAt.1 1 = .ok (.iload_n 1, 1) := by decide +kernel
theorem d_M_altitudeAt_2 : decode qM_altitudeAt.1 2 = .ok (.iload_n 2, 1) := by decide +kernel
theorem d_M_altitudeAt_3 : decode qM_altitudeAt.1 3 = .ok (.invokevirtual 529, 3) := by decide +kernel
theorem d_M_altitudeAt_6 : decode qM_altitudeAt.1 6 = .ok (.ifCond .ne 7, 3) := by decide +kernel
theorem d_M_altitudeAt_9 : decode qM_altitudeAt.1 9 = .ok (.ldc_w 493, 3) := by decide +kernel
theorem d_M_altitudeAt_12 : decode qM_altitudeAt.1 12 = .ok (.ireturn, 1) := by decide +kernel
theorem d_M_altitudeAt_13 : decode qM_altitudeAt.1 13 = .ok (.iload_n 3, 1) := by decide +kernel
theorem d_M_altitudeAt_14 : decode qM_altitudeAt.1 14 = .ok (.i2l, 1) := by decide +kernel
theorem d_M_altitudeAt_15 : decode qM_altitudeAt.1 15 = .ok (.lconst 0, 1) := by decide +kernel
theorem d_M_altitudeAt_16 : decode qM_altitudeAt.1 16 = .ok (.aload_n 0, 1) := by decide +kernel
theorem d_M_altitudeAt_17 : decode qM_altitudeAt.1 17 = .ok (.getfield 135, 3) := by decide +kernel
theorem d_M_altitudeAt_20 : decode qM_altitudeAt.1 20 = .ok (.iload_n 2, 1) := by decide +kernel
theorem d_M_altitudeAt_21 : decode qM_altitudeAt.1 21 = .ok (.iaload, 1) := by decide +kernel
theorem d_M_altitudeAt_22 : decode qM_altitudeAt.1 22 = .ok (.i2l, 1) := by decide +kernel
theorem d_M_altitudeAt_23 : decode qM_altitudeAt.1 23 = .ok (.invokestatic 232, 3) := by decide +kernel
theorem d_M_altitudeAt_26 : decode qM_altitudeAt.1 26 = .ok (.ifCond .ne 7, 3) := by decide +kernel
theorem d_M_altitudeAt_29 : decode qM_altitudeAt.1 29 = .ok (.ldc_w 376, 3) := by decide +kernel
theorem d_M_altitudeAt_32 : decode qM_altitudeAt.1 32 = .ok (.ireturn, 1) := by decide +kernel
theorem d_M_altitudeAt_33 : decode qM_altitudeAt.1 33 = .ok (.iload_n 2, 1) := by decide +kernel
theorem d_M_altitudeAt_34 : decode qM_altitudeAt.1 34 = .ok (.ifCond .ne 10, 3) := by decide +kernel
theorem d_M_altitudeAt_37 : decode qM_altitudeAt.1 37 = .ok (.aload_n 0, 1) := by decide +kernel
theorem d_M_altitudeAt_38 : decode qM_altitudeAt.1 38 = .ok (.getfield 257, 3) := by decide +kernel
theorem d_M_altitudeAt_41 : decode qM_altitudeAt.1 41 = .ok (.goto 11, 3) := by decide +kernel
theorem d_M_altitudeAt_44 : decode qM_altitudeAt.1 44 = .ok (.aload_n 0, 1) := by decide +kernel
theorem d_M_altitudeAt_45 : decode qM_altitudeAt.1 45 = .ok (.getfield 141, 3) := by decide +kernel
theorem d_M_altitudeAt_48 : decode qM_altitudeAt.1 48 = .ok (.iload_n 2, 1) := by decide +kernel
theorem d_M_altitudeAt_49 : decode qM_altitudeAt.1 49 = .ok (.iconst 1, 1) := by decide +kernel
theorem d_M_altitudeAt_50 : decode qM_altitudeAt.1 50 = .ok (.isub, 1) := by decide +kernel
theorem d_M_altitudeAt_51 : decode qM_altitudeAt.1 51 = .ok (.iaload, 1) := by decide +kernel
theorem d_M_altitudeAt_52 : decode qM_altitudeAt.1 52 = .ok (.iload_n 3, 1) := by decide +kernel
theorem d_M_altitudeAt_53 : decode qM_altitudeAt.1 53 = .ok (.aload_n 0, 1) := by decide +kernel
theorem d_M_altitudeAt_54 : decode qM_altitudeAt.1 54 = .ok (.getfield 30, 3) := by decide +kernel
theorem d_M_altitudeAt_57 : decode qM_altitudeAt.1 57 = .ok (.invokestatic 344, 3) := by decide +kernel
theorem d_M_altitudeAt_60 : decode qM_altitudeAt.1 60 = .ok (.iadd, 1) := by decide +kernel
theorem d_M_altitudeAt_61 : decode qM_altitudeAt.1 61 = .ok (.istore 4, 2) := by decide +kernel
theorem d_M_altitudeAt_63 : decode qM_altitudeAt.1 63 = .ok (.aload_n 0, 1) := by decide +kernel
theorem d_M_altitudeAt_64 : decode qM_altitudeAt.1 64 = .ok (.getfield 144, 3) := by decide +kernel
theorem d_M_altitudeAt_67 : decode qM_altitudeAt.1 67 = .ok (.iload_n 2, 1) := by decide +kernel
theorem d_M_altitudeAt_68 : decode qM_altitudeAt.1 68 = .ok (.iaload, 1) := by decide +kernel
theorem d_M_altitudeAt_69 : decode qM_altitudeAt.1 69 = .ok (.aload_n 0, 1) := by decide +kernel
theorem d_M_altitudeAt_70 : decode qM_altitudeAt.1 70 = .ok (.getfield 135, 3) := by decide +kernel
theorem d_M_altitudeAt_73 : decode qM_altitudeAt.1 73 = .ok (.iload_n 2, 1) := by decide +kernel
theorem d_M_altitudeAt_74 : decode qM_altitudeAt.1 74 = .ok (.iaload, 1) := by decide +kernel
theorem d_M_altitudeAt_75 : decode qM_altitudeAt.1 75 = .ok (.iload_n 3, 1) := by decide +kernel
theorem d_M_altitudeAt_76 : decode qM_altitudeAt.1 76 = .ok (.isub, 1) := by decide +kernel
theorem d_M_altitudeAt_77 : decode qM_altitudeAt.1 77 = .ok (.aload_n 0, 1) := by decide +kernel
theorem d_M_altitudeAt_78 : decode qM_altitudeAt.1 78 = .ok (.getfield 33, 3) := by decide +kernel
theorem d_M_altitudeAt_81 : decode qM_altitudeAt.1 81 = .ok (.invokestatic 344, 3) := by decide +kernel
theorem d_M_altitudeAt_84 : decode qM_altitudeAt.1 84 = .ok (.iadd, 1) := by decide +kernel
theorem d_M_altitudeAt_85 : decode qM_altitudeAt.1 85 = .ok (.istore 5, 2) := by decide +kernel
theorem d_M_altitudeAt_87 : decode qM_altitudeAt.1 87 = .ok (.aload_n 0, 1) := by decide +kernel
theorem d_M_altitudeAt_88 : decode qM_altitudeAt.1 88 = .ok (.getfield 23, 3) := by decide +kernel
theorem d_M_altitudeAt_91 : decode qM_altitudeAt.1 91 = .ok (.iload 4, 2) := by decide +kernel
theorem d_M_altitudeAt_93 : decode qM_altitudeAt.1 93 = .ok (.iload 5, 2) := by decide +kernel
theorem d_M_altitudeAt_95 : decode qM_altitudeAt.1 95 = .ok (.invokestatic 267, 3) := by decide +kernel
theorem d_M_altitudeAt_98 : decode qM_altitudeAt.1 98 = .ok (.invokestatic 267, 3) := by decide +kernel
theorem d_M_altitudeAt_101 : decode qM_altitudeAt.1 101 = .ok (.ireturn, 1) := by decide +kernel
set_option maxRecDepth 100000 in
def m_altitudeAt (σ : St) (p1 : Int32) (p2 : Int32) (p3 : Int32) : Option (Int32 × St) :=
  Option.bind (m_isLegOf σ p1 p2) fun x1 =>
  if (x1.1 : Int32) = 0 then (
  some ((-1000001 : Int32), x1.2)
  ) else (
  Gd (Ix p2 21) <|
  Option.bind (m_in (Int32.toInt64 p3) (0 : Int64) (Int32.toInt64 (x1.2 37 (Int32.toNatClampNeg p2)))) fun x2 =>
  if (x2 : Int32) = 0 then (
  some ((-1000002 : Int32), x1.2)
  ) else (
  Jn (fun (x3 : Int32) =>
  Option.bind (m_change p3 (x1.2 0 12)) fun x5 =>
  Lt ((x3 + x5) : Int32) fun x6 =>
  Gd (Ix p2 21) <|
  Gd (Ix p2 21) <|
  Option.bind (m_change ((x1.2 37 (Int32.toNatClampNeg p2)) - p3) (x1.2 0 13)) fun x7 =>
  Lt (((x1.2 40 (Int32.toNatClampNeg p2)) + x7) : Int32) fun x8 =>
  Option.bind (m_lesser x6 x8) fun x9 =>
  Option.bind (m_lesser (x1.2 0 10) x9) fun x10 =>
  some (x10, x1.2)
  ) fun J4 =>
  if (p2 : Int32) = 0 then (
  J4 (x1.2 0 15)
  ) else (
  Gd (Ix (p2 - (1 : Int32)) 21) <|
  J4 (x1.2 39 (Int32.toNatClampNeg (p2 - (1 : Int32))))
  )
  )
  )
set_option maxHeartbeats 4000000 in
set_option maxRecDepth 100000 in
theorem cM_altitudeAt (l : Launch) (g : Ge) (hi : injB wM.2 g) (σ : St) (p1 : Int32) (p2 : Int32) (p3 : Int32) (x : Int32 × St) (h : m_altitudeAt σ p1 p2 p3 = some x) : Ct l wM g yM_altitudeAt qM_altitudeAt 10 242 [.ref (g.1 0), .int p1, .int p2, .int p3] σ (some (.int x.1), x.2) := by
  refine Ct.of (out := o_w) FM_altitudeAt rfl hi rfl h (fun z hz C => ?_)
  clear h
  subst hz
  unfold m_altitudeAt
  show Rt z qM_altitudeAt wM g o_w 0 [(0, .ref (g.1 0)), (1, .int p1), (2, .int p2), (3, .int p3)] [] σ _
  refine q_aload_n (pc' := 1) C 0 d_M_altitudeAt_0 rfl rfl ?_
  refine q_iload_n (pc' := 2) C 1 d_M_altitudeAt_1 rfl rfl ?_
  refine q_iload_n (pc' := 3) C 2 d_M_altitudeAt_2 rfl rfl ?_
  refine q_callVw (fr' := 9) (lo' := 220) (pc' := 6) C FM_isLegOf lmM_529 d_M_altitudeAt_3 0 jM_0 kM_0 cM0 [.int p1, .int p2] [] rfl rfl (Nat.le_of_ble_eq_true rfl) ⟨rfl, rfl⟩ (fun x h => cM_isLegOf _ g hi σ p1 p2 x h) rfl (fun x1 _ => ?_)
  refine q_if_ne (tgt := 13) (pc' := 9) C d_M_altitudeAt_6 rfl rfl ?_ ?_
  · refine q_iload_n (pc' := 14) C 3 d_M_altitudeAt_13 rfl rfl ?_
    refine q_i2l (pc' := 15) C d_M_altitudeAt_14 rfl ?_
    refine q_lconst (pc' := 16) C d_M_altitudeAt_15 kl_0 rfl ?_
    refine q_aload_n (pc' := 17) C 0 d_M_altitudeAt_16 rfl rfl ?_
    refine gM_135 (pc' := 20) C d_M_altitudeAt_17 rfl rfl ?_
    refine q_iload_n (pc' := 21) C 2 d_M_altitudeAt_20 rfl rfl ?_
    refine q_iald (pc' := 22) C 37 jM_37 kM_37 d_M_altitudeAt_21 rfl ?_
    refine q_i2l (pc' := 23) C d_M_altitudeAt_22 rfl ?_
    refine q_callSr (fr' := 0) (lo' := 0) (pc' := 26) C FM_in lmM_232 d_M_altitudeAt_23 [.long (Int32.toInt64 p3), .long (0 : Int64), .long (Int32.toInt64 (x1.2 37 (Int32.toNatClampNeg p2)))] [] rfl rfl (Nat.le_of_ble_eq_true rfl) ⟨rfl, rfl⟩ (fun x h => cM_in _ g hi x1.2 (Int32.toInt64 p3) (0 : Int64) (Int32.toInt64 (x1.2 37 (Int32.toNatClampNeg p2))) x h) rfl (fun x2 _ => ?_)
    refine q_if_ne (tgt := 33) (pc' := 29) C d_M_altitudeAt_26 rfl rfl ?_ ?_
    · refine q_iload_n (pc' := 34) C 2 d_M_altitudeAt_33 rfl rfl ?_
      refine q_join (fun J4 : Int32 → Option (Int32 × St) => ∀ (x3 : Int32), Rt z qM_altitudeAt wM g o_w 52 [(0, .ref (g.1 0)), (2, .int p2), (3, .int p3)] [.int x3] x1.2 (J4 x3)) (fun x3 => ?_) (fun J4 hJ4 => ?_)
      · refine q_iload_n (pc' := 53) C 2 d_M_altitudeAt_52 rfl rfl ?_
        refine q_aload_n (pc' := 54) C 0 d_M_altitudeAt_53 rfl rfl ?_
        refine gM_30 (pc' := 57) C d_M_altitudeAt_54 rfl rfl ?_
        refine q_callSr (fr' := 0) (lo' := 0) (pc' := 60) C FM_change lmM_344 d_M_altitudeAt_57 [.int p3, .int (x1.2 0 12)] [.int x3] rfl rfl (Nat.le_of_ble_eq_true rfl) ⟨rfl, rfl⟩ (fun x h => cM_change _ g hi x1.2 p3 (x1.2 0 12) x h) rfl (fun x5 _ => ?_)
        refine q_iadd (pc' := 61) C d_M_altitudeAt_60 rfl ?_
        refine q_let (fun x6 e6 => ?_)
        refine q_topi e6 ?_
        refine q_istore (pc' := 63) (lv' := [(4, .int x6), (0, .ref (g.1 0)), (2, .int p2), (3, .int p3)]) C d_M_altitudeAt_61 (by decide) rfl rfl ?_
        refine q_aload_n (pc' := 64) C 1 d_M_altitudeAt_63 rfl rfl ?_
        refine gM_144 (pc' := 67) C d_M_altitudeAt_64 rfl rfl ?_
        refine q_iload_n (pc' := 68) C 2 d_M_altitudeAt_67 rfl rfl ?_
        refine q_iald (pc' := 69) C 40 jM_40 kM_40 d_M_altitudeAt_68 rfl ?_
        refine q_aload_n (pc' := 70) C 1 d_M_altitudeAt_69 rfl rfl ?_
        refine gM_135 (pc' := 73) C d_M_altitudeAt_70 rfl rfl ?_
        refine q_iload_n (pc' := 74) C 2 d_M_altitudeAt_73 rfl rfl ?_
        refine q_iald (pc' := 75) C 37 jM_37 kM_37 d_M_altitudeAt_74 rfl ?_
        refine q_iload_n (pc' := 76) C 3 d_M_altitudeAt_75 rfl rfl ?_
        refine q_isub (pc' := 77) C d_M_altitudeAt_76 rfl ?_
        refine q_aload_n (pc' := 78) C 1 d_M_altitudeAt_77 rfl rfl ?_
        refine gM_33 (pc' := 81) C d_M_altitudeAt_78 rfl rfl ?_
        refine q_callSr (fr' := 0) (lo' := 0) (pc' := 84) C FM_change lmM_344 d_M_altitudeAt_81 [.int ((x1.2 37 (Int32.toNatClampNeg p2)) - p3), .int (x1.2 0 13)] [.int (x1.2 40 (Int32.toNatClampNeg p2))] rfl rfl (Nat.le_of_ble_eq_true rfl) ⟨rfl, rfl⟩ (fun x h => cM_change _ g hi x1.2 ((x1.2 37 (Int32.toNatClampNeg p2)) - p3) (x1.2 0 13) x h) rfl (fun x7 _ => ?_)
        refine q_iadd (pc' := 85) C d_M_altitudeAt_84 rfl ?_
        refine q_let (fun x8 e8 => ?_)
        refine q_topi e8 ?_
        refine q_istore (pc' := 87) (lv' := [(5, .int x8), (4, .int x6), (0, .ref (g.1 0)), (2, .int p2), (3, .int p3)]) C d_M_altitudeAt_85 (by decide) rfl rfl ?_
        refine q_aload_n (pc' := 88) C 2 d_M_altitudeAt_87 rfl rfl ?_
        refine gM_23 (pc' := 91) C d_M_altitudeAt_88 rfl rfl ?_
        refine q_iload (pc' := 93) C 1 d_M_altitudeAt_91 rfl rfl ?_
        refine q_iload (pc' := 95) C 0 d_M_altitudeAt_93 rfl rfl ?_
        refine q_callSr (fr' := 0) (lo' := 0) (pc' := 98) C FM_lesser lmM_267 d_M_altitudeAt_95 [.int x6, .int x8] [.int (x1.2 0 10)] rfl rfl (Nat.le_of_ble_eq_true rfl) ⟨rfl, rfl⟩ (fun x h => cM_lesser _ g hi x1.2 x6 x8 x h) rfl (fun x9 _ => ?_)
        refine q_callSr (fr' := 0) (lo' := 0) (pc' := 101) C FM_lesser lmM_267 d_M_altitudeAt_98 [.int (x1.2 0 10), .int x9] [] rfl rfl (Nat.le_of_ble_eq_true rfl) ⟨rfl, rfl⟩ (fun x h => cM_lesser _ g hi x1.2 (x1.2 0 10) x9 x h) rfl (fun x10 _ => ?_)
        exact q_iret C rfl d_M_altitudeAt_101 rfl
      refine q_if_ne (tgt := 44) (pc' := 37) C d_M_altitudeAt_34 rfl rfl ?_ ?_
      · refine q_aload_n (pc' := 45) C 0 d_M_altitudeAt_44 rfl rfl ?_
        refine gM_141 (pc' := 48) C d_M_altitudeAt_45 rfl rfl ?_
        refine q_iload_n (pc' := 49) C 2 d_M_altitudeAt_48 rfl rfl ?_
        refine q_iconst (pc' := 50) C d_M_altitudeAt_49 ki_1 rfl ?_
        refine q_isub (pc' := 51) C d_M_altitudeAt_50 rfl ?_
        refine q_iald (pc' := 52) C 39 jM_39 kM_39 d_M_altitudeAt_51 rfl ?_
        exact Rt.sub [0, 2, 3] rfl (hJ4 (x1.2 39 (Int32.toNatClampNeg (p2 - (1 : Int32)))))
      · refine q_aload_n (pc' := 38) C 0 d_M_altitudeAt_37 rfl rfl ?_
        refine gM_257 (pc' := 41) C d_M_altitudeAt_38 rfl rfl ?_
        refine q_goto (tgt := 52) C d_M_altitudeAt_41 rfl ?_
        exact Rt.sub [0, 2, 3] rfl (hJ4 (x1.2 0 15))
    · refine q_ldcw (pc' := 32) C lcM_376 d_M_altitudeAt_29 rfl ?_
      exact q_iret C rfl d_M_altitudeAt_32 rfl
  · refine q_ldcw (pc' := 12) C lcM_493 d_M_altitudeAt_9 rfl ?_
    exact q_iret C rfl d_M_altitudeAt_12 rfl
theorem d_M_violation_0 : decode qM_violation.1 0 = .ok (.aload_n 0, 1) := by decide +kernel
theorem d_M_violation_1 : decode qM_violation.1 1 = .ok (.iload_n 1, 1) := by decide +kernel
theorem d_M_violation_2 : decode qM_violation.1 2 = .ok (.iload_n 2, 1) := by decide +kernel
theorem d_M_violation_3 : decode qM_violation.1 3 = .ok (.invokevirtual 529, 3) := by decide +kernel
theorem d_M_violation_6 : decode qM_violation.1 6 = .ok (.ifCond .eq 16, 3) := by decide +kernel
theorem d_M_violation_9 : decode qM_violation.1 9 = .ok (.aload_n 0, 1) := by decide +kernel
theorem d_M_violation_10 : decode qM_violation.1 10 = .ok (.aload_n 0, 1) := by decide +kernel
theorem d_M_violation_11 : decode qM_violation.1 11 = .ok (.iload_n 1, 1) := by decide +kernel
theorem d_M_violation_12 : decode qM_violation.1 12 = .ok (.invokevirtual 523, 3) := by decide +kernel
theorem d_M_violation_15 : decode qM_violation.1 15 = .ok (.iload_n 2, 1) := by decide +kernel
theorem d_M_violation_16 : decode qM_violation.1 16 = .ok (.invokevirtual 356, 3) := by decide +kernel
theorem d_M_violation_19 : decode qM_violation.1 19 = .ok (.goto 6, 3) := by decide +kernel
theorem d_M_violation_22 : decode qM_violation.1 22 = .ok (.ldc_w 493, 3) := by decide +kernel
theorem d_M_violation_25 : decode qM_violation.1 25 = .ok (.ireturn, 1) := by decide +kernel
set_option maxRecDepth 100000 in
def m_violation (σ : St) (p1 : Int32) (p2 : Int32) : Option (Int32 × St) :=
  Option.bind (m_isLegOf σ p1 p2) fun x1 =>
  Jn (fun (x2 : Int32) =>
  some (x2, x1.2)
  ) fun J3 =>
  if (x1.1 : Int32) = 0 then (
  J3 (-1000001 : Int32)
  ) else (
  Option.bind (m_planOf p1) fun x4 =>
  Option.bind (m_violationOf x1.2 x4 p2) fun x5 =>
  J3 x5
  )
set_option maxHeartbeats 4000000 in
set_option maxRecDepth 100000 in
theorem cM_violation (l : Launch) (g : Ge) (hi : injB wM.2 g) (σ : St) (p1 : Int32) (p2 : Int32) (x : Int32 × St) (h : m_violation σ p1 p2 = some x) : Ct l wM g yM_violation qM_violation 10 242 [.ref (g.1 0), .int p1, .int p2] σ (some (.int x.1), x.2) := by
  refine Ct.of (out := o_w) FM_violation rfl hi rfl h (fun z hz C => ?_)
  clear h
  subst hz
  unfold m_violation
  show Rt z qM_violation wM g o_w 0 [(0, .ref (g.1 0)), (1, .int p1), (2, .int p2)] [] σ _
  refine q_aload_n (pc' := 1) C 0 d_M_violation_0 rfl rfl ?_
  refine q_iload_n (pc' := 2) C 1 d_M_violation_1 rfl rfl ?_
  refine q_iload_n (pc' := 3) C 2 d_M_violation_2 rfl rfl ?_
  refine q_callVw (fr' := 9) (lo' := 220) (pc' := 6) C FM_isLegOf lmM_529 d_M_violation_3 0 jM_0 kM_0 cM0 [.int p1, .int p2] [] rfl rfl (Nat.le_of_ble_eq_true rfl) ⟨rfl, rfl⟩ (fun x h => cM_isLegOf _ g hi σ p1 p2 x h) rfl (fun x1 _ => ?_)
  refine q_join (fun J3 : Int32 → Option (Int32 × St) => ∀ (x2 : Int32), Rt z qM_violation wM g o_w 25 [] [.int x2] x1.2 (J3 x2)) (fun x2 => ?_) (fun J3 hJ3 => ?_)
  · exact q_iret C rfl d_M_violation_25 rfl
  refine q_if_eq (tgt := 22) (pc' := 9) C d_M_violation_6 rfl rfl ?_ ?_
  · refine q_ldcw (pc' := 25) C lcM_493 d_M_violation_22 rfl ?_
    exact Rt.sub [] rfl (hJ3 (-1000001 : Int32))
  · refine q_aload_n (pc' := 10) C 0 d_M_violation_9 rfl rfl ?_
    refine q_aload_n (pc' := 11) C 0 d_M_violation_10 rfl rfl ?_
    refine q_iload_n (pc' := 12) C 1 d_M_violation_11 rfl rfl ?_
    refine q_callVr (fr' := 0) (lo' := 0) (pc' := 15) C FM_planOf lmM_523 d_M_violation_12 0 jM_0 kM_0 cM0 [.int p1] [.ref (g.1 0)] rfl rfl (Nat.le_of_ble_eq_true rfl) ⟨rfl, rfl⟩ (fun x h => cM_planOf _ g hi x1.2 p1 x h) rfl (fun x4 _ => ?_)
    refine q_iload_n (pc' := 16) C 2 d_M_violation_15 rfl rfl ?_
    refine q_callVr (fr' := 3) (lo' := 63) (pc' := 19) C FM_violationOf lmM_356 d_M_violation_16 0 jM_0 kM_0 cM0 [.int x4, .int p2] [] rfl rfl (Nat.le_of_ble_eq_true rfl) ⟨rfl, rfl⟩ (fun x h => cM_violationOf _ g hi x1.2 x4 p2 x h) rfl (fun x5 _ => ?_)
    refine q_goto (tgt := 25) C d_M_violation_19 rfl ?_
    exact Rt.sub [] rfl (hJ3 x5)
