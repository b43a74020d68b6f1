/-! the reference, methods 9 -/
theorem d_M_topOfDescent_0 : decode qM_topOfDescent.1 0 = .ok (.aload_n 0, 1) := by decide +kernel
theorem d_M_topOfDescent_1 : decode qM_topOfDescent.1 1 = .ok (.iload_n 1, 1) := by decide +kernel
theorem d_M_topOfDescent_2 : decode qM_topOfDescent.1 2 = .ok (.invokevirtual 526, 3) := by decide +kernel
theorem d_M_topOfDescent_5 : decode qM_topOfDescent.1 5 = .ok (.ifCond .ne 7, 3) := by decide +kernel
theorem d_M_topOfDescent_8 : decode qM_topOfDescent.1 8 = .ok (.ldc_w 493, 3) := by decide +kernel
theorem d_M_topOfDescent_11 : decode qM_topOfDescent.1 11 = .ok (.ireturn, 1) := by decide +kernel
theorem d_M_topOfDescent_12 : decode qM_topOfDescent.1 12 = .ok (.aload_n 0, 1) := by decide +kernel
theorem d_M_topOfDescent_13 : decode qM_topOfDescent.1 13 = .ok (.aload_n 0, 1) := by decide +kernel
theorem d_M_topOfDescent_14 : decode qM_topOfDescent.1 14 = .ok (.iload_n 1, 1) := by decide +kernel
theorem d_M_topOfDescent_15 : decode qM_topOfDescent.1 15 = .ok (.invokevirtual 523, 3) := by decide +kernel
theorem d_M_topOfDescent_18 : decode qM_topOfDescent.1 18 = .ok (.invokevirtual 218, 3) := by decide +kernel
theorem d_M_topOfDescent_21 : decode qM_topOfDescent.1 21 = .ok (.istore_n 2, 1) := by decide +kernel
theorem d_M_topOfDescent_22 : decode qM_topOfDescent.1 22 = .ok (.iconst (-1), 1) := by decide +kernel
theorem d_M_topOfDescent_23 : decode qM_topOfDescent.1 23 = .ok (.istore_n 3, 1) := by decide +kernel
theorem d_M_topOfDescent_24 : decode qM_topOfDescent.1 24 = .ok (.iconst 0, 1) := by decide +kernel
theorem d_M_topOfDescent_25 : decode qM_topOfDescent.1 25 = .ok (.istore 4, 2) := by decide +kernel
theorem d_M_topOfDescent_27 : decode qM_topOfDescent.1 27 = .ok (.iload 4, 2) := by decide +kernel
theorem d_M_topOfDescent_29 : decode qM_topOfDescent.1 29 = .ok (.iload_n 2, 1) := by decide +kernel
theorem d_M_topOfDescent_30 : decode qM_topOfDescent.1 30 = .ok (.if_icmp .ge 34, 3) := by decide +kernel
theorem d_M_topOfDescent_33 : decode qM_topOfDescent.1 33 = .ok (.iload_n 3, 1) := by decide +kernel
theorem d_M_topOfDescent_34 : decode qM_topOfDescent.1 34 = .ok (.ifCond .lt 17, 3) := by decide +kernel
theorem d_M_topOfDescent_37 : decode qM_topOfDescent.1 37 = .ok (.aload_n 0, 1) := by decide +kernel
theorem d_M_topOfDescent_38 : decode qM_topOfDescent.1 38 = .ok (.iload 4, 2) := by decide +kernel
theorem d_M_topOfDescent_40 : decode qM_topOfDescent.1 40 = .ok (.invokevirtual 350, 3) := by decide +kernel
theorem d_M_topOfDescent_43 : decode qM_topOfDescent.1 43 = .ok (.aload_n 0, 1) := by decide +kernel
theorem d_M_topOfDescent_44 : decode qM_topOfDescent.1 44 = .ok (.iload_n 3, 1) := by decide +kernel
theorem d_M_topOfDescent_45 : decode qM_topOfDescent.1 45 = .ok (.invokevirtual 350, 3) := by decide +kernel
theorem d_M_topOfDescent_48 : decode qM_topOfDescent.1 48 = .ok (.if_icmp .lt 8, 3) := by decide +kernel
theorem d_M_topOfDescent_51 : decode qM_topOfDescent.1 51 = .ok (.iload 4, 2) := by decide +kernel
theorem d_M_topOfDescent_53 : decode qM_topOfDescent.1 53 = .ok (.goto 4, 3) := by decide +kernel
theorem d_M_topOfDescent_56 : decode qM_topOfDescent.1 56 = .ok (.iload_n 3, 1) := by decide +kernel
theorem d_M_topOfDescent_57 : decode qM_topOfDescent.1 57 = .ok (.istore_n 3, 1) := by decide +kernel
theorem d_M_topOfDescent_58 : decode qM_topOfDescent.1 58 = .ok (.iinc 4 1, 3) := by decide +kernel
theorem d_M_topOfDescent_61 : decode qM_topOfDescent.1 61 = .ok (.goto (-34), 3) := by decide +kernel
theorem d_M_topOfDescent_64 : decode qM_topOfDescent.1 64 = .ok (.iload_n 3, 1) := by decide +kernel
theorem d_M_topOfDescent_65 : decode qM_topOfDescent.1 65 = .ok (.ifCond .lt 10, 3) := by decide +kernel
theorem d_M_topOfDescent_68 : decode qM_topOfDescent.1 68 = .ok (.iload_n 3, 1) := by decide +kernel
theorem d_M_topOfDescent_69 : decode qM_topOfDescent.1 69 = .ok (.iload_n 2, 1) := by decide +kernel
theorem d_M_topOfDescent_70 : decode qM_topOfDescent.1 70 = .ok (.iconst 1, 1) := by decide +kernel
theorem d_M_topOfDescent_71 : decode qM_topOfDescent.1 71 = .ok (.isub, 1) := by decide +kernel
theorem d_M_topOfDescent_72 : decode qM_topOfDescent.1 72 = .ok (.if_icmp .ne 7, 3) := by decide +kernel
theorem d_M_topOfDescent_75 : decode qM_topOfDescent.1 75 = .ok (.ldc_w 453, 3) := by decide +kernel
theorem d_M_topOfDescent_78 : decode qM_topOfDescent.1 78 = .ok (.ireturn, 1) := by decide +kernel
theorem d_M_topOfDescent_79 : decode qM_topOfDescent.1 79 = .ok (.aload_n 0, 1) := by decide +kernel
theorem d_M_topOfDescent_80 : decode qM_topOfDescent.1 80 = .ok (.iload_n 3, 1) := by decide +kernel
theorem d_M_topOfDescent_81 : decode qM_topOfDescent.1 81 = .ok (.invokevirtual 350, 3) := by decide +kernel
theorem d_M_topOfDescent_84 : decode qM_topOfDescent.1 84 = .ok (.aload_n 0, 1) := by decide +kernel
theorem d_M_topOfDescent_85 : decode qM_topOfDescent.1 85 = .ok (.iload_n 3, 1) := by decide +kernel
theorem d_M_topOfDescent_86 : decode qM_topOfDescent.1 86 = .ok (.iconst 1, 1) := by decide +kernel
theorem d_M_topOfDescent_87 : decode qM_topOfDescent.1 87 = .ok (.iadd, 1) := by decide +kernel
theorem d_M_topOfDescent_88 : decode qM_topOfDescent.1 88 = .ok (.invokevirtual 350, 3) := by decide +kernel
theorem d_M_topOfDescent_91 : decode qM_topOfDescent.1 91 = .ok (.isub, 1) := by decide +kernel
theorem d_M_topOfDescent_92 : decode qM_topOfDescent.1 92 = .ok (.i2l, 1) := by decide +kernel
theorem d_M_topOfDescent_93 : decode qM_topOfDescent.1 93 = .ok (.ldc2_w 160, 3) := by decide +kernel
theorem d_M_topOfDescent_96 : decode qM_topOfDescent.1 96 = .ok (.lmul, 1) := by decide +kernel
theorem d_M_topOfDescent_97 : decode qM_topOfDescent.1 97 = .ok (.aload_n 0, 1) := by decide +kernel
theorem d_M_topOfDescent_98 : decode qM_topOfDescent.1 98 = .ok (.getfield 33, 3) := by decide +kernel
theorem d_M_topOfDescent_101 : decode qM_topOfDescent.1 101 = .ok (.i2l, 1) := by decide +kernel
theorem d_M_topOfDescent_102 : decode qM_topOfDescent.1 102 = .ok (.ldiv, 1) := by decide +kernel
theorem d_M_topOfDescent_103 : decode qM_topOfDescent.1 103 = .ok (.l2i, 1) := by decide +kernel
theorem d_M_topOfDescent_104 : decode qM_topOfDescent.1 104 = .ok (.istore 4, 2) := by decide +kernel
theorem d_M_topOfDescent_106 : decode qM_topOfDescent.1 106 = .ok (.aload_n 0, 1) := by decide +kernel
theorem d_M_topOfDescent_107 : decode qM_topOfDescent.1 107 = .ok (.iload_n 3, 1) := by decide +kernel
theorem d_M_topOfDescent_108 : decode qM_topOfDescent.1 108 = .ok (.invokevirtual 520, 3) := by decide +kernel
theorem d_M_topOfDescent_111 : decode qM_topOfDescent.1 111 = .ok (.iconst 0, 1) := by decide +kernel
theorem d_M_topOfDescent_112 : decode qM_topOfDescent.1 112 = .ok (.aload_n 0, 1) := by decide +kernel
theorem d_M_topOfDescent_113 : decode qM_topOfDescent.1 113 = .ok (.getfield 135, 3) := by decide +kernel
theorem d_M_topOfDescent_116 : decode qM_topOfDescent.1 116 = .ok (.iload_n 3, 1) := by decide +kernel
theorem d_M_topOfDescent_117 : decode qM_topOfDescent.1 117 = .ok (.iconst 1, 1) := by decide +kernel
theorem d_M_topOfDescent_118 : decode qM_topOfDescent.1 118 = .ok (.iadd, 1) := by decide +kernel
theorem d_M_topOfDescent_119 : decode qM_topOfDescent.1 119 = .ok (.iaload, 1) := by decide +kernel
theorem d_M_topOfDescent_120 : decode qM_topOfDescent.1 120 = .ok (.iload 4, 2) := by decide +kernel
theorem d_M_topOfDescent_122 : decode qM_topOfDescent.1 122 = .ok (.isub, 1) := by decide +kernel
theorem d_M_topOfDescent_123 : decode qM_topOfDescent.1 123 = .ok (.invokestatic 279, 3) := by decide +kernel
theorem d_M_topOfDescent_126 : decode qM_topOfDescent.1 126 = .ok (.iadd, 1) := by decide +kernel
theorem d_M_topOfDescent_127 : decode qM_topOfDescent.1 127 = .ok (.ireturn, 1) := by decide +kernel
set_option maxRecDepth 100000 in
def lb_m_topOfDescent_27 (x1 : Int32 × St) (x3 : Int32) (J5 : Int32 → Option (Int32 × St)) (ih14 : Int32 × Int32 → Option (Int32 × St)) (a13 : Int32 × Int32) : Option (Int32 × St) :=
  if (x3 : Int32) ≤ a13.2 then (
  J5 a13.1
  ) else (
  Jn (fun (x15 : Int32) =>
  Lt (a13.2 + (1 : Int32) : Int32) fun x17 =>
  ih14 (x15, x17)
  ) fun J16 =>
  Jn (fun (_ : Unit) =>
  J16 a13.2
  ) fun J18 =>
  if (a13.1 : Int32) < 0 then (
  J18 ()
  ) else (
  Option.bind (m_altitudeOf x1.2 a13.2) fun x19 =>
  Option.bind (m_altitudeOf x1.2 a13.1) fun x20 =>
  if (x19 : Int32) < x20 then (
  J16 a13.1
  ) else (
  J18 ()
  )
  )
  )
set_option maxRecDepth 100000 in
def m_topOfDescent (σ : St) (p1 : Int32) : Option (Int32 × St) :=
  Option.bind (m_isPlan σ p1) fun x1 =>
  if (x1.1 : Int32) = 0 then (
  some ((-1000001 : Int32), x1.2)
  ) else (
  Option.bind (m_planOf p1) fun x2 =>
  Option.bind (m_count x1.2 x2) fun x3 =>
  Jn (fun (x4 : Int32) =>
  Jn (fun (_ : Unit) =>
  some ((-1000000 : Int32), x1.2)
  ) fun J6 =>
  if (x4 : Int32) < 0 then (
  J6 ()
  ) else (
  if (x4 : Int32) = (x3 - (1 : Int32)) then (
  J6 ()
  ) else (
  Option.bind (m_altitudeOf x1.2 x4) fun x7 =>
  Option.bind (m_altitudeOf x1.2 (x4 + (1 : Int32))) fun x8 =>
  Gd (¬ ((Int32.toInt64 (x1.2 0 13)) : Int64) = 0) <|
  Lt ((Int64.toInt32 (((Int32.toInt64 (x7 - x8)) * (1000 : Int64)) / (Int32.toInt64 (x1.2 0 13)))) : Int32) fun x10 =>
  Option.bind (m_lengthUpTo x1.2 x4) fun x11 =>
  Gd (Ix (x4 + (1 : Int32)) 21) <|
  Option.bind (m_greater (0 : Int32) ((x1.2 37 (Int32.toNatClampNeg (x4 + (1 : Int32)))) - x10)) fun x12 =>
  some ((x11 + x12), x1.2)
  )
  )
  ) fun J5 =>
  lp (lb_m_topOfDescent_27 x1 x3 J5) 4000 ((-1 : Int32), (0 : Int32))
  )
set_option maxHeartbeats 4000000 in
set_option maxRecDepth 100000 in
theorem cM_topOfDescent (l : Launch) (g : Ge) (hi : injB wM.2 g) (σ : St) (p1 : Int32) (x : Int32 × St) (h : m_topOfDescent σ p1 = some x) : Ct l wM g yM_topOfDescent qM_topOfDescent 9 220 [.ref (g.1 0), .int p1] σ (some (.int x.1), x.2) := by
  refine Ct.of (out := o_w) FM_topOfDescent rfl hi rfl h (fun z hz C => ?_)
  clear h
  subst hz
  unfold m_topOfDescent
  show Rt z qM_topOfDescent wM g o_w 0 [(0, .ref (g.1 0)), (1, .int p1)] [] σ _
  refine q_aload_n (pc' := 1) C 0 d_M_topOfDescent_0 rfl rfl ?_
  refine q_iload_n (pc' := 2) C 1 d_M_topOfDescent_1 rfl rfl ?_
  refine q_callVw (fr' := 8) (lo' := 199) (pc' := 5) C FM_isPlan lmM_526 d_M_topOfDescent_2 0 jM_0 kM_0 cM0 [.int p1] [] rfl rfl (Nat.le_of_ble_eq_true rfl) ⟨rfl, rfl⟩ (fun x h => cM_isPlan _ g hi σ p1 x h) rfl (fun x1 _ => ?_)
  refine q_if_ne (tgt := 12) (pc' := 8) C d_M_topOfDescent_5 rfl rfl ?_ ?_
  · refine q_aload_n (pc' := 13) C 0 d_M_topOfDescent_12 rfl rfl ?_
    refine q_aload_n (pc' := 14) C 0 d_M_topOfDescent_13 rfl rfl ?_
    refine q_iload_n (pc' := 15) C 1 d_M_topOfDescent_14 rfl rfl ?_
    refine q_callVr (fr' := 0) (lo' := 0) (pc' := 18) C FM_planOf lmM_523 d_M_topOfDescent_15 0 jM_0 kM_0 cM0 [.int p1] [.ref (g.1 0)] rfl rfl (Nat.le_of_ble_eq_true rfl) ⟨rfl, rfl⟩ (fun x h => cM_planOf _ g hi x1.2 p1 x h) rfl (fun x2 _ => ?_)
    refine q_callVr (fr' := 0) (lo' := 0) (pc' := 21) C FM_count lmM_218 d_M_topOfDescent_18 0 jM_0 kM_0 cM0 [.int x2] [] rfl rfl (Nat.le_of_ble_eq_true rfl) ⟨rfl, rfl⟩ (fun x h => cM_count _ g hi x1.2 x2 x h) rfl (fun x3 _ => ?_)
    refine q_istore_n (pc' := 22) (lv' := [(2, .int x3), (0, .ref (g.1 0)), (1, .int p1)]) C d_M_topOfDescent_21 (by decide) rfl rfl ?_
    refine q_iconst (pc' := 23) C d_M_topOfDescent_22 ki_m1 rfl ?_
    refine q_istore_n (pc' := 24) (lv' := [(3, .int (-1 : Int32)), (2, .int x3), (0, .ref (g.1 0)), (1, .int p1)]) C d_M_topOfDescent_23 (by decide) rfl rfl ?_
    refine q_iconst (pc' := 25) C d_M_topOfDescent_24 ki_0 rfl ?_
    refine q_istore (pc' := 27) (lv' := [(4, .int (0 : Int32)), (3, .int (-1 : Int32)), (2, .int x3), (0, .ref (g.1 0)), (1, .int p1)]) C d_M_topOfDescent_25 (by decide) rfl rfl ?_
    refine q_join (fun J5 : Int32 → Option (Int32 × St) => ∀ (x4 : Int32), Rt z qM_topOfDescent wM g o_w 64 [(0, .ref (g.1 0)), (2, .int x3), (3, .int x4)] [] x1.2 (J5 x4)) (fun x4 => ?_) (fun J5 hJ5 => ?_)
    · refine q_iload_n (pc' := 65) C 2 d_M_topOfDescent_64 rfl rfl ?_
      refine q_join (fun J6 : Unit → Option (Int32 × St) => ∀ (_ : Unit), Rt z qM_topOfDescent wM g o_w 75 [] [] x1.2 (J6 ())) (fun _ => ?_) (fun J6 hJ6 => ?_)
      · refine q_ldcw (pc' := 78) C lcM_453 d_M_topOfDescent_75 rfl ?_
        exact q_iret C rfl d_M_topOfDescent_78 rfl
      refine q_if_lt (tgt := 75) (pc' := 68) C d_M_topOfDescent_65 rfl rfl ?_ ?_
      · exact Rt.sub [] rfl (hJ6 ())
      · refine q_iload_n (pc' := 69) C 2 d_M_topOfDescent_68 rfl rfl ?_
        refine q_iload_n (pc' := 70) C 1 d_M_topOfDescent_69 rfl rfl ?_
        refine q_iconst (pc' := 71) C d_M_topOfDescent_70 ki_1 rfl ?_
        refine q_isub (pc' := 72) C d_M_topOfDescent_71 rfl ?_
        refine q_icmp_ne (tgt := 79) (pc' := 75) C d_M_topOfDescent_72 rfl rfl ?_ ?_
        · refine q_aload_n (pc' := 80) C 0 d_M_topOfDescent_79 rfl rfl ?_
          refine q_iload_n (pc' := 81) C 2 d_M_topOfDescent_80 rfl rfl ?_
          refine q_callVr (fr' := 1) (lo' := 21) (pc' := 84) C FM_altitudeOf lmM_350 d_M_topOfDescent_81 0 jM_0 kM_0 cM0 [.int x4] [] rfl rfl (Nat.le_of_ble_eq_true rfl) ⟨rfl, rfl⟩ (fun x h => cM_altitudeOf _ g hi x1.2 x4 x h) rfl (fun x7 _ => ?_)
          refine q_aload_n (pc' := 85) C 0 d_M_topOfDescent_84 rfl rfl ?_
          refine q_iload_n (pc' := 86) C 2 d_M_topOfDescent_85 rfl rfl ?_
          refine q_iconst (pc' := 87) C d_M_topOfDescent_86 ki_1 rfl ?_
          refine q_iadd (pc' := 88) C d_M_topOfDescent_87 rfl ?_
          refine q_callVr (fr' := 1) (lo' := 21) (pc' := 91) C FM_altitudeOf lmM_350 d_M_topOfDescent_88 0 jM_0 kM_0 cM0 [.int (x4 + (1 : Int32))] [.int x7] rfl rfl (Nat.le_of_ble_eq_true rfl) ⟨rfl, rfl⟩ (fun x h => cM_altitudeOf _ g hi x1.2 (x4 + (1 : Int32)) x h) rfl (fun x8 _ => ?_)
          refine q_isub (pc' := 92) C d_M_topOfDescent_91 rfl ?_
          refine q_i2l (pc' := 93) C d_M_topOfDescent_92 rfl ?_
          refine q_ldc2 (pc' := 96) C lLM_160 d_M_topOfDescent_93 rfl ?_
          refine q_lmul (pc' := 97) C d_M_topOfDescent_96 rfl ?_
          refine q_aload_n (pc' := 98) C 0 d_M_topOfDescent_97 rfl rfl ?_
          refine gM_33 (pc' := 101) C d_M_topOfDescent_98 rfl rfl ?_
          refine q_i2l (pc' := 102) C d_M_topOfDescent_101 rfl ?_
          refine q_guard (fun gx9 => ?_)
          refine q_ldiv (pc' := 103) C gx9 d_M_topOfDescent_102 rfl ?_
          refine q_l2i (pc' := 104) C d_M_topOfDescent_103 rfl ?_
          refine q_let (fun x10 e10 => ?_)
          refine q_topi e10 ?_
          refine q_istore (pc' := 106) (lv' := [(4, .int x10), (0, .ref (g.1 0)), (2, .int x3), (3, .int x4)]) C d_M_topOfDescent_104 (by decide) rfl rfl ?_
          refine q_aload_n (pc' := 107) C 1 d_M_topOfDescent_106 rfl rfl ?_
          refine q_iload_n (pc' := 108) C 3 d_M_topOfDescent_107 rfl rfl ?_
          refine q_callVr (fr' := 0) (lo' := 0) (pc' := 111) C FM_lengthUpTo lmM_520 d_M_topOfDescent_108 0 jM_0 kM_0 cM0 [.int x4] [] rfl rfl (Nat.le_of_ble_eq_true rfl) ⟨rfl, rfl⟩ (fun x h => cM_lengthUpTo _ g hi x1.2 x4 x h) rfl (fun x11 _ => ?_)
          refine q_iconst (pc' := 112) C d_M_topOfDescent_111 ki_0 rfl ?_
          refine q_aload_n (pc' := 113) C 1 d_M_topOfDescent_112 rfl rfl ?_
          refine gM_135 (pc' := 116) C d_M_topOfDescent_113 rfl rfl ?_
          refine q_iload_n (pc' := 117) C 3 d_M_topOfDescent_116 rfl rfl ?_
          refine q_iconst (pc' := 118) C d_M_topOfDescent_117 ki_1 rfl ?_
          refine q_iadd (pc' := 119) C d_M_topOfDescent_118 rfl ?_
          refine q_iald (pc' := 120) C 37 jM_37 kM_37 d_M_topOfDescent_119 rfl ?_
          refine q_iload (pc' := 122) C 0 d_M_topOfDescent_120 rfl rfl ?_
          refine q_isub (pc' := 123) C d_M_topOfDescent_122 rfl ?_
          refine q_callSr (fr' := 0) (lo' := 0) (pc' := 126) C FM_greater lmM_279 d_M_topOfDescent_123 [.int (0 : Int32), .int ((x1.2 37 (Int32.toNatClampNeg (x4 + (1 : Int32)))) - x10)] [.int x11] rfl rfl (Nat.le_of_ble_eq_true rfl) ⟨rfl, rfl⟩ (fun x h => cM_greater _ g hi x1.2 (0 : Int32) ((x1.2 37 (Int32.toNatClampNeg (x4 + (1 : Int32)))) - x10) x h) rfl (fun x12 _ => ?_)
          refine q_iadd (pc' := 127) C d_M_topOfDescent_126 rfl ?_
          exact q_iret C rfl d_M_topOfDescent_127 rfl
        · exact Rt.sub [] rfl (hJ6 ())
    refine Rt.sub [3, 2, 1, 0] rfl (q_lp (fun a13 : Int32 × Int32 => [(0, .ref (g.1 0)), (2, .int x3), (3, .int a13.1), (4, .int a13.2)]) (fun a13 => []) (fun a13 => x1.2) (fun ih14 hih14 a13 => ?_) 4000 ((-1 : Int32), (0 : Int32)))
    unfold lb_m_topOfDescent_27
    refine q_iload (pc' := 29) C 3 d_M_topOfDescent_27 rfl rfl ?_
    refine q_iload_n (pc' := 30) C 1 d_M_topOfDescent_29 rfl rfl ?_
    refine q_icmp_ge (tgt := 64) (pc' := 33) C d_M_topOfDescent_30 rfl rfl ?_ ?_
    · exact Rt.sub [0, 1, 2] rfl (hJ5 a13.1)
    · refine q_iload_n (pc' := 34) C 2 d_M_topOfDescent_33 rfl rfl ?_
      refine q_join (fun J16 : Int32 → Option (Int32 × St) => ∀ (x15 : Int32), Rt z qM_topOfDescent wM g o_w 57 [(0, .ref (g.1 0)), (2, .int x3), (4, .int a13.2)] [.int x15] x1.2 (J16 x15)) (fun x15 => ?_) (fun J16 hJ16 => ?_)
      · refine q_istore_n (pc' := 58) (lv' := [(3, .int x15), (0, .ref (g.1 0)), (2, .int x3), (4, .int a13.2)]) C d_M_topOfDescent_57 (by decide) rfl rfl ?_
        refine q_let (fun x17 e17 => ?_)
        refine q_iinc (pc' := 61) (lv' := [(4, .int x17), (3, .int x15), (0, .ref (g.1 0)), (2, .int x3)]) C 3 d_M_topOfDescent_58 rfl (by rw [e17, ki_1]) (by decide) rfl rfl ?_
        refine q_goto (tgt := 27) C d_M_topOfDescent_61 rfl ?_
        exact Rt.sub [2, 3, 1, 0] rfl (hih14 (x15, x17))
      refine q_join (fun J18 : Unit → Option (Int32 × St) => ∀ (_ : Unit), Rt z qM_topOfDescent wM g o_w 51 [(0, .ref (g.1 0)), (2, .int x3), (4, .int a13.2)] [] x1.2 (J18 ())) (fun _ => ?_) (fun J18 hJ18 => ?_)
      · refine q_iload (pc' := 53) C 2 d_M_topOfDescent_51 rfl rfl ?_
        refine q_goto (tgt := 57) C d_M_topOfDescent_53 rfl ?_
        exact Rt.sub [0, 1, 2] rfl (hJ16 a13.2)
      refine q_if_lt (tgt := 51) (pc' := 37) C d_M_topOfDescent_34 rfl rfl ?_ ?_
      · exact Rt.sub [0, 1, 3] rfl (hJ18 ())
      · refine q_aload_n (pc' := 38) C 0 d_M_topOfDescent_37 rfl rfl ?_
        refine q_iload (pc' := 40) C 3 d_M_topOfDescent_38 rfl rfl ?_
        refine q_callVr (fr' := 1) (lo' := 21) (pc' := 43) C FM_altitudeOf lmM_350 d_M_topOfDescent_40 0 jM_0 kM_0 cM0 [.int a13.2] [] rfl rfl (Nat.le_of_ble_eq_true rfl) ⟨rfl, rfl⟩ (fun x h => cM_altitudeOf _ g hi x1.2 a13.2 x h) rfl (fun x19 _ => ?_)
        refine q_aload_n (pc' := 44) C 0 d_M_topOfDescent_43 rfl rfl ?_
        refine q_iload_n (pc' := 45) C 2 d_M_topOfDescent_44 rfl rfl ?_
        refine q_callVr (fr' := 1) (lo' := 21) (pc' := 48) C FM_altitudeOf lmM_350 d_M_topOfDescent_45 0 jM_0 kM_0 cM0 [.int a13.1] [.int x19] rfl rfl (Nat.le_of_ble_eq_true rfl) ⟨rfl, rfl⟩ (fun x h => cM_altitudeOf _ g hi x1.2 a13.1 x h) rfl (fun x20 _ => ?_)
        refine q_icmp_lt (tgt := 56) (pc' := 51) C d_M_topOfDescent_48 rfl rfl ?_ ?_
        · refine q_iload_n (pc' := 57) C 2 d_M_topOfDescent_56 rfl rfl ?_
          exact Rt.sub [0, 1, 3] rfl (hJ16 a13.1)
        · exact Rt.sub [0, 1, 3] rfl (hJ18 ())
  · refine q_ldcw (pc' := 11) C lcM_493 d_M_topOfDescent_8 rfl ?_
    exact q_iret C rfl d_M_topOfDescent_11 rfl
theorem d_M_gapCount_0 : decode qM_gapCount.1 0 = .ok (.aload_n 0, 1) := by decide +kernel
theorem d_M_gapCount_1 : decode qM_gapCount.1 1 = .ok (.iload_n 1, 1) := by decide +kernel
theorem d_M_gapCount_2 : decode qM_gapCount.1 2 = .ok (.invokevirtual 526, 3) := by decide +kernel
theorem d_M_gapCount_5 : decode qM_gapCount.1 5 = .ok (.ifCond .eq 15, 3) := by decide +kernel
theorem d_M_gapCount_8 : decode qM_gapCount.1 8 = .ok (.aload_n 0, 1) := by decide +kernel
theorem d_M_gapCount_9 : decode qM_gapCount.1 9 = .ok (.aload_n 0, 1) := by decide +kernel
theorem d_M_gapCount_10 : decode qM_gapCount.1 10 = .ok (.iload_n 1, 1) := by decide +kernel
theorem d_M_gapCount_11 : decode qM_gapCount.1 11 = .ok (.invokevirtual 523, 3) := by decide +kernel
theorem d_M_gapCount_14 : decode qM_gapCount.1 14 = .ok (.invokevirtual 506, 3) := by decide +kernel
theorem d_M_gapCount_17 : decode qM_gapCount.1 17 = .ok (.goto 6, 3) := by decide +kernel
theorem d_M_gapCount_20 : decode qM_gapCount.1 20 = .ok (.ldc_w 493, 3) := by decide +kernel
theorem d_M_gapCount_23 : decode qM_gapCount.1 23 = .ok (.ireturn, 1) := by decide +kernel
set_option maxRecDepth 100000 in
def m_gapCount (σ : St) (p1 : Int32) : Option (Int32 × St) :=
  Option.bind (m_isPlan σ p1) fun x1 =>
  Jn (fun (x2 : Int32) =>
  some (x2, x1.2)
  ) fun J3 =>
  if (x1.1 : Int32) = 0 then (
  J3 (-1000001 : Int32)
  ) else (
  Option.bind (m_planOf p1) fun x4 =>
  Option.bind (m_gaps x1.2 x4) fun x5 =>
  J3 x5
  )
set_option maxHeartbeats 4000000 in
set_option maxRecDepth 100000 in
theorem cM_gapCount (l : Launch) (g : Ge) (hi : injB wM.2 g) (σ : St) (p1 : Int32) (x : Int32 × St) (h : m_gapCount σ p1 = some x) : Ct l wM g yM_gapCount qM_gapCount 9 220 [.ref (g.1 0), .int p1] σ (some (.int x.1), x.2) := by
  refine Ct.of (out := o_w) FM_gapCount rfl hi rfl h (fun z hz C => ?_)
  clear h
  subst hz
  unfold m_gapCount
  show Rt z qM_gapCount wM g o_w 0 [(0, .ref (g.1 0)), (1, .int p1)] [] σ _
  refine q_aload_n (pc' := 1) C 0 d_M_gapCount_0 rfl rfl ?_
  refine q_iload_n (pc' := 2) C 1 d_M_gapCount_1 rfl rfl ?_
  refine q_callVw (fr' := 8) (lo' := 199) (pc' := 5) C FM_isPlan lmM_526 d_M_gapCount_2 0 jM_0 kM_0 cM0 [.int p1] [] rfl rfl (Nat.le_of_ble_eq_true rfl) ⟨rfl, rfl⟩ (fun x h => cM_isPlan _ g hi σ p1 x h) rfl (fun x1 _ => ?_)
  refine q_join (fun J3 : Int32 → Option (Int32 × St) => ∀ (x2 : Int32), Rt z qM_gapCount wM g o_w 23 [] [.int x2] x1.2 (J3 x2)) (fun x2 => ?_) (fun J3 hJ3 => ?_)
  · exact q_iret C rfl d_M_gapCount_23 rfl
  refine q_if_eq (tgt := 20) (pc' := 8) C d_M_gapCount_5 rfl rfl ?_ ?_
  · refine q_ldcw (pc' := 23) C lcM_493 d_M_gapCount_20 rfl ?_
    exact Rt.sub [] rfl (hJ3 (-1000001 : Int32))
  · refine q_aload_n (pc' := 9) C 0 d_M_gapCount_8 rfl rfl ?_
    refine q_aload_n (pc' := 10) C 0 d_M_gapCount_9 rfl rfl ?_
    refine q_iload_n (pc' := 11) C 1 d_M_gapCount_10 rfl rfl ?_
    refine q_callVr (fr' := 0) (lo' := 0) (pc' := 14) C FM_planOf lmM_523 d_M_gapCount_11 0 jM_0 kM_0 cM0 [.int p1] [.ref (g.1 0)] rfl rfl (Nat.le_of_ble_eq_true rfl) ⟨rfl, rfl⟩ (fun x h => cM_planOf _ g hi x1.2 p1 x h) rfl (fun x4 _ => ?_)
    refine q_callVr (fr' := 1) (lo' := 21) (pc' := 17) C FM_gaps lmM_506 d_M_gapCount_14 0 jM_0 kM_0 cM0 [.int x4] [] rfl rfl (Nat.le_of_ble_eq_true rfl) ⟨rfl, rfl⟩ (fun x h => cM_gaps _ g hi x1.2 x4 x h) rfl (fun x5 _ => ?_)
    refine q_goto (tgt := 23) C d_M_gapCount_17 rfl ?_
    exact Rt.sub [] rfl (hJ3 x5)
theorem d_M_totalLength_0 : decode qM_totalLength.1 0 = .ok (.aload_n 0, 1) := by decide +kernel
theorem d_M_totalLength_1 : decode qM_totalLength.1 1 = .ok (.iload_n 1, 1) := by decide +kernel
theorem d_M_totalLength_2 : decode qM_totalLength.1 2 = .ok (.invokevirtual 526, 3) := by decide +kernel
theorem d_M_totalLength_5 : decode qM_totalLength.1 5 = .ok (.ifCond .eq 21, 3) := by decide +kernel
theorem d_M_totalLength_8 : decode qM_totalLength.1 8 = .ok (.aload_n 0, 1) := by decide +kernel
theorem d_M_totalLength_9 : decode qM_totalLength.1 9 = .ok (.aload_n 0, 1) := by decide +kernel
theorem d_M_totalLength_10 : decode qM_totalLength.1 10 = .ok (.aload_n 0, 1) := by decide +kernel
theorem d_M_totalLength_11 : decode qM_totalLength.1 11 = .ok (.iload_n 1, 1) := by decide +kernel
theorem d_M_totalLength_12 : decode qM_totalLength.1 12 = .ok (.invokevirtual 523, 3) := by decide +kernel
theorem d_M_totalLength_15 : decode qM_totalLength.1 15 = .ok (.invokevirtual 218, 3) := by decide +kernel
theorem d_M_totalLength_18 : decode qM_totalLength.1 18 = .ok (.iconst 1, 1) := by decide +kernel
theorem d_M_totalLength_19 : decode qM_totalLength.1 19 = .ok (.isub, 1) := by decide +kernel
theorem d_M_totalLength_20 : decode qM_totalLength.1 20 = .ok (.invokevirtual 520, 3) := by decide +kernel
theorem d_M_totalLength_23 : decode qM_totalLength.1 23 = .ok (.goto 6, 3) := by decide +kernel
theorem d_M_totalLength_26 : decode qM_totalLength.1 26 = .ok (.ldc_w 493, 3) := by decide +kernel
theorem d_M_totalLength_29 : decode qM_totalLength.1 29 = .ok (.ireturn, 1) := by decide +kernel
set_option maxRecDepth 100000 in
def m_totalLength (σ : St) (p1 : Int32) : Option (Int32 × St) :=
  Option.bind (m_isPlan σ p1) fun x1 =>
  Jn (fun (x2 : Int32) =>
  some (x2, x1.2)
  ) fun J3 =>
  if (x1.1 : Int32) = 0 then (
  J3 (-1000001 : Int32)
  ) else (
  Option.bind (m_planOf p1) fun x4 =>
  Option.bind (m_count x1.2 x4) fun x5 =>
  Option.bind (m_lengthUpTo x1.2 (x5 - (1 : Int32))) fun x6 =>
  J3 x6
  )
set_option maxHeartbeats 4000000 in
set_option maxRecDepth 100000 in
theorem cM_totalLength (l : Launch) (g : Ge) (hi : injB wM.2 g) (σ : St) (p1 : Int32) (x : Int32 × St) (h : m_totalLength σ p1 = some x) : Ct l wM g yM_totalLength qM_totalLength 9 220 [.ref (g.1 0), .int p1] σ (some (.int x.1), x.2) := by
  refine Ct.of (out := o_w) FM_totalLength rfl hi rfl h (fun z hz C => ?_)
  clear h
  subst hz
  unfold m_totalLength
  show Rt z qM_totalLength wM g o_w 0 [(0, .ref (g.1 0)), (1, .int p1)] [] σ _
  refine q_aload_n (pc' := 1) C 0 d_M_totalLength_0 rfl rfl ?_
  refine q_iload_n (pc' := 2) C 1 d_M_totalLength_1 rfl rfl ?_
  refine q_callVw (fr' := 8) (lo' := 199) (pc' := 5) C FM_isPlan lmM_526 d_M_totalLength_2 0 jM_0 kM_0 cM0 [.int p1] [] rfl rfl (Nat.le_of_ble_eq_true rfl) ⟨rfl, rfl⟩ (fun x h => cM_isPlan _ g hi σ p1 x h) rfl (fun x1 _ => ?_)
  refine q_join (fun J3 : Int32 → Option (Int32 × St) => ∀ (x2 : Int32), Rt z qM_totalLength wM g o_w 29 [] [.int x2] x1.2 (J3 x2)) (fun x2 => ?_) (fun J3 hJ3 => ?_)
  · exact q_iret C rfl d_M_totalLength_29 rfl
  refine q_if_eq (tgt := 26) (pc' := 8) C d_M_totalLength_5 rfl rfl ?_ ?_
  · refine q_ldcw (pc' := 29) C lcM_493 d_M_totalLength_26 rfl ?_
    exact Rt.sub [] rfl (hJ3 (-1000001 : Int32))
  · refine q_aload_n (pc' := 9) C 0 d_M_totalLength_8 rfl rfl ?_
    refine q_aload_n (pc' := 10) C 0 d_M_totalLength_9 rfl rfl ?_
    refine q_aload_n (pc' := 11) C 0 d_M_totalLength_10 rfl rfl ?_
    refine q_iload_n (pc' := 12) C 1 d_M_totalLength_11 rfl rfl ?_
    refine q_callVr (fr' := 0) (lo' := 0) (pc' := 15) C FM_planOf lmM_523 d_M_totalLength_12 0 jM_0 kM_0 cM0 [.int p1] [.ref (g.1 0), .ref (g.1 0)] rfl rfl (Nat.le_of_ble_eq_true rfl) ⟨rfl, rfl⟩ (fun x h => cM_planOf _ g hi x1.2 p1 x h) rfl (fun x4 _ => ?_)
    refine q_callVr (fr' := 0) (lo' := 0) (pc' := 18) C FM_count lmM_218 d_M_totalLength_15 0 jM_0 kM_0 cM0 [.int x4] [.ref (g.1 0)] rfl rfl (Nat.le_of_ble_eq_true rfl) ⟨rfl, rfl⟩ (fun x h => cM_count _ g hi x1.2 x4 x h) rfl (fun x5 _ => ?_)
    refine q_iconst (pc' := 19) C d_M_totalLength_18 ki_1 rfl ?_
    refine q_isub (pc' := 20) C d_M_totalLength_19 rfl ?_
    refine q_callVr (fr' := 0) (lo' := 0) (pc' := 23) C FM_lengthUpTo lmM_520 d_M_totalLength_20 0 jM_0 kM_0 cM0 [.int (x5 - (1 : Int32))] [] rfl rfl (Nat.le_of_ble_eq_true rfl) ⟨rfl, rfl⟩ (fun x h => cM_lengthUpTo _ g hi x1.2 (x5 - (1 : Int32)) x h) rfl (fun x6 _ => ?_)
    refine q_goto (tgt := 29) C d_M_totalLength_23 rfl ?_
    exact Rt.sub [] rfl (hJ3 x6)
theorem d_M_totalTime_0 : decode qM_totalTime.1 0 = .ok (.aload_n 0, 1) := by decide +kernel
theorem d_M_totalTime_1 : decode qM_totalTime.1 1 = .ok (.iload_n 1, 1) := by decide +kernel
theorem d_M_totalTime_2 : decode qM_totalTime.1 2 = .ok (.invokevirtual 526, 3) := by decide +kernel
theorem d_M_totalTime_5 : decode qM_totalTime.1 5 = .ok (.ifCond .ne 7, 3) := by decide +kernel
theorem d_M_totalTime_8 : decode qM_totalTime.1 8 = .ok (.ldc_w 493, 3) := by decide +kernel
theorem d_M_totalTime_11 : decode qM_totalTime.1 11 = .ok (.ireturn, 1) := by decide +kernel
theorem d_M_totalTime_12 : decode qM_totalTime.1 12 = .ok (.iconst 0, 1) := by decide +kernel
theorem d_M_totalTime_13 : decode qM_totalTime.1 13 = .ok (.istore_n 2, 1) := by decide +kernel
theorem d_M_totalTime_14 : decode qM_totalTime.1 14 = .ok (.iconst 0, 1) := by decide +kernel
theorem d_M_totalTime_15 : decode qM_totalTime.1 15 = .ok (.istore_n 3, 1) := by decide +kernel
theorem d_M_totalTime_16 : decode qM_totalTime.1 16 = .ok (.iload_n 3, 1) := by decide +kernel
theorem d_M_totalTime_17 : decode qM_totalTime.1 17 = .ok (.aload_n 0, 1) := by decide +kernel
theorem d_M_totalTime_18 : decode qM_totalTime.1 18 = .ok (.aload_n 0, 1) := by decide +kernel
theorem d_M_totalTime_19 : decode qM_totalTime.1 19 = .ok (.iload_n 1, 1) := by decide +kernel
theorem d_M_totalTime_20 : decode qM_totalTime.1 20 = .ok (.invokevirtual 523, 3) := by decide +kernel
theorem d_M_totalTime_23 : decode qM_totalTime.1 23 = .ok (.invokevirtual 218, 3) := by decide +kernel
theorem d_M_totalTime_26 : decode qM_totalTime.1 26 = .ok (.if_icmp .ge 18, 3) := by decide +kernel
theorem d_M_totalTime_29 : decode qM_totalTime.1 29 = .ok (.iload_n 2, 1) := by decide +kernel
theorem d_M_totalTime_30 : decode qM_totalTime.1 30 = .ok (.aload_n 0, 1) := by decide +kernel
theorem d_M_totalTime_31 : decode qM_totalTime.1 31 = .ok (.getfield 138, 3) := by decide +kernel
theorem d_M_totalTime_34 : decode qM_totalTime.1 34 = .ok (.iload_n 3, 1) := by decide +kernel
theorem d_M_totalTime_35 : decode qM_totalTime.1 35 = .ok (.iaload, 1) := by decide +kernel
theorem d_M_totalTime_36 : decode qM_totalTime.1 36 = .ok (.iadd, 1) := by decide +kernel
theorem d_M_totalTime_37 : decode qM_totalTime.1 37 = .ok (.istore_n 2, 1) := by decide +kernel
theorem d_M_totalTime_38 : decode qM_totalTime.1 38 = .ok (.iinc 3 1, 3) := by decide +kernel
theorem d_M_totalTime_41 : decode qM_totalTime.1 41 = .ok (.goto (-25), 3) := by decide +kernel
theorem d_M_totalTime_44 : decode qM_totalTime.1 44 = .ok (.iload_n 2, 1) := by decide +kernel
theorem d_M_totalTime_45 : decode qM_totalTime.1 45 = .ok (.ireturn, 1) := by decide +kernel
set_option maxRecDepth 100000 in
def lb_m_totalTime_16 (p1 : Int32) (x1 : Int32 × St) (J3 : Int32 → Option (Int32 × St)) (ih5 : Int32 × Int32 → Option (Int32 × St)) (a4 : Int32 × Int32) : Option (Int32 × St) :=
  Option.bind (m_planOf p1) fun x6 =>
  Option.bind (m_count x1.2 x6) fun x7 =>
  if (x7 : Int32) ≤ a4.2 then (
  J3 a4.1
  ) else (
  Gd (Ix a4.2 21) <|
  Lt ((a4.1 + (x1.2 38 (Int32.toNatClampNeg a4.2))) : Int32) fun x8 =>
  Lt (a4.2 + (1 : Int32) : Int32) fun x9 =>
  ih5 (x8, x9)
  )
set_option maxRecDepth 100000 in
def m_totalTime (σ : St) (p1 : Int32) : Option (Int32 × St) :=
  Option.bind (m_isPlan σ p1) fun x1 =>
  if (x1.1 : Int32) = 0 then (
  some ((-1000001 : Int32), x1.2)
  ) else (
  Jn (fun (x2 : Int32) =>
  some (x2, x1.2)
  ) fun J3 =>
  lp (lb_m_totalTime_16 p1 x1 J3) 4000 ((0 : Int32), (0 : Int32))
  )
set_option maxHeartbeats 4000000 in
set_option maxRecDepth 100000 in
theorem cM_totalTime (l : Launch) (g : Ge) (hi : injB wM.2 g) (σ : St) (p1 : Int32) (x : Int32 × St) (h : m_totalTime σ p1 = some x) : Ct l wM g yM_totalTime qM_totalTime 9 220 [.ref (g.1 0), .int p1] σ (some (.int x.1), x.2) := by
  refine Ct.of (out := o_w) FM_totalTime rfl hi rfl h (fun z hz C => ?_)
  clear h
  subst hz
  unfold m_totalTime
  show Rt z qM_totalTime wM g o_w 0 [(0, .ref (g.1 0)), (1, .int p1)] [] σ _
  refine q_aload_n (pc' := 1) C 0 d_M_totalTime_0 rfl rfl ?_
  refine q_iload_n (pc' := 2) C 1 d_M_totalTime_1 rfl rfl ?_
  refine q_callVw (fr' := 8) (lo' := 199) (pc' := 5) C FM_isPlan lmM_526 d_M_totalTime_2 0 jM_0 kM_0 cM0 [.int p1] [] rfl rfl (Nat.le_of_ble_eq_true rfl) ⟨rfl, rfl⟩ (fun x h => cM_isPlan _ g hi σ p1 x h) rfl (fun x1 _ => ?_)
  refine q_if_ne (tgt := 12) (pc' := 8) C d_M_totalTime_5 rfl rfl ?_ ?_
  · refine q_iconst (pc' := 13) C d_M_totalTime_12 ki_0 rfl ?_
    refine q_istore_n (pc' := 14) (lv' := [(2, .int (0 : Int32)), (0, .ref (g.1 0)), (1, .int p1)]) C d_M_totalTime_13 (by decide) rfl rfl ?_
    refine q_iconst (pc' := 15) C d_M_totalTime_14 ki_0 rfl ?_
    refine q_istore_n (pc' := 16) (lv' := [(3, .int (0 : Int32)), (2, .int (0 : Int32)), (0, .ref (g.1 0)), (1, .int p1)]) C d_M_totalTime_15 (by decide) rfl rfl ?_
    refine q_join (fun J3 : Int32 → Option (Int32 × St) => ∀ (x2 : Int32), Rt z qM_totalTime wM g o_w 44 [(2, .int x2)] [] x1.2 (J3 x2)) (fun x2 => ?_) (fun J3 hJ3 => ?_)
    · refine q_iload_n (pc' := 45) C 0 d_M_totalTime_44 rfl rfl ?_
      exact q_iret C rfl d_M_totalTime_45 rfl
    refine Rt.sub [2, 3, 1, 0] rfl (q_lp (fun a4 : Int32 × Int32 => [(0, .ref (g.1 0)), (1, .int p1), (2, .int a4.1), (3, .int a4.2)]) (fun a4 => []) (fun a4 => x1.2) (fun ih5 hih5 a4 => ?_) 4000 ((0 : Int32), (0 : Int32)))
    unfold lb_m_totalTime_16
    refine q_iload_n (pc' := 17) C 3 d_M_totalTime_16 rfl rfl ?_
    refine q_aload_n (pc' := 18) C 0 d_M_totalTime_17 rfl rfl ?_
    refine q_aload_n (pc' := 19) C 0 d_M_totalTime_18 rfl rfl ?_
    refine q_iload_n (pc' := 20) C 1 d_M_totalTime_19 rfl rfl ?_
    refine q_callVr (fr' := 0) (lo' := 0) (pc' := 23) C FM_planOf lmM_523 d_M_totalTime_20 0 jM_0 kM_0 cM0 [.int p1] [.ref (g.1 0), .int a4.2] rfl rfl (Nat.le_of_ble_eq_true rfl) ⟨rfl, rfl⟩ (fun x h => cM_planOf _ g hi x1.2 p1 x h) rfl (fun x6 _ => ?_)
    refine q_callVr (fr' := 0) (lo' := 0) (pc' := 26) C FM_count lmM_218 d_M_totalTime_23 0 jM_0 kM_0 cM0 [.int x6] [.int a4.2] rfl rfl (Nat.le_of_ble_eq_true rfl) ⟨rfl, rfl⟩ (fun x h => cM_count _ g hi x1.2 x6 x h) rfl (fun x7 _ => ?_)
    refine q_icmp_ge (tgt := 44) (pc' := 29) C d_M_totalTime_26 rfl rfl ?_ ?_
    · exact Rt.sub [2] rfl (hJ3 a4.1)
    · refine q_iload_n (pc' := 30) C 2 d_M_totalTime_29 rfl rfl ?_
      refine q_aload_n (pc' := 31) C 0 d_M_totalTime_30 rfl rfl ?_
      refine gM_138 (pc' := 34) C d_M_totalTime_31 rfl rfl ?_
      refine q_iload_n (pc' := 35) C 3 d_M_totalTime_34 rfl rfl ?_
      refine q_iald (pc' := 36) C 38 jM_38 kM_38 d_M_totalTime_35 rfl ?_
      refine q_iadd (pc' := 37) C d_M_totalTime_36 rfl ?_
      refine q_let (fun x8 e8 => ?_)
      refine q_topi e8 ?_
      refine q_istore_n (pc' := 38) (lv' := [(2, .int x8), (0, .ref (g.1 0)), (1, .int p1), (3, .int a4.2)]) C d_M_totalTime_37 (by decide) rfl rfl ?_
      refine q_let (fun x9 e9 => ?_)
      refine q_iinc (pc' := 41) (lv' := [(3, .int x9), (2, .int x8), (0, .ref (g.1 0)), (1, .int p1)]) C 3 d_M_totalTime_38 rfl (by rw [e9, ki_1]) (by decide) rfl rfl ?_
      refine q_goto (tgt := 16) C d_M_totalTime_41 rfl ?_
      exact Rt.sub [2, 3, 1, 0] rfl (hih5 (x8, x9))
  · refine q_ldcw (pc' := 11) C lcM_493 d_M_totalTime_8 rfl ?_
    exact q_iret C rfl d_M_totalTime_11 rfl
theorem d_M_violationCount_0 : decode qM_violationCount.1 0 = .ok (.aload_n 0, 1) := by decide +kernel
theorem d_M_violationCount_1 : decode qM_violationCount.1 1 = .ok (.iload_n 1, 1) := by decide +kernel
theorem d_M_violationCount_2 : decode qM_violationCount.1 2 = .ok (.invokevirtual 526, 3) := by decide +kernel
theorem d_M_violationCount_5 : decode qM_violationCount.1 5 = .ok (.ifCond .eq 15, 3) := by decide +kernel
theorem d_M_violationCount_8 : decode qM_violationCount.1 8 = .ok (.aload_n 0, 1) := by decide +kernel
theorem d_M_violationCount_9 : decode qM_violationCount.1 9 = .ok (.aload_n 0, 1) := by decide +kernel
theorem d_M_violationCount_10 : decode qM_violationCount.1 10 = .ok (.iload_n 1, 1) := by decide +kernel
theorem d_M_violationCount_11 : decode qM_violationCount.1 11 = .ok (.invokevirtual 523, 3) := by decide +kernel
theorem d_M_violationCount_14 : decode qM_violationCount.1 14 = .ok (.invokevirtual 509, 3) := by decide +kernel
theorem d_M_violationCount_17 : decode qM_violationCount.1 17 = .ok (.goto 6, 3) := by decide +kernel
theorem d_M_violationCount_20 : decode qM_violationCount.1 20 = .ok (.ldc_w 493, 3) := by decide +kernel
theorem d_M_violationCount_23 : decode qM_violationCount.1 23 = .ok (.ireturn, 1) := by decide +kernel
set_option maxRecDepth 100000 in
def m_violationCount (σ : St) (p1 : Int32) : Option (Int32 × St) :=
  Option.bind (m_isPlan σ p1) fun x1 =>
  Jn (fun (x2 : Int32) =>
  some (x2, x1.2)
  ) fun J3 =>
  if (x1.1 : Int32) = 0 then (
  J3 (-1000001 : Int32)
  ) else (
  Option.bind (m_planOf p1) fun x4 =>
  Option.bind (m_violations x1.2 x4) fun x5 =>
  J3 x5
  )
set_option maxHeartbeats 4000000 in
set_option maxRecDepth 100000 in
theorem cM_violationCount (l : Launch) (g : Ge) (hi : injB wM.2 g) (σ : St) (p1 : Int32) (x : Int32 × St) (h : m_violationCount σ p1 = some x) : Ct l wM g yM_violationCount qM_violationCount 9 220 [.ref (g.1 0), .int p1] σ (some (.int x.1), x.2) := by
  refine Ct.of (out := o_w) FM_violationCount rfl hi rfl h (fun z hz C => ?_)
  clear h
  subst hz
  unfold m_violationCount
  show Rt z qM_violationCount wM g o_w 0 [(0, .ref (g.1 0)), (1, .int p1)] [] σ _
  refine q_aload_n (pc' := 1) C 0 d_M_violationCount_0 rfl rfl ?_
  refine q_iload_n (pc' := 2) C 1 d_M_violationCount_1 rfl rfl ?_
  refine q_callVw (fr' := 8) (lo' := 199) (pc' := 5) C FM_isPlan lmM_526 d_M_violationCount_2 0 jM_0 kM_0 cM0 [.int p1] [] rfl rfl (Nat.le_of_ble_eq_true rfl) ⟨rfl, rfl⟩ (fun x h => cM_isPlan _ g hi σ p1 x h) rfl (fun x1 _ => ?_)
  refine q_join (fun J3 : Int32 → Option (Int32 × St) => ∀ (x2 : Int32), Rt z qM_violationCount wM g o_w 23 [] [.int x2] x1.2 (J3 x2)) (fun x2 => ?_) (fun J3 hJ3 => ?_)
  · exact q_iret C rfl d_M_violationCount_23 rfl
  refine q_if_eq (tgt := 20) (pc' := 8) C d_M_violationCount_5 rfl rfl ?_ ?_
  · refine q_ldcw (pc' := 23) C lcM_493 d_M_violationCount_20 rfl ?_
    exact Rt.sub [] rfl (hJ3 (-1000001 : Int32))
  · refine q_aload_n (pc' := 9) C 0 d_M_violationCount_8 rfl rfl ?_
    refine q_aload_n (pc' := 10) C 0 d_M_violationCount_9 rfl rfl ?_
    refine q_iload_n (pc' := 11) C 1 d_M_violationCount_10 rfl rfl ?_
    refine q_callVr (fr' := 0) (lo' := 0) (pc' := 14) C FM_planOf lmM_523 d_M_violationCount_11 0 jM_0 kM_0 cM0 [.int p1] [.ref (g.1 0)] rfl rfl (Nat.le_of_ble_eq_true rfl) ⟨rfl, rfl⟩ (fun x h => cM_planOf _ g hi x1.2 p1 x h) rfl (fun x4 _ => ?_)
    refine q_callVr (fr' := 4) (lo' := 88) (pc' := 17) C FM_violations lmM_509 d_M_violationCount_14 0 jM_0 kM_0 cM0 [.int x4] [] rfl rfl (Nat.le_of_ble_eq_true rfl) ⟨rfl, rfl⟩ (fun x h => cM_violations _ g hi x1.2 x4 x h) rfl (fun x5 _ => ?_)
    refine q_goto (tgt := 23) C d_M_violationCount_17 rfl ?_
    exact Rt.sub [] rfl (hJ3 x5)
