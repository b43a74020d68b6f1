/-! the reference, methods 4 -/
theorem d_M_laysTotals_0 : decode qM_laysTotals.1 0 = .ok (.iconst 0, 1) := by decide +kernel
theorem d_M_laysTotals_1 : decode qM_laysTotals.1 1 = .ok (.istore_n 2, 1) := by decide +kernel
theorem d_M_laysTotals_2 : decode qM_laysTotals.1 2 = .ok (.iload_n 2, 1) := by decide +kernel
theorem d_M_laysTotals_3 : decode qM_laysTotals.1 3 = .ok (.aload_n 0, 1) := by decide +kernel
theorem d_M_laysTotals_4 : decode qM_laysTotals.1 4 = .ok (.iload_n 1, 1) := by decide +kernel
theorem d_M_laysTotals_5 : decode qM_laysTotals.1 5 = .ok (.invokevirtual 218, 3) := by decide +kernel
theorem d_M_laysTotals_8 : decode qM_laysTotals.1 8 = .ok (.if_icmp .ge 23, 3) := by decide +kernel
theorem d_M_laysTotals_11 : decode qM_laysTotals.1 11 = .ok (.aload_n 0, 1) := by decide +kernel
theorem d_M_laysTotals_12 : decode qM_laysTotals.1 12 = .ok (.getfield 135, 3) := by decide +kernel
theorem d_M_laysTotals_15 : decode qM_laysTotals.1 15 = .ok (.iload_n 2, 1) := by decide +kernel
theorem d_M_laysTotals_16 : decode qM_laysTotals.1 16 = .ok (.iconst 0, 1) := by decide +kernel
theorem d_M_laysTotals_17 : decode qM_laysTotals.1 17 = .ok (.iastore, 1) := by decide +kernel
theorem d_M_laysTotals_18 : decode qM_laysTotals.1 18 = .ok (.aload_n 0, 1) := by decide +kernel
theorem d_M_laysTotals_19 : decode qM_laysTotals.1 19 = .ok (.getfield 138, 3) := by decide +kernel
theorem d_M_laysTotals_22 : decode qM_laysTotals.1 22 = .ok (.iload_n 2, 1) := by decide +kernel
theorem d_M_laysTotals_23 : decode qM_laysTotals.1 23 = .ok (.iconst 0, 1) := by decide +kernel
theorem d_M_laysTotals_24 : decode qM_laysTotals.1 24 = .ok (.iastore, 1) := by decide +kernel
theorem d_M_laysTotals_25 : decode qM_laysTotals.1 25 = .ok (.iinc 2 1, 3) := by decide +kernel
theorem d_M_laysTotals_28 : decode qM_laysTotals.1 28 = .ok (.goto (-26), 3) := by decide +kernel
theorem d_M_laysTotals_31 : decode qM_laysTotals.1 31 = .ok (.iconst 0, 1) := by decide +kernel
theorem d_M_laysTotals_32 : decode qM_laysTotals.1 32 = .ok (.istore_n 2, 1) := by decide +kernel
theorem d_M_laysTotals_33 : decode qM_laysTotals.1 33 = .ok (.iload_n 2, 1) := by decide +kernel
theorem d_M_laysTotals_34 : decode qM_laysTotals.1 34 = .ok (.aload_n 0, 1) := by decide +kernel
theorem d_M_laysTotals_35 : decode qM_laysTotals.1 35 = .ok (.getfield 289, 3) := by decide +kernel
theorem d_M_laysTotals_38 : decode qM_laysTotals.1 38 = .ok (.if_icmp .ge 89, 3) := by decide +kernel
theorem d_M_laysTotals_41 : decode qM_laysTotals.1 41 = .ok (.aload_n 0, 1) := by decide +kernel
theorem d_M_laysTotals_42 : decode qM_laysTotals.1 42 = .ok (.getfield 111, 3) := by decide +kernel
theorem d_M_laysTotals_45 : decode qM_laysTotals.1 45 = .ok (.iload_n 2, 1) := by decide +kernel
theorem d_M_laysTotals_46 : decode qM_laysTotals.1 46 = .ok (.iaload, 1) := by decide +kernel
theorem d_M_laysTotals_47 : decode qM_laysTotals.1 47 = .ok (.istore_n 3, 1) := by decide +kernel
theorem d_M_laysTotals_48 : decode qM_laysTotals.1 48 = .ok (.aload_n 0, 1) := by decide +kernel
theorem d_M_laysTotals_49 : decode qM_laysTotals.1 49 = .ok (.getfield 114, 3) := by decide +kernel
theorem d_M_laysTotals_52 : decode qM_laysTotals.1 52 = .ok (.iload_n 2, 1) := by decide +kernel
theorem d_M_laysTotals_53 : decode qM_laysTotals.1 53 = .ok (.iaload, 1) := by decide +kernel
theorem d_M_laysTotals_54 : decode qM_laysTotals.1 54 = .ok (.iconst 2, 1) := by decide +kernel
theorem d_M_laysTotals_55 : decode qM_laysTotals.1 55 = .ok (.if_icmp .ne 12, 3) := by decide +kernel
theorem d_M_laysTotals_58 : decode qM_laysTotals.1 58 = .ok (.aload_n 0, 1) := by decide +kernel
theorem d_M_laysTotals_59 : decode qM_laysTotals.1 59 = .ok (.iload_n 1, 1) := by decide +kernel
theorem d_M_laysTotals_60 : decode qM_laysTotals.1 60 = .ok (.iload_n 3, 1) := by decide +kernel
theorem d_M_laysTotals_61 : decode qM_laysTotals.1 61 = .ok (.invokevirtual 276, 3) := by decide +kernel
theorem d_M_laysTotals_64 : decode qM_laysTotals.1 64 = .ok (.goto 15, 3) := by decide +kernel
theorem d_M_laysTotals_67 : decode qM_laysTotals.1 67 = .ok (.aload_n 0, 1) := by decide +kernel
theorem d_M_laysTotals_68 : decode qM_laysTotals.1 68 = .ok (.iload_n 1, 1) := by decide +kernel
theorem d_M_laysTotals_69 : decode qM_laysTotals.1 69 = .ok (.iload_n 3, 1) := by decide +kernel
theorem d_M_laysTotals_70 : decode qM_laysTotals.1 70 = .ok (.aload_n 0, 1) := by decide +kernel
theorem d_M_laysTotals_71 : decode qM_laysTotals.1 71 = .ok (.getfield 120, 3) := by decide +kernel
theorem d_M_laysTotals_74 : decode qM_laysTotals.1 74 = .ok (.iload_n 2, 1) := by decide +kernel
theorem d_M_laysTotals_75 : decode qM_laysTotals.1 75 = .ok (.iaload, 1) := by decide +kernel
theorem d_M_laysTotals_76 : decode qM_laysTotals.1 76 = .ok (.invokevirtual 282, 3) := by decide +kernel
theorem d_M_laysTotals_79 : decode qM_laysTotals.1 79 = .ok (.istore 4, 2) := by decide +kernel
theorem d_M_laysTotals_81 : decode qM_laysTotals.1 81 = .ok (.aload_n 0, 1) := by decide +kernel
theorem d_M_laysTotals_82 : decode qM_laysTotals.1 82 = .ok (.getfield 135, 3) := by decide +kernel
theorem d_M_laysTotals_85 : decode qM_laysTotals.1 85 = .ok (.iload_n 3, 1) := by decide +kernel
theorem d_M_laysTotals_86 : decode qM_laysTotals.1 86 = .ok (.dup2, 1) := by decide +kernel
theorem d_M_laysTotals_87 : decode qM_laysTotals.1 87 = .ok (.iaload, 1) := by decide +kernel
theorem d_M_laysTotals_88 : decode qM_laysTotals.1 88 = .ok (.aload_n 0, 1) := by decide +kernel
theorem d_M_laysTotals_89 : decode qM_laysTotals.1 89 = .ok (.getfield 117, 3) := by decide +kernel
theorem d_M_laysTotals_92 : decode qM_laysTotals.1 92 = .ok (.iload_n 2, 1) := by decide +kernel
theorem d_M_laysTotals_93 : decode qM_laysTotals.1 93 = .ok (.iaload, 1) := by decide +kernel
theorem d_M_laysTotals_94 : decode qM_laysTotals.1 94 = .ok (.iadd, 1) := by decide +kernel
theorem d_M_laysTotals_95 : decode qM_laysTotals.1 95 = .ok (.iastore, 1) := by decide +kernel
theorem d_M_laysTotals_96 : decode qM_laysTotals.1 96 = .ok (.aload_n 0, 1) := by decide +kernel
theorem d_M_laysTotals_97 : decode qM_laysTotals.1 97 = .ok (.getfield 138, 3) := by decide +kernel
theorem d_M_laysTotals_100 : decode qM_laysTotals.1 100 = .ok (.iload_n 3, 1) := by decide +kernel
theorem d_M_laysTotals_101 : decode qM_laysTotals.1 101 = .ok (.dup2, 1) := by decide +kernel
theorem d_M_laysTotals_102 : decode qM_laysTotals.1 102 = .ok (.iaload, 1) := by decide +kernel
theorem d_M_laysTotals_103 : decode qM_laysTotals.1 103 = .ok (.aload_n 0, 1) := by decide +kernel
theorem d_M_laysTotals_104 : decode qM_laysTotals.1 104 = .ok (.getfield 117, 3) := by decide +kernel
theorem d_M_laysTotals_107 : decode qM_laysTotals.1 107 = .ok (.iload_n 2, 1) := by decide +kernel
theorem d_M_laysTotals_108 : decode qM_laysTotals.1 108 = .ok (.iaload, 1) := by decide +kernel
theorem d_M_laysTotals_109 : decode qM_laysTotals.1 109 = .ok (.i2l, 1) := by decide +kernel
theorem d_M_laysTotals_110 : decode qM_laysTotals.1 110 = .ok (.ldc2_w 323, 3) := by decide +kernel
theorem d_M_laysTotals_113 : decode qM_laysTotals.1 113 = .ok (.lmul, 1) := by decide +kernel
theorem d_M_laysTotals_114 : decode qM_laysTotals.1 114 = .ok (.iload 4, 2) := by decide +kernel
theorem d_M_laysTotals_116 : decode qM_laysTotals.1 116 = .ok (.i2l, 1) := by decide +kernel
theorem d_M_laysTotals_117 : decode qM_laysTotals.1 117 = .ok (.ldiv, 1) := by decide +kernel
theorem d_M_laysTotals_118 : decode qM_laysTotals.1 118 = .ok (.l2i, 1) := by decide +kernel
theorem d_M_laysTotals_119 : decode qM_laysTotals.1 119 = .ok (.iadd, 1) := by decide +kernel
theorem d_M_laysTotals_120 : decode qM_laysTotals.1 120 = .ok (.iastore, 1) := by decide +kernel
theorem d_M_laysTotals_121 : decode qM_laysTotals.1 121 = .ok (.iinc 2 1, 3) := by decide +kernel
theorem d_M_laysTotals_124 : decode qM_laysTotals.1 124 = .ok (.goto (-91), 3) := by decide +kernel
theorem d_M_laysTotals_127 : decode qM_laysTotals.1 127 = .ok (.return_, 1) := by decide +kernel
set_option maxRecDepth 100000 in
def lb_m_laysTotals_33 (p1 : Int32) (J4 : St → Option (St)) (ih6 : Int32 × St → Option (St)) (a5 : Int32 × St) : Option (St) :=
  if ((a5.2 0 57) : Int32) ≤ a5.1 then (
  J4 a5.2
  ) else (
  Gd (Ix a5.1 180) <|
  Lt ((a5.2 29 (Int32.toNatClampNeg a5.1)) : Int32) fun x7 =>
  Gd (Ix a5.1 180) <|
  Jn (fun (x8 : Int32) =>
  Gd (Ix x7 21) <|
  Gd (Ix a5.1 180) <|
  Gd (Ix x7 21) <|
  Lt (s2 a5.2 37 (Int32.toNatClampNeg x7) ((a5.2 37 (Int32.toNatClampNeg x7)) + (a5.2 31 (Int32.toNatClampNeg a5.1)))) fun σ10 =>
  Gd (Ix x7 21) <|
  Gd (Ix a5.1 180) <|
  Gd (¬ ((Int32.toInt64 x8) : Int64) = 0) <|
  Gd (Ix x7 21) <|
  Lt (s2 σ10 38 (Int32.toNatClampNeg x7) ((σ10 38 (Int32.toNatClampNeg x7)) + (Int64.toInt32 (((Int32.toInt64 (σ10 31 (Int32.toNatClampNeg a5.1))) * (360 : Int64)) / (Int32.toInt64 x8))))) fun σ12 =>
  Lt (a5.1 + (1 : Int32) : Int32) fun x13 =>
  ih6 (x13, σ12)
  ) fun J9 =>
  if ((a5.2 30 (Int32.toNatClampNeg a5.1)) : Int32) = (2 : Int32) then (
  Option.bind (m_airspeed a5.2 p1 x7) fun x15 =>
  J9 x15
  ) else (
  Gd (Ix a5.1 180) <|
  Option.bind (m_groundSpeed a5.2 p1 x7 (a5.2 32 (Int32.toNatClampNeg a5.1))) fun x14 =>
  J9 x14
  )
  )
set_option maxRecDepth 100000 in
def lb_m_laysTotals_2 (p1 : Int32) (J2 : St → Option (St)) (ih17 : Int32 × St → Option (St)) (a16 : Int32 × St) : Option (St) :=
  Option.bind (m_count a16.2 p1) fun x18 =>
  if (x18 : Int32) ≤ a16.1 then (
  J2 a16.2
  ) else (
  Gd (Ix a16.1 21) <|
  Lt (s2 a16.2 37 (Int32.toNatClampNeg a16.1) (0 : Int32)) fun σ19 =>
  Gd (Ix a16.1 21) <|
  Lt (s2 σ19 38 (Int32.toNatClampNeg a16.1) (0 : Int32)) fun σ20 =>
  Lt (a16.1 + (1 : Int32) : Int32) fun x21 =>
  ih17 (x21, σ20)
  )
set_option maxRecDepth 100000 in
def m_laysTotals (σ : St) (p1 : Int32) : Option (St) :=
  Jn (fun (σ1 : St) =>
  Jn (fun (σ3 : St) =>
  some σ3
  ) fun J4 =>
  lp (lb_m_laysTotals_33 p1 J4) 4000 ((0 : Int32), σ1)
  ) fun J2 =>
  lp (lb_m_laysTotals_2 p1 J2) 4000 ((0 : Int32), σ)
set_option maxHeartbeats 4000000 in
set_option maxRecDepth 100000 in
theorem cM_laysTotals (l : Launch) (g : Ge) (hi : injB wM.2 g) (σ : St) (p1 : Int32) (x : St) (h : m_laysTotals σ p1 = some x) : Ct l wM g yM_laysTotals qM_laysTotals 3 70 [.ref (g.1 0), .int p1] σ (none, x) := by
  refine Ct.of (out := o_v) FM_laysTotals rfl hi rfl h (fun z hz C => ?_)
  clear h
  subst hz
  unfold m_laysTotals
  show Rt z qM_laysTotals wM g o_v 0 [(0, .ref (g.1 0)), (1, .int p1)] [] σ _
  refine q_iconst (pc' := 1) C d_M_laysTotals_0 ki_0 rfl ?_
  refine q_istore_n (pc' := 2) (lv' := [(2, .int (0 : Int32)), (0, .ref (g.1 0)), (1, .int p1)]) C d_M_laysTotals_1 (by decide) rfl rfl ?_
  refine q_join (fun J2 : St → Option (St) => ∀ (σ1 : St), Rt z qM_laysTotals wM g o_v 31 [(0, .ref (g.1 0)), (1, .int p1)] [] σ1 (J2 σ1)) (fun σ1 => ?_) (fun J2 hJ2 => ?_)
  · refine q_iconst (pc' := 32) C d_M_laysTotals_31 ki_0 rfl ?_
    refine q_istore_n (pc' := 33) (lv' := [(2, .int (0 : Int32)), (0, .ref (g.1 0)), (1, .int p1)]) C d_M_laysTotals_32 (by decide) rfl rfl ?_
    refine q_join (fun J4 : St → Option (St) => ∀ (σ3 : St), Rt z qM_laysTotals wM g o_v 127 [] [] σ3 (J4 σ3)) (fun σ3 => ?_) (fun J4 hJ4 => ?_)
    · exact q_vret C rfl d_M_laysTotals_127 rfl
    refine Rt.sub [1, 2, 0] rfl (q_lp (fun a5 : Int32 × St => [(0, .ref (g.1 0)), (1, .int p1), (2, .int a5.1)]) (fun a5 => []) (fun a5 => a5.2) (fun ih6 hih6 a5 => ?_) 4000 ((0 : Int32), σ1))
    unfold lb_m_laysTotals_33
    refine q_iload_n (pc' := 34) C 2 d_M_laysTotals_33 rfl rfl ?_
    refine q_aload_n (pc' := 35) C 0 d_M_laysTotals_34 rfl rfl ?_
    refine gM_289 (pc' := 38) C d_M_laysTotals_35 rfl rfl ?_
    refine q_icmp_ge (tgt := 127) (pc' := 41) C d_M_laysTotals_38 rfl rfl ?_ ?_
    · exact Rt.sub [] rfl (hJ4 a5.2)
    · refine q_aload_n (pc' := 42) C 0 d_M_laysTotals_41 rfl rfl ?_
      refine gM_111 (pc' := 45) C d_M_laysTotals_42 rfl rfl ?_
      refine q_iload_n (pc' := 46) C 2 d_M_laysTotals_45 rfl rfl ?_
      refine q_iald (pc' := 47) C 29 jM_29 kM_29 d_M_laysTotals_46 rfl ?_
      refine q_let (fun x7 e7 => ?_)
      refine q_topi e7 ?_
      refine q_istore_n (pc' := 48) (lv' := [(3, .int x7), (0, .ref (g.1 0)), (1, .int p1), (2, .int a5.1)]) C d_M_laysTotals_47 (by decide) rfl rfl ?_
      refine q_aload_n (pc' := 49) C 1 d_M_laysTotals_48 rfl rfl ?_
      refine gM_114 (pc' := 52) C d_M_laysTotals_49 rfl rfl ?_
      refine q_iload_n (pc' := 53) C 3 d_M_laysTotals_52 rfl rfl ?_
      refine q_iald (pc' := 54) C 30 jM_30 kM_30 d_M_laysTotals_53 rfl ?_
      refine q_iconst (pc' := 55) C d_M_laysTotals_54 ki_2 rfl ?_
      refine q_join (fun J9 : Int32 → Option (St) => ∀ (x8 : Int32), Rt z qM_laysTotals wM g o_v 79 [(0, .ref (g.1 0)), (1, .int p1), (2, .int a5.1), (3, .int x7)] [.int x8] a5.2 (J9 x8)) (fun x8 => ?_) (fun J9 hJ9 => ?_)
      · refine q_istore (pc' := 81) (lv' := [(4, .int x8), (0, .ref (g.1 0)), (1, .int p1), (2, .int a5.1), (3, .int x7)]) C d_M_laysTotals_79 (by decide) rfl rfl ?_
        refine q_aload_n (pc' := 82) C 1 d_M_laysTotals_81 rfl rfl ?_
        refine gM_135 (pc' := 85) C d_M_laysTotals_82 rfl rfl ?_
        refine q_iload_n (pc' := 86) C 4 d_M_laysTotals_85 rfl rfl ?_
        refine q_dup2 (pc' := 87) C d_M_laysTotals_86 rfl rfl rfl ?_
        refine q_iald (pc' := 88) C 37 jM_37 kM_37 d_M_laysTotals_87 rfl ?_
        refine q_aload_n (pc' := 89) C 1 d_M_laysTotals_88 rfl rfl ?_
        refine gM_117 (pc' := 92) C d_M_laysTotals_89 rfl rfl ?_
        refine q_iload_n (pc' := 93) C 3 d_M_laysTotals_92 rfl rfl ?_
        refine q_iald (pc' := 94) C 31 jM_31 kM_31 d_M_laysTotals_93 rfl ?_
        refine q_iadd (pc' := 95) C d_M_laysTotals_94 rfl ?_
        refine q_iast (pc' := 96) C 37 jM_37 kM_37 d_M_laysTotals_95 rfl ?_
        refine q_let (fun σ10 e10 => ?_)
        refine q_state e10 ?_
        refine q_aload_n (pc' := 97) C 1 d_M_laysTotals_96 rfl rfl ?_
        refine gM_138 (pc' := 100) C d_M_laysTotals_97 rfl rfl ?_
        refine q_iload_n (pc' := 101) C 4 d_M_laysTotals_100 rfl rfl ?_
        refine q_dup2 (pc' := 102) C d_M_laysTotals_101 rfl rfl rfl ?_
        refine q_iald (pc' := 103) C 38 jM_38 kM_38 d_M_laysTotals_102 rfl ?_
        refine q_aload_n (pc' := 104) C 1 d_M_laysTotals_103 rfl rfl ?_
        refine gM_117 (pc' := 107) C d_M_laysTotals_104 rfl rfl ?_
        refine q_iload_n (pc' := 108) C 3 d_M_laysTotals_107 rfl rfl ?_
        refine q_iald (pc' := 109) C 31 jM_31 kM_31 d_M_laysTotals_108 rfl ?_
        refine q_i2l (pc' := 110) C d_M_laysTotals_109 rfl ?_
        refine q_ldc2 (pc' := 113) C lLM_323 d_M_laysTotals_110 rfl ?_
        refine q_lmul (pc' := 114) C d_M_laysTotals_113 rfl ?_
        refine q_iload (pc' := 116) C 0 d_M_laysTotals_114 rfl rfl ?_
        refine q_i2l (pc' := 117) C d_M_laysTotals_116 rfl ?_
        refine q_guard (fun gx11 => ?_)
        refine q_ldiv (pc' := 118) C gx11 d_M_laysTotals_117 rfl ?_
        refine q_l2i (pc' := 119) C d_M_laysTotals_118 rfl ?_
        refine q_iadd (pc' := 120) C d_M_laysTotals_119 rfl ?_
        refine q_iast (pc' := 121) C 38 jM_38 kM_38 d_M_laysTotals_120 rfl ?_
        refine q_let (fun σ12 e12 => ?_)
        refine q_state e12 ?_
        refine q_let (fun x13 e13 => ?_)
        refine q_iinc (pc' := 124) (lv' := [(2, .int x13), (4, .int x8), (0, .ref (g.1 0)), (1, .int p1), (3, .int x7)]) C 3 d_M_laysTotals_121 rfl (by rw [e13, ki_1]) (by decide) rfl rfl ?_
        refine q_goto (tgt := 33) C d_M_laysTotals_124 rfl ?_
        exact Rt.sub [2, 3, 0] rfl (hih6 (x13, σ12))
      refine q_icmp_ne (tgt := 67) (pc' := 58) C d_M_laysTotals_55 rfl rfl ?_ ?_
      · refine q_aload_n (pc' := 68) C 1 d_M_laysTotals_67 rfl rfl ?_
        refine q_iload_n (pc' := 69) C 2 d_M_laysTotals_68 rfl rfl ?_
        refine q_iload_n (pc' := 70) C 0 d_M_laysTotals_69 rfl rfl ?_
        refine q_aload_n (pc' := 71) C 1 d_M_laysTotals_70 rfl rfl ?_
        refine gM_120 (pc' := 74) C d_M_laysTotals_71 rfl rfl ?_
        refine q_iload_n (pc' := 75) C 3 d_M_laysTotals_74 rfl rfl ?_
        refine q_iald (pc' := 76) C 32 jM_32 kM_32 d_M_laysTotals_75 rfl ?_
        refine q_callVr (fr' := 2) (lo' := 45) (pc' := 79) C FM_groundSpeed lmM_282 d_M_laysTotals_76 0 jM_0 kM_0 cM0 [.int p1, .int x7, .int (a5.2 32 (Int32.toNatClampNeg a5.1))] [] rfl rfl (Nat.le_of_ble_eq_true rfl) ⟨rfl, rfl⟩ (fun x h => cM_groundSpeed _ g hi a5.2 p1 x7 (a5.2 32 (Int32.toNatClampNeg a5.1)) x h) rfl (fun x14 _ => ?_)
        exact Rt.sub [1, 2, 3, 0] rfl (hJ9 x14)
      · refine q_aload_n (pc' := 59) C 1 d_M_laysTotals_58 rfl rfl ?_
        refine q_iload_n (pc' := 60) C 2 d_M_laysTotals_59 rfl rfl ?_
        refine q_iload_n (pc' := 61) C 0 d_M_laysTotals_60 rfl rfl ?_
        refine q_callVr (fr' := 1) (lo' := 23) (pc' := 64) C FM_airspeed lmM_276 d_M_laysTotals_61 0 jM_0 kM_0 cM0 [.int p1, .int x7] [] rfl rfl (Nat.le_of_ble_eq_true rfl) ⟨rfl, rfl⟩ (fun x h => cM_airspeed _ g hi a5.2 p1 x7 x h) rfl (fun x15 _ => ?_)
        refine q_goto (tgt := 79) C d_M_laysTotals_64 rfl ?_
        exact Rt.sub [1, 2, 3, 0] rfl (hJ9 x15)
  refine Rt.sub [1, 2, 0] rfl (q_lp (fun a16 : Int32 × St => [(0, .ref (g.1 0)), (1, .int p1), (2, .int a16.1)]) (fun a16 => []) (fun a16 => a16.2) (fun ih17 hih17 a16 => ?_) 4000 ((0 : Int32), σ))
  unfold lb_m_laysTotals_2
  refine q_iload_n (pc' := 3) C 2 d_M_laysTotals_2 rfl rfl ?_
  refine q_aload_n (pc' := 4) C 0 d_M_laysTotals_3 rfl rfl ?_
  refine q_iload_n (pc' := 5) C 1 d_M_laysTotals_4 rfl rfl ?_
  refine q_callVr (fr' := 0) (lo' := 0) (pc' := 8) C FM_count lmM_218 d_M_laysTotals_5 0 jM_0 kM_0 cM0 [.int p1] [.int a16.1] rfl rfl (Nat.le_of_ble_eq_true rfl) ⟨rfl, rfl⟩ (fun x h => cM_count _ g hi a16.2 p1 x h) rfl (fun x18 _ => ?_)
  refine q_icmp_ge (tgt := 31) (pc' := 11) C d_M_laysTotals_8 rfl rfl ?_ ?_
  · exact Rt.sub [0, 1] rfl (hJ2 a16.2)
  · refine q_aload_n (pc' := 12) C 0 d_M_laysTotals_11 rfl rfl ?_
    refine gM_135 (pc' := 15) C d_M_laysTotals_12 rfl rfl ?_
    refine q_iload_n (pc' := 16) C 2 d_M_laysTotals_15 rfl rfl ?_
    refine q_iconst (pc' := 17) C d_M_laysTotals_16 ki_0 rfl ?_
    refine q_iast (pc' := 18) C 37 jM_37 kM_37 d_M_laysTotals_17 rfl ?_
    refine q_let (fun σ19 e19 => ?_)
    refine q_state e19 ?_
    refine q_aload_n (pc' := 19) C 0 d_M_laysTotals_18 rfl rfl ?_
    refine gM_138 (pc' := 22) C d_M_laysTotals_19 rfl rfl ?_
    refine q_iload_n (pc' := 23) C 2 d_M_laysTotals_22 rfl rfl ?_
    refine q_iconst (pc' := 24) C d_M_laysTotals_23 ki_0 rfl ?_
    refine q_iast (pc' := 25) C 38 jM_38 kM_38 d_M_laysTotals_24 rfl ?_
    refine q_let (fun σ20 e20 => ?_)
    refine q_state e20 ?_
    refine q_let (fun x21 e21 => ?_)
    refine q_iinc (pc' := 28) (lv' := [(2, .int x21), (0, .ref (g.1 0)), (1, .int p1)]) C 2 d_M_laysTotals_25 rfl (by rw [e21, ki_1]) (by decide) rfl rfl ?_
    refine q_goto (tgt := 2) C d_M_laysTotals_28 rfl ?_
    exact Rt.sub [1, 2, 0] rfl (hih17 (x21, σ20))
theorem d_M_laysAltitudes_0 : decode qM_laysAltitudes.1 0 = .ok (.aload_n 0, 1) := by decide +kernel
theorem d_M_laysAltitudes_1 : decode qM_laysAltitudes.1 1 = .ok (.iload_n 1, 1) := by decide +kernel
theorem d_M_laysAltitudes_2 : decode qM_laysAltitudes.1 2 = .ok (.invokevirtual 218, 3) := by decide +kernel
theorem d_M_laysAltitudes_5 : decode qM_laysAltitudes.1 5 = .ok (.istore_n 2, 1) := by decide +kernel
theorem d_M_laysAltitudes_6 : decode qM_laysAltitudes.1 6 = .ok (.iconst 0, 1) := by decide +kernel
theorem d_M_laysAltitudes_7 : decode qM_laysAltitudes.1 7 = .ok (.istore_n 3, 1) := by decide +kernel
theorem d_M_laysAltitudes_8 : decode qM_laysAltitudes.1 8 = .ok (.iload_n 3, 1) := by decide +kernel
theorem d_M_laysAltitudes_9 : decode qM_laysAltitudes.1 9 = .ok (.iload_n 2, 1) := by decide +kernel
theorem d_M_laysAltitudes_10 : decode qM_laysAltitudes.1 10 = .ok (.if_icmp .ge 70, 3) := by decide +kernel
theorem d_M_laysAltitudes_13 : decode qM_laysAltitudes.1 13 = .ok (.iload_n 3, 1) := by decide +kernel
theorem d_M_laysAltitudes_14 : decode qM_laysAltitudes.1 14 = .ok (.ifCond .ne 10, 3) := by decide +kernel
theorem d_M_laysAltitudes_17 : decode qM_laysAltitudes.1 17 = .ok (.aload_n 0, 1) := by decide +kernel
theorem d_M_laysAltitudes_18 : decode qM_laysAltitudes.1 18 = .ok (.getfield 257, 3) := by decide +kernel
theorem d_M_laysAltitudes_21 : decode qM_laysAltitudes.1 21 = .ok (.goto 11, 3) := by decide +kernel
theorem d_M_laysAltitudes_24 : decode qM_laysAltitudes.1 24 = .ok (.aload_n 0, 1) := by decide +kernel
theorem d_M_laysAltitudes_25 : decode qM_laysAltitudes.1 25 = .ok (.getfield 141, 3) := by decide +kernel
theorem d_M_laysAltitudes_28 : decode qM_laysAltitudes.1 28 = .ok (.iload_n 3, 1) := by decide +kernel
theorem d_M_laysAltitudes_29 : decode qM_laysAltitudes.1 29 = .ok (.iconst 1, 1) := by decide +kernel
theorem d_M_laysAltitudes_30 : decode qM_laysAltitudes.1 30 = .ok (.isub, 1) := by decide +kernel
theorem d_M_laysAltitudes_31 : decode qM_laysAltitudes.1 31 = .ok (.iaload, 1) := by decide +kernel
theorem d_M_laysAltitudes_32 : decode qM_laysAltitudes.1 32 = .ok (.istore 4, 2) := by decide +kernel
theorem d_M_laysAltitudes_34 : decode qM_laysAltitudes.1 34 = .ok (.aload_n 0, 1) := by decide +kernel
theorem d_M_laysAltitudes_35 : decode qM_laysAltitudes.1 35 = .ok (.getfield 141, 3) := by decide +kernel
theorem d_M_laysAltitudes_38 : decode qM_laysAltitudes.1 38 = .ok (.iload_n 3, 1) := by decide +kernel
theorem d_M_laysAltitudes_39 : decode qM_laysAltitudes.1 39 = .ok (.aload_n 0, 1) := by decide +kernel
theorem d_M_laysAltitudes_40 : decode qM_laysAltitudes.1 40 = .ok (.getfield 23, 3) := by decide +kernel
theorem d_M_laysAltitudes_43 : decode qM_laysAltitudes.1 43 = .ok (.aload_n 0, 1) := by decide +kernel
theorem d_M_laysAltitudes_44 : decode qM_laysAltitudes.1 44 = .ok (.iload_n 1, 1) := by decide +kernel
theorem d_M_laysAltitudes_45 : decode qM_laysAltitudes.1 45 = .ok (.iload_n 3, 1) := by decide +kernel
theorem d_M_laysAltitudes_46 : decode qM_laysAltitudes.1 46 = .ok (.bipush 10, 2) := by decide +kernel
theorem d_M_laysAltitudes_48 : decode qM_laysAltitudes.1 48 = .ok (.invokevirtual 168, 3) := by decide +kernel
theorem d_M_laysAltitudes_51 : decode qM_laysAltitudes.1 51 = .ok (.invokestatic 267, 3) := by decide +kernel
theorem d_M_laysAltitudes_54 : decode qM_laysAltitudes.1 54 = .ok (.iload 4, 2) := by decide +kernel
theorem d_M_laysAltitudes_56 : decode qM_laysAltitudes.1 56 = .ok (.aload_n 0, 1) := by decide +kernel
theorem d_M_laysAltitudes_57 : decode qM_laysAltitudes.1 57 = .ok (.getfield 135, 3) := by decide +kernel
theorem d_M_laysAltitudes_60 : decode qM_laysAltitudes.1 60 = .ok (.iload_n 3, 1) := by decide +kernel
theorem d_M_laysAltitudes_61 : decode qM_laysAltitudes.1 61 = .ok (.iaload, 1) := by decide +kernel
theorem d_M_laysAltitudes_62 : decode qM_laysAltitudes.1 62 = .ok (.aload_n 0, 1) := by decide +kernel
theorem d_M_laysAltitudes_63 : decode qM_laysAltitudes.1 63 = .ok (.getfield 30, 3) := by decide +kernel
theorem d_M_laysAltitudes_66 : decode qM_laysAltitudes.1 66 = .ok (.invokestatic 344, 3) := by decide +kernel
theorem d_M_laysAltitudes_69 : decode qM_laysAltitudes.1 69 = .ok (.iadd, 1) := by decide +kernel
theorem d_M_laysAltitudes_70 : decode qM_laysAltitudes.1 70 = .ok (.invokestatic 267, 3) := by decide +kernel
theorem d_M_laysAltitudes_73 : decode qM_laysAltitudes.1 73 = .ok (.iastore, 1) := by decide +kernel
theorem d_M_laysAltitudes_74 : decode qM_laysAltitudes.1 74 = .ok (.iinc 3 1, 3) := by decide +kernel
theorem d_M_laysAltitudes_77 : decode qM_laysAltitudes.1 77 = .ok (.goto (-69), 3) := by decide +kernel
theorem d_M_laysAltitudes_80 : decode qM_laysAltitudes.1 80 = .ok (.iload_n 2, 1) := by decide +kernel
theorem d_M_laysAltitudes_81 : decode qM_laysAltitudes.1 81 = .ok (.iconst 1, 1) := by decide +kernel
theorem d_M_laysAltitudes_82 : decode qM_laysAltitudes.1 82 = .ok (.isub, 1) := by decide +kernel
theorem d_M_laysAltitudes_83 : decode qM_laysAltitudes.1 83 = .ok (.istore_n 3, 1) := by decide +kernel
theorem d_M_laysAltitudes_84 : decode qM_laysAltitudes.1 84 = .ok (.iload_n 3, 1) := by decide +kernel
theorem d_M_laysAltitudes_85 : decode qM_laysAltitudes.1 85 = .ok (.ifCond .lt 112, 3) := by decide +kernel
theorem d_M_laysAltitudes_88 : decode qM_laysAltitudes.1 88 = .ok (.iload_n 3, 1) := by decide +kernel
theorem d_M_laysAltitudes_89 : decode qM_laysAltitudes.1 89 = .ok (.iload_n 2, 1) := by decide +kernel
theorem d_M_laysAltitudes_90 : decode qM_laysAltitudes.1 90 = .ok (.iconst 1, 1) := by decide +kernel
theorem d_M_laysAltitudes_91 : decode qM_laysAltitudes.1 91 = .ok (.isub, 1) := by decide +kernel
theorem d_M_laysAltitudes_92 : decode qM_laysAltitudes.1 92 = .ok (.if_icmp .ne 7, 3) := by decide +kernel
theorem d_M_laysAltitudes_95 : decode qM_laysAltitudes.1 95 = .ok (.iconst 1, 1) := by decide +kernel
theorem d_M_laysAltitudes_96 : decode qM_laysAltitudes.1 96 = .ok (.goto 4, 3) := by decide +kernel
theorem d_M_laysAltitudes_99 : decode qM_laysAltitudes.1 99 = .ok (.iconst 0, 1) := by decide +kernel
theorem d_M_laysAltitudes_100 : decode qM_laysAltitudes.1 100 = .ok (.istore 4, 2) := by decide +kernel
theorem d_M_laysAltitudes_102 : decode qM_laysAltitudes.1 102 = .ok (.iload 4, 2) := by decide +kernel
theorem d_M_laysAltitudes_104 : decode qM_laysAltitudes.1 104 = .ok (.ifCond .eq 10, 3) := by decide +kernel
theorem d_M_laysAltitudes_107 : decode qM_laysAltitudes.1 107 = .ok (.aload_n 0, 1) := by decide +kernel
theorem d_M_laysAltitudes_108 : decode qM_laysAltitudes.1 108 = .ok (.getfield 347, 3) := by decide +kernel
theorem d_M_laysAltitudes_111 : decode qM_laysAltitudes.1 111 = .ok (.goto 27, 3) := by decide +kernel
theorem d_M_laysAltitudes_114 : decode qM_laysAltitudes.1 114 = .ok (.aload_n 0, 1) := by decide +kernel
theorem d_M_laysAltitudes_115 : decode qM_laysAltitudes.1 115 = .ok (.getfield 144, 3) := by decide +kernel
theorem d_M_laysAltitudes_118 : decode qM_laysAltitudes.1 118 = .ok (.iload_n 3, 1) := by decide +kernel
theorem d_M_laysAltitudes_119 : decode qM_laysAltitudes.1 119 = .ok (.iconst 1, 1) := by decide +kernel
theorem d_M_laysAltitudes_120 : decode qM_laysAltitudes.1 120 = .ok (.iadd, 1) := by decide +kernel
theorem d_M_laysAltitudes_121 : decode qM_laysAltitudes.1 121 = .ok (.iaload, 1) := by decide +kernel
theorem d_M_laysAltitudes_122 : decode qM_laysAltitudes.1 122 = .ok (.aload_n 0, 1) := by decide +kernel
theorem d_M_laysAltitudes_123 : decode qM_laysAltitudes.1 123 = .ok (.getfield 135, 3) := by decide +kernel
theorem d_M_laysAltitudes_126 : decode qM_laysAltitudes.1 126 = .ok (.iload_n 3, 1) := by decide +kernel
theorem d_M_laysAltitudes_127 : decode qM_laysAltitudes.1 127 = .ok (.iconst 1, 1) := by decide +kernel
theorem d_M_laysAltitudes_128 : decode qM_laysAltitudes.1 128 = .ok (.iadd, 1) := by decide +kernel
theorem d_M_laysAltitudes_129 : decode qM_laysAltitudes.1 129 = .ok (.iaload, 1) := by decide +kernel
theorem d_M_laysAltitudes_130 : decode qM_laysAltitudes.1 130 = .ok (.aload_n 0, 1) := by decide +kernel
theorem d_M_laysAltitudes_131 : decode qM_laysAltitudes.1 131 = .ok (.getfield 33, 3) := by decide +kernel
theorem d_M_laysAltitudes_134 : decode qM_laysAltitudes.1 134 = .ok (.invokestatic 344, 3) := by decide +kernel
theorem d_M_laysAltitudes_137 : decode qM_laysAltitudes.1 137 = .ok (.iadd, 1) := by decide +kernel
theorem d_M_laysAltitudes_138 : decode qM_laysAltitudes.1 138 = .ok (.istore 5, 2) := by decide +kernel
theorem d_M_laysAltitudes_140 : decode qM_laysAltitudes.1 140 = .ok (.iload 5, 2) := by decide +kernel
theorem d_M_laysAltitudes_142 : decode qM_laysAltitudes.1 142 = .ok (.aload_n 0, 1) := by decide +kernel
theorem d_M_laysAltitudes_143 : decode qM_laysAltitudes.1 143 = .ok (.iload_n 1, 1) := by decide +kernel
theorem d_M_laysAltitudes_144 : decode qM_laysAltitudes.1 144 = .ok (.iload_n 3, 1) := by decide +kernel
theorem d_M_laysAltitudes_145 : decode qM_laysAltitudes.1 145 = .ok (.bipush 9, 2) := by decide +kernel
theorem d_M_laysAltitudes_147 : decode qM_laysAltitudes.1 147 = .ok (.invokevirtual 168, 3) := by decide +kernel
theorem d_M_laysAltitudes_150 : decode qM_laysAltitudes.1 150 = .ok (.invokestatic 279, 3) := by decide +kernel
theorem d_M_laysAltitudes_153 : decode qM_laysAltitudes.1 153 = .ok (.aload_n 0, 1) := by decide +kernel
theorem d_M_laysAltitudes_154 : decode qM_laysAltitudes.1 154 = .ok (.iload_n 1, 1) := by decide +kernel
theorem d_M_laysAltitudes_155 : decode qM_laysAltitudes.1 155 = .ok (.iload_n 3, 1) := by decide +kernel
theorem d_M_laysAltitudes_156 : decode qM_laysAltitudes.1 156 = .ok (.bipush 10, 2) := by decide +kernel
theorem d_M_laysAltitudes_158 : decode qM_laysAltitudes.1 158 = .ok (.invokevirtual 168, 3) := by decide +kernel
theorem d_M_laysAltitudes_161 : decode qM_laysAltitudes.1 161 = .ok (.invokestatic 267, 3) := by decide +kernel
theorem d_M_laysAltitudes_164 : decode qM_laysAltitudes.1 164 = .ok (.istore 5, 2) := by decide +kernel
theorem d_M_laysAltitudes_166 : decode qM_laysAltitudes.1 166 = .ok (.aload_n 0, 1) := by decide +kernel
theorem d_M_laysAltitudes_167 : decode qM_laysAltitudes.1 167 = .ok (.getfield 144, 3) := by decide +kernel
theorem d_M_laysAltitudes_170 : decode qM_laysAltitudes.1 170 = .ok (.iload_n 3, 1) := by decide +kernel
theorem d_M_laysAltitudes_171 : decode qM_laysAltitudes.1 171 = .ok (.iload 4, 2) := by decide +kernel
theorem d_M_laysAltitudes_173 : decode qM_laysAltitudes.1 173 = .ok (.ifCond .eq 8, 3) := by decide +kernel
theorem d_M_laysAltitudes_176 : decode qM_laysAltitudes.1 176 = .ok (.iload 5, 2) := by decide +kernel
theorem d_M_laysAltitudes_178 : decode qM_laysAltitudes.1 178 = .ok (.goto 12, 3) := by decide +kernel
theorem d_M_laysAltitudes_181 : decode qM_laysAltitudes.1 181 = .ok (.iload 5, 2) := by decide +kernel
theorem d_M_laysAltitudes_183 : decode qM_laysAltitudes.1 183 = .ok (.aload_n 0, 1) := by decide +kernel
theorem d_M_laysAltitudes_184 : decode qM_laysAltitudes.1 184 = .ok (.getfield 23, 3) := by decide +kernel
theorem d_M_laysAltitudes_187 : decode qM_laysAltitudes.1 187 = .ok (.invokestatic 267, 3) := by decide +kernel
theorem d_M_laysAltitudes_190 : decode qM_laysAltitudes.1 190 = .ok (.iastore, 1) := by decide +kernel
theorem d_M_laysAltitudes_191 : decode qM_laysAltitudes.1 191 = .ok (.iinc 3 (-1), 3) := by decide +kernel
theorem d_M_laysAltitudes_194 : decode qM_laysAltitudes.1 194 = .ok (.goto (-110), 3) := by decide +kernel
theorem d_M_laysAltitudes_197 : decode qM_laysAltitudes.1 197 = .ok (.return_, 1) := by decide +kernel
set_option maxRecDepth 100000 in
def lb_m_laysAltitudes_84 (p1 : Int32) (x1 : Int32) (J6 : St → Option (St)) (ih8 : Int32 × St → Option (St)) (a7 : Int32 × St) : Option (St) :=
  if (a7.1 : Int32) < 0 then (
  J6 a7.2
  ) else (
  Jn (fun (x9 : Int32) =>
  Jn (fun (x11 : Int32) =>
  Option.bind (m_of a7.2 p1 a7.1 (9 : Int32)) fun x13 =>
  Option.bind (m_greater x11 x13) fun x14 =>
  Option.bind (m_of a7.2 p1 a7.1 (10 : Int32)) fun x15 =>
  Option.bind (m_lesser x14 x15) fun x16 =>
  Jn (fun (x17 : Int32) =>
  Gd (Ix a7.1 21) <|
  Lt (s2 a7.2 40 (Int32.toNatClampNeg a7.1) x17) fun σ19 =>
  Lt (a7.1 + (-1 : Int32) : Int32) fun x20 =>
  ih8 (x20, σ19)
  ) fun J18 =>
  if (x9 : Int32) = 0 then (
  Option.bind (m_lesser x16 (a7.2 0 10)) fun x21 =>
  J18 x21
  ) else (
  J18 x16
  )
  ) fun J12 =>
  if (x9 : Int32) = 0 then (
  Gd (Ix (a7.1 + (1 : Int32)) 21) <|
  Gd (Ix (a7.1 + (1 : Int32)) 21) <|
  Option.bind (m_change (a7.2 37 (Int32.toNatClampNeg (a7.1 + (1 : Int32)))) (a7.2 0 13)) fun x22 =>
  J12 ((a7.2 40 (Int32.toNatClampNeg (a7.1 + (1 : Int32)))) + x22)
  ) else (
  J12 (a7.2 0 16)
  )
  ) fun J10 =>
  if (a7.1 : Int32) = (x1 - (1 : Int32)) then (
  J10 (1 : Int32)
  ) else (
  J10 (0 : Int32)
  )
  )
set_option maxRecDepth 100000 in
def lb_m_laysAltitudes_8 (p1 : Int32) (x1 : Int32) (J3 : St → Option (St)) (ih24 : Int32 × St → Option (St)) (a23 : Int32 × St) : Option (St) :=
  if (x1 : Int32) ≤ a23.1 then (
  J3 a23.2
  ) else (
  Jn (fun (x25 : Int32) =>
  Option.bind (m_of a23.2 p1 a23.1 (10 : Int32)) fun x27 =>
  Option.bind (m_lesser (a23.2 0 10) x27) fun x28 =>
  Gd (Ix a23.1 21) <|
  Option.bind (m_change (a23.2 37 (Int32.toNatClampNeg a23.1)) (a23.2 0 12)) fun x29 =>
  Option.bind (m_lesser x28 (x25 + x29)) fun x30 =>
  Gd (Ix a23.1 21) <|
  Lt (s2 a23.2 39 (Int32.toNatClampNeg a23.1) x30) fun σ31 =>
  Lt (a23.1 + (1 : Int32) : Int32) fun x32 =>
  ih24 (x32, σ31)
  ) fun J26 =>
  if (a23.1 : Int32) = 0 then (
  J26 (a23.2 0 15)
  ) else (
  Gd (Ix (a23.1 - (1 : Int32)) 21) <|
  J26 (a23.2 39 (Int32.toNatClampNeg (a23.1 - (1 : Int32))))
  )
  )
set_option maxRecDepth 100000 in
def m_laysAltitudes (σ : St) (p1 : Int32) : Option (St) :=
  Option.bind (m_count σ p1) fun x1 =>
  Jn (fun (σ2 : St) =>
  Lt ((x1 - (1 : Int32)) : Int32) fun x4 =>
  Jn (fun (σ5 : St) =>
  some σ5
  ) fun J6 =>
  lp (lb_m_laysAltitudes_84 p1 x1 J6) 4000 (x4, σ2)
  ) fun J3 =>
  lp (lb_m_laysAltitudes_8 p1 x1 J3) 4000 ((0 : Int32), σ)
set_option maxHeartbeats 4000000 in
set_option maxRecDepth 100000 in
theorem cM_laysAltitudes (l : Launch) (g : Ge) (hi : injB wM.2 g) (σ : St) (p1 : Int32) (x : St) (h : m_laysAltitudes σ p1 = some x) : Ct l wM g yM_laysAltitudes qM_laysAltitudes 1 23 [.ref (g.1 0), .int p1] σ (none, x) := by
  refine Ct.of (out := o_v) FM_laysAltitudes rfl hi rfl h (fun z hz C => ?_)
  clear h
  subst hz
  unfold m_laysAltitudes
  show Rt z qM_laysAltitudes wM g o_v 0 [(0, .ref (g.1 0)), (1, .int p1)] [] σ _
  refine q_aload_n (pc' := 1) C 0 d_M_laysAltitudes_0 rfl rfl ?_
  refine q_iload_n (pc' := 2) C 1 d_M_laysAltitudes_1 rfl rfl ?_
  refine q_callVr (fr' := 0) (lo' := 0) (pc' := 5) C FM_count lmM_218 d_M_laysAltitudes_2 0 jM_0 kM_0 cM0 [.int p1] [] rfl rfl (Nat.le_of_ble_eq_true rfl) ⟨rfl, rfl⟩ (fun x h => cM_count _ g hi σ p1 x h) rfl (fun x1 _ => ?_)
  refine q_istore_n (pc' := 6) (lv' := [(2, .int x1), (0, .ref (g.1 0)), (1, .int p1)]) C d_M_laysAltitudes_5 (by decide) rfl rfl ?_
  refine q_iconst (pc' := 7) C d_M_laysAltitudes_6 ki_0 rfl ?_
  refine q_istore_n (pc' := 8) (lv' := [(3, .int (0 : Int32)), (2, .int x1), (0, .ref (g.1 0)), (1, .int p1)]) C d_M_laysAltitudes_7 (by decide) rfl rfl ?_
  refine q_join (fun J3 : St → Option (St) => ∀ (σ2 : St), Rt z qM_laysAltitudes wM g o_v 80 [(0, .ref (g.1 0)), (1, .int p1), (2, .int x1)] [] σ2 (J3 σ2)) (fun σ2 => ?_) (fun J3 hJ3 => ?_)
  · refine q_iload_n (pc' := 81) C 2 d_M_laysAltitudes_80 rfl rfl ?_
    refine q_iconst (pc' := 82) C d_M_laysAltitudes_81 ki_1 rfl ?_
    refine q_isub (pc' := 83) C d_M_laysAltitudes_82 rfl ?_
    refine q_let (fun x4 e4 => ?_)
    refine q_topi e4 ?_
    refine q_istore_n (pc' := 84) (lv' := [(3, .int x4), (0, .ref (g.1 0)), (1, .int p1), (2, .int x1)]) C d_M_laysAltitudes_83 (by decide) rfl rfl ?_
    refine q_join (fun J6 : St → Option (St) => ∀ (σ5 : St), Rt z qM_laysAltitudes wM g o_v 197 [] [] σ5 (J6 σ5)) (fun σ5 => ?_) (fun J6 hJ6 => ?_)
    · exact q_vret C rfl d_M_laysAltitudes_197 rfl
    refine Rt.sub [1, 2, 3, 0] rfl (q_lp (fun a7 : Int32 × St => [(0, .ref (g.1 0)), (1, .int p1), (2, .int x1), (3, .int a7.1)]) (fun a7 => []) (fun a7 => a7.2) (fun ih8 hih8 a7 => ?_) 4000 (x4, σ2))
    unfold lb_m_laysAltitudes_84
    refine q_iload_n (pc' := 85) C 3 d_M_laysAltitudes_84 rfl rfl ?_
    refine q_if_lt (tgt := 197) (pc' := 88) C d_M_laysAltitudes_85 rfl rfl ?_ ?_
    · exact Rt.sub [] rfl (hJ6 a7.2)
    · refine q_iload_n (pc' := 89) C 3 d_M_laysAltitudes_88 rfl rfl ?_
      refine q_iload_n (pc' := 90) C 2 d_M_laysAltitudes_89 rfl rfl ?_
      refine q_iconst (pc' := 91) C d_M_laysAltitudes_90 ki_1 rfl ?_
      refine q_isub (pc' := 92) C d_M_laysAltitudes_91 rfl ?_
      refine q_join (fun J10 : Int32 → Option (St) => ∀ (x9 : Int32), Rt z qM_laysAltitudes wM g o_v 100 [(0, .ref (g.1 0)), (1, .int p1), (2, .int x1), (3, .int a7.1)] [.int x9] a7.2 (J10 x9)) (fun x9 => ?_) (fun J10 hJ10 => ?_)
      · refine q_istore (pc' := 102) (lv' := [(4, .int x9), (0, .ref (g.1 0)), (1, .int p1), (2, .int x1), (3, .int a7.1)]) C d_M_laysAltitudes_100 (by decide) rfl rfl ?_
        refine q_iload (pc' := 104) C 0 d_M_laysAltitudes_102 rfl rfl ?_
        refine q_join (fun J12 : Int32 → Option (St) => ∀ (x11 : Int32), Rt z qM_laysAltitudes wM g o_v 138 [(0, .ref (g.1 0)), (1, .int p1), (2, .int x1), (3, .int a7.1), (4, .int x9)] [.int x11] a7.2 (J12 x11)) (fun x11 => ?_) (fun J12 hJ12 => ?_)
        · refine q_istore (pc' := 140) (lv' := [(5, .int x11), (0, .ref (g.1 0)), (1, .int p1), (2, .int x1), (3, .int a7.1), (4, .int x9)]) C d_M_laysAltitudes_138 (by decide) rfl rfl ?_
          refine q_iload (pc' := 142) C 0 d_M_laysAltitudes_140 rfl rfl ?_
          refine q_aload_n (pc' := 143) C 1 d_M_laysAltitudes_142 rfl rfl ?_
          refine q_iload_n (pc' := 144) C 2 d_M_laysAltitudes_143 rfl rfl ?_
          refine q_iload_n (pc' := 145) C 4 d_M_laysAltitudes_144 rfl rfl ?_
          refine q_bipush (pc' := 147) C d_M_laysAltitudes_145 kb_9 rfl ?_
          refine q_callVr (fr' := 0) (lo' := 0) (pc' := 150) C FM_of lmM_168 d_M_laysAltitudes_147 0 jM_0 kM_0 cM0 [.int p1, .int a7.1, .int (9 : Int32)] [.int x11] rfl rfl (Nat.le_of_ble_eq_true rfl) ⟨rfl, rfl⟩ (fun x h => cM_of _ g hi a7.2 p1 a7.1 (9 : Int32) x h) rfl (fun x13 _ => ?_)
          refine q_callSr (fr' := 0) (lo' := 0) (pc' := 153) C FM_greater lmM_279 d_M_laysAltitudes_150 [.int x11, .int x13] [] rfl rfl (Nat.le_of_ble_eq_true rfl) ⟨rfl, rfl⟩ (fun x h => cM_greater _ g hi a7.2 x11 x13 x h) rfl (fun x14 _ => ?_)
          refine q_aload_n (pc' := 154) C 1 d_M_laysAltitudes_153 rfl rfl ?_
          refine q_iload_n (pc' := 155) C 2 d_M_laysAltitudes_154 rfl rfl ?_
          refine q_iload_n (pc' := 156) C 4 d_M_laysAltitudes_155 rfl rfl ?_
          refine q_bipush (pc' := 158) C d_M_laysAltitudes_156 kb_10 rfl ?_
          refine q_callVr (fr' := 0) (lo' := 0) (pc' := 161) C FM_of lmM_168 d_M_laysAltitudes_158 0 jM_0 kM_0 cM0 [.int p1, .int a7.1, .int (10 : Int32)] [.int x14] rfl rfl (Nat.le_of_ble_eq_true rfl) ⟨rfl, rfl⟩ (fun x h => cM_of _ g hi a7.2 p1 a7.1 (10 : Int32) x h) rfl (fun x15 _ => ?_)
          refine q_callSr (fr' := 0) (lo' := 0) (pc' := 164) C FM_lesser lmM_267 d_M_laysAltitudes_161 [.int x14, .int x15] [] rfl rfl (Nat.le_of_ble_eq_true rfl) ⟨rfl, rfl⟩ (fun x h => cM_lesser _ g hi a7.2 x14 x15 x h) rfl (fun x16 _ => ?_)
          refine q_istore (pc' := 166) (lv' := [(5, .int x16), (0, .ref (g.1 0)), (1, .int p1), (2, .int x1), (3, .int a7.1), (4, .int x9)]) C d_M_laysAltitudes_164 (by decide) rfl rfl ?_
          refine q_aload_n (pc' := 167) C 1 d_M_laysAltitudes_166 rfl rfl ?_
          refine gM_144 (pc' := 170) C d_M_laysAltitudes_167 rfl rfl ?_
          refine q_iload_n (pc' := 171) C 4 d_M_laysAltitudes_170 rfl rfl ?_
          refine q_iload (pc' := 173) C 5 d_M_laysAltitudes_171 rfl rfl ?_
          refine q_join (fun J18 : Int32 → Option (St) => ∀ (x17 : Int32), Rt z qM_laysAltitudes wM g o_v 190 [(0, .ref (g.1 0)), (1, .int p1), (2, .int x1), (3, .int a7.1)] [.int x17, .int a7.1, .ref (g.1 40)] a7.2 (J18 x17)) (fun x17 => ?_) (fun J18 hJ18 => ?_)
          · refine q_iast (pc' := 191) C 40 jM_40 kM_40 d_M_laysAltitudes_190 rfl ?_
            refine q_let (fun σ19 e19 => ?_)
            refine q_state e19 ?_
            refine q_let (fun x20 e20 => ?_)
            refine q_iinc (pc' := 194) (lv' := [(3, .int x20), (0, .ref (g.1 0)), (1, .int p1), (2, .int x1)]) C 3 d_M_laysAltitudes_191 rfl (by rw [e20, ki_m1]) (by decide) rfl rfl ?_
            refine q_goto (tgt := 84) C d_M_laysAltitudes_194 rfl ?_
            exact Rt.sub [1, 2, 3, 0] rfl (hih8 (x20, σ19))
          refine q_if_eq (tgt := 181) (pc' := 176) C d_M_laysAltitudes_173 rfl rfl ?_ ?_
          · refine q_iload (pc' := 183) C 0 d_M_laysAltitudes_181 rfl rfl ?_
            refine q_aload_n (pc' := 184) C 1 d_M_laysAltitudes_183 rfl rfl ?_
            refine gM_23 (pc' := 187) C d_M_laysAltitudes_184 rfl rfl ?_
            refine q_callSr (fr' := 0) (lo' := 0) (pc' := 190) C FM_lesser lmM_267 d_M_laysAltitudes_187 [.int x16, .int (a7.2 0 10)] [.int a7.1, .ref (g.1 40)] rfl rfl (Nat.le_of_ble_eq_true rfl) ⟨rfl, rfl⟩ (fun x h => cM_lesser _ g hi a7.2 x16 (a7.2 0 10) x h) rfl (fun x21 _ => ?_)
            exact Rt.sub [1, 2, 3, 4] rfl (hJ18 x21)
          · refine q_iload (pc' := 178) C 0 d_M_laysAltitudes_176 rfl rfl ?_
            refine q_goto (tgt := 190) C d_M_laysAltitudes_178 rfl ?_
            exact Rt.sub [1, 2, 3, 4] rfl (hJ18 x16)
        refine q_if_eq (tgt := 114) (pc' := 107) C d_M_laysAltitudes_104 rfl rfl ?_ ?_
        · refine q_aload_n (pc' := 115) C 1 d_M_laysAltitudes_114 rfl rfl ?_
          refine gM_144 (pc' := 118) C d_M_laysAltitudes_115 rfl rfl ?_
          refine q_iload_n (pc' := 119) C 4 d_M_laysAltitudes_118 rfl rfl ?_
          refine q_iconst (pc' := 120) C d_M_laysAltitudes_119 ki_1 rfl ?_
          refine q_iadd (pc' := 121) C d_M_laysAltitudes_120 rfl ?_
          refine q_iald (pc' := 122) C 40 jM_40 kM_40 d_M_laysAltitudes_121 rfl ?_
          refine q_aload_n (pc' := 123) C 1 d_M_laysAltitudes_122 rfl rfl ?_
          refine gM_135 (pc' := 126) C d_M_laysAltitudes_123 rfl rfl ?_
          refine q_iload_n (pc' := 127) C 4 d_M_laysAltitudes_126 rfl rfl ?_
          refine q_iconst (pc' := 128) C d_M_laysAltitudes_127 ki_1 rfl ?_
          refine q_iadd (pc' := 129) C d_M_laysAltitudes_128 rfl ?_
          refine q_iald (pc' := 130) C 37 jM_37 kM_37 d_M_laysAltitudes_129 rfl ?_
          refine q_aload_n (pc' := 131) C 1 d_M_laysAltitudes_130 rfl rfl ?_
          refine gM_33 (pc' := 134) C d_M_laysAltitudes_131 rfl rfl ?_
          refine q_callSr (fr' := 0) (lo' := 0) (pc' := 137) C FM_change lmM_344 d_M_laysAltitudes_134 [.int (a7.2 37 (Int32.toNatClampNeg (a7.1 + (1 : Int32)))), .int (a7.2 0 13)] [.int (a7.2 40 (Int32.toNatClampNeg (a7.1 + (1 : Int32))))] rfl rfl (Nat.le_of_ble_eq_true rfl) ⟨rfl, rfl⟩ (fun x h => cM_change _ g hi a7.2 (a7.2 37 (Int32.toNatClampNeg (a7.1 + (1 : Int32)))) (a7.2 0 13) x h) rfl (fun x22 _ => ?_)
          refine q_iadd (pc' := 138) C d_M_laysAltitudes_137 rfl ?_
          exact Rt.sub [1, 2, 3, 4, 0] rfl (hJ12 ((a7.2 40 (Int32.toNatClampNeg (a7.1 + (1 : Int32)))) + x22))
        · refine q_aload_n (pc' := 108) C 1 d_M_laysAltitudes_107 rfl rfl ?_
          refine gM_347 (pc' := 111) C d_M_laysAltitudes_108 rfl rfl ?_
          refine q_goto (tgt := 138) C d_M_laysAltitudes_111 rfl ?_
          exact Rt.sub [1, 2, 3, 4, 0] rfl (hJ12 (a7.2 0 16))
      refine q_icmp_ne (tgt := 99) (pc' := 95) C d_M_laysAltitudes_92 rfl rfl ?_ ?_
      · refine q_iconst (pc' := 100) C d_M_laysAltitudes_99 ki_0 rfl ?_
        exact Rt.sub [0, 1, 2, 3] rfl (hJ10 (0 : Int32))
      · refine q_iconst (pc' := 96) C d_M_laysAltitudes_95 ki_1 rfl ?_
        refine q_goto (tgt := 100) C d_M_laysAltitudes_96 rfl ?_
        exact Rt.sub [0, 1, 2, 3] rfl (hJ10 (1 : Int32))
  refine Rt.sub [2, 3, 1, 0] rfl (q_lp (fun a23 : Int32 × St => [(0, .ref (g.1 0)), (1, .int p1), (2, .int x1), (3, .int a23.1)]) (fun a23 => []) (fun a23 => a23.2) (fun ih24 hih24 a23 => ?_) 4000 ((0 : Int32), σ))
  unfold lb_m_laysAltitudes_8
  refine q_iload_n (pc' := 9) C 3 d_M_laysAltitudes_8 rfl rfl ?_
  refine q_iload_n (pc' := 10) C 2 d_M_laysAltitudes_9 rfl rfl ?_
  refine q_icmp_ge (tgt := 80) (pc' := 13) C d_M_laysAltitudes_10 rfl rfl ?_ ?_
  · exact Rt.sub [0, 1, 2] rfl (hJ3 a23.2)
  · refine q_iload_n (pc' := 14) C 3 d_M_laysAltitudes_13 rfl rfl ?_
    refine q_join (fun J26 : Int32 → Option (St) => ∀ (x25 : Int32), Rt z qM_laysAltitudes wM g o_v 32 [(0, .ref (g.1 0)), (1, .int p1), (2, .int x1), (3, .int a23.1)] [.int x25] a23.2 (J26 x25)) (fun x25 => ?_) (fun J26 hJ26 => ?_)
    · refine q_istore (pc' := 34) (lv' := [(4, .int x25), (0, .ref (g.1 0)), (1, .int p1), (2, .int x1), (3, .int a23.1)]) C d_M_laysAltitudes_32 (by decide) rfl rfl ?_
      refine q_aload_n (pc' := 35) C 1 d_M_laysAltitudes_34 rfl rfl ?_
      refine gM_141 (pc' := 38) C d_M_laysAltitudes_35 rfl rfl ?_
      refine q_iload_n (pc' := 39) C 4 d_M_laysAltitudes_38 rfl rfl ?_
      refine q_aload_n (pc' := 40) C 1 d_M_laysAltitudes_39 rfl rfl ?_
      refine gM_23 (pc' := 43) C d_M_laysAltitudes_40 rfl rfl ?_
      refine q_aload_n (pc' := 44) C 1 d_M_laysAltitudes_43 rfl rfl ?_
      refine q_iload_n (pc' := 45) C 2 d_M_laysAltitudes_44 rfl rfl ?_
      refine q_iload_n (pc' := 46) C 4 d_M_laysAltitudes_45 rfl rfl ?_
      refine q_bipush (pc' := 48) C d_M_laysAltitudes_46 kb_10 rfl ?_
      refine q_callVr (fr' := 0) (lo' := 0) (pc' := 51) C FM_of lmM_168 d_M_laysAltitudes_48 0 jM_0 kM_0 cM0 [.int p1, .int a23.1, .int (10 : Int32)] [.int (a23.2 0 10), .int a23.1, .ref (g.1 39)] rfl rfl (Nat.le_of_ble_eq_true rfl) ⟨rfl, rfl⟩ (fun x h => cM_of _ g hi a23.2 p1 a23.1 (10 : Int32) x h) rfl (fun x27 _ => ?_)
      refine q_callSr (fr' := 0) (lo' := 0) (pc' := 54) C FM_lesser lmM_267 d_M_laysAltitudes_51 [.int (a23.2 0 10), .int x27] [.int a23.1, .ref (g.1 39)] rfl rfl (Nat.le_of_ble_eq_true rfl) ⟨rfl, rfl⟩ (fun x h => cM_lesser _ g hi a23.2 (a23.2 0 10) x27 x h) rfl (fun x28 _ => ?_)
      refine q_iload (pc' := 56) C 0 d_M_laysAltitudes_54 rfl rfl ?_
      refine q_aload_n (pc' := 57) C 1 d_M_laysAltitudes_56 rfl rfl ?_
      refine gM_135 (pc' := 60) C d_M_laysAltitudes_57 rfl rfl ?_
      refine q_iload_n (pc' := 61) C 4 d_M_laysAltitudes_60 rfl rfl ?_
      refine q_iald (pc' := 62) C 37 jM_37 kM_37 d_M_laysAltitudes_61 rfl ?_
      refine q_aload_n (pc' := 63) C 1 d_M_laysAltitudes_62 rfl rfl ?_
      refine gM_30 (pc' := 66) C d_M_laysAltitudes_63 rfl rfl ?_
      refine q_callSr (fr' := 0) (lo' := 0) (pc' := 69) C FM_change lmM_344 d_M_laysAltitudes_66 [.int (a23.2 37 (Int32.toNatClampNeg a23.1)), .int (a23.2 0 12)] [.int x25, .int x28, .int a23.1, .ref (g.1 39)] rfl rfl (Nat.le_of_ble_eq_true rfl) ⟨rfl, rfl⟩ (fun x h => cM_change _ g hi a23.2 (a23.2 37 (Int32.toNatClampNeg a23.1)) (a23.2 0 12) x h) rfl (fun x29 _ => ?_)
      refine q_iadd (pc' := 70) C d_M_laysAltitudes_69 rfl ?_
      refine q_callSr (fr' := 0) (lo' := 0) (pc' := 73) C FM_lesser lmM_267 d_M_laysAltitudes_70 [.int x28, .int (x25 + x29)] [.int a23.1, .ref (g.1 39)] rfl rfl (Nat.le_of_ble_eq_true rfl) ⟨rfl, rfl⟩ (fun x h => cM_lesser _ g hi a23.2 x28 (x25 + x29) x h) rfl (fun x30 _ => ?_)
      refine q_iast (pc' := 74) C 39 jM_39 kM_39 d_M_laysAltitudes_73 rfl ?_
      refine q_let (fun σ31 e31 => ?_)
      refine q_state e31 ?_
      refine q_let (fun x32 e32 => ?_)
      refine q_iinc (pc' := 77) (lv' := [(3, .int x32), (4, .int x25), (0, .ref (g.1 0)), (1, .int p1), (2, .int x1)]) C 4 d_M_laysAltitudes_74 rfl (by rw [e32, ki_1]) (by decide) rfl rfl ?_
      refine q_goto (tgt := 8) C d_M_laysAltitudes_77 rfl ?_
      exact Rt.sub [2, 3, 4, 0] rfl (hih24 (x32, σ31))
    refine q_if_ne (tgt := 24) (pc' := 17) C d_M_laysAltitudes_14 rfl rfl ?_ ?_
    · refine q_aload_n (pc' := 25) C 0 d_M_laysAltitudes_24 rfl rfl ?_
      refine gM_141 (pc' := 28) C d_M_laysAltitudes_25 rfl rfl ?_
      refine q_iload_n (pc' := 29) C 3 d_M_laysAltitudes_28 rfl rfl ?_
      refine q_iconst (pc' := 30) C d_M_laysAltitudes_29 ki_1 rfl ?_
      refine q_isub (pc' := 31) C d_M_laysAltitudes_30 rfl ?_
      refine q_iald (pc' := 32) C 39 jM_39 kM_39 d_M_laysAltitudes_31 rfl ?_
      exact Rt.sub [0, 1, 2, 3] rfl (hJ26 (a23.2 39 (Int32.toNatClampNeg (a23.1 - (1 : Int32)))))
    · refine q_aload_n (pc' := 18) C 0 d_M_laysAltitudes_17 rfl rfl ?_
      refine gM_257 (pc' := 21) C d_M_laysAltitudes_18 rfl rfl ?_
      refine q_goto (tgt := 32) C d_M_laysAltitudes_21 rfl ?_
      exact Rt.sub [0, 1, 2, 3] rfl (hJ26 (a23.2 0 15))
theorem d_M_lays_0 : decode qM_lays.1 0 = .ok (.aload_n 0, 1) := by decide +kernel
theorem d_M_lays_1 : decode qM_lays.1 1 = .ok (.iload_n 1, 1) := by decide +kernel
theorem d_M_lays_2 : decode qM_lays.1 2 = .ok (.invokevirtual 325, 3) := by decide +kernel
theorem d_M_lays_5 : decode qM_lays.1 5 = .ok (.iconst 0, 1) := by decide +kernel
theorem d_M_lays_6 : decode qM_lays.1 6 = .ok (.istore_n 2, 1) := by decide +kernel
theorem d_M_lays_7 : decode qM_lays.1 7 = .ok (.iload_n 2, 1) := by decide +kernel
theorem d_M_lays_8 : decode qM_lays.1 8 = .ok (.aload_n 0, 1) := by decide +kernel
theorem d_M_lays_9 : decode qM_lays.1 9 = .ok (.getfield 172, 3) := by decide +kernel
theorem d_M_lays_12 : decode qM_lays.1 12 = .ok (.if_icmp .ge 15, 3) := by decide +kernel
theorem d_M_lays_15 : decode qM_lays.1 15 = .ok (.aload_n 0, 1) := by decide +kernel
theorem d_M_lays_16 : decode qM_lays.1 16 = .ok (.iload_n 1, 1) := by decide +kernel
theorem d_M_lays_17 : decode qM_lays.1 17 = .ok (.iload_n 2, 1) := by decide +kernel
theorem d_M_lays_18 : decode qM_lays.1 18 = .ok (.invokevirtual 329, 3) := by decide +kernel
theorem d_M_lays_21 : decode qM_lays.1 21 = .ok (.iinc 2 1, 3) := by decide +kernel
theorem d_M_lays_24 : decode qM_lays.1 24 = .ok (.goto (-17), 3) := by decide +kernel
theorem d_M_lays_27 : decode qM_lays.1 27 = .ok (.aload_n 0, 1) := by decide +kernel
theorem d_M_lays_28 : decode qM_lays.1 28 = .ok (.iconst 0, 1) := by decide +kernel
theorem d_M_lays_29 : decode qM_lays.1 29 = .ok (.putfield 289, 3) := by decide +kernel
theorem d_M_lays_32 : decode qM_lays.1 32 = .ok (.aload_n 0, 1) := by decide +kernel
theorem d_M_lays_33 : decode qM_lays.1 33 = .ok (.iconst 0, 1) := by decide +kernel
theorem d_M_lays_34 : decode qM_lays.1 34 = .ok (.putfield 292, 3) := by decide +kernel
theorem d_M_lays_37 : decode qM_lays.1 37 = .ok (.aload_n 0, 1) := by decide +kernel
theorem d_M_lays_38 : decode qM_lays.1 38 = .ok (.iconst 0, 1) := by decide +kernel
theorem d_M_lays_39 : decode qM_lays.1 39 = .ok (.putfield 295, 3) := by decide +kernel
theorem d_M_lays_42 : decode qM_lays.1 42 = .ok (.iconst 0, 1) := by decide +kernel
theorem d_M_lays_43 : decode qM_lays.1 43 = .ok (.istore_n 2, 1) := by decide +kernel
theorem d_M_lays_44 : decode qM_lays.1 44 = .ok (.iload_n 2, 1) := by decide +kernel
theorem d_M_lays_45 : decode qM_lays.1 45 = .ok (.aload_n 0, 1) := by decide +kernel
theorem d_M_lays_46 : decode qM_lays.1 46 = .ok (.iload_n 1, 1) := by decide +kernel
theorem d_M_lays_47 : decode qM_lays.1 47 = .ok (.invokevirtual 218, 3) := by decide +kernel
theorem d_M_lays_50 : decode qM_lays.1 50 = .ok (.if_icmp .ge 96, 3) := by decide +kernel
theorem d_M_lays_53 : decode qM_lays.1 53 = .ok (.aload_n 0, 1) := by decide +kernel
theorem d_M_lays_54 : decode qM_lays.1 54 = .ok (.getfield 78, 3) := by decide +kernel
theorem d_M_lays_57 : decode qM_lays.1 57 = .ok (.iload_n 2, 1) := by decide +kernel
theorem d_M_lays_58 : decode qM_lays.1 58 = .ok (.baload, 1) := by decide +kernel
theorem d_M_lays_59 : decode qM_lays.1 59 = .ok (.ifCond .eq 32, 3) := by decide +kernel
theorem d_M_lays_62 : decode qM_lays.1 62 = .ok (.aload_n 0, 1) := by decide +kernel
theorem d_M_lays_63 : decode qM_lays.1 63 = .ok (.getfield 81, 3) := by decide +kernel
theorem d_M_lays_66 : decode qM_lays.1 66 = .ok (.iload_n 2, 1) := by decide +kernel
theorem d_M_lays_67 : decode qM_lays.1 67 = .ok (.baload, 1) := by decide +kernel
theorem d_M_lays_68 : decode qM_lays.1 68 = .ok (.ifCond .eq 23, 3) := by decide +kernel
theorem d_M_lays_71 : decode qM_lays.1 71 = .ok (.aload_n 0, 1) := by decide +kernel
theorem d_M_lays_72 : decode qM_lays.1 72 = .ok (.aload_n 0, 1) := by decide +kernel
theorem d_M_lays_73 : decode qM_lays.1 73 = .ok (.getfield 84, 3) := by decide +kernel
theorem d_M_lays_76 : decode qM_lays.1 76 = .ok (.iload_n 2, 1) := by decide +kernel
theorem d_M_lays_77 : decode qM_lays.1 77 = .ok (.iaload, 1) := by decide +kernel
theorem d_M_lays_78 : decode qM_lays.1 78 = .ok (.putfield 292, 3) := by decide +kernel
theorem d_M_lays_81 : decode qM_lays.1 81 = .ok (.aload_n 0, 1) := by decide +kernel
theorem d_M_lays_82 : decode qM_lays.1 82 = .ok (.aload_n 0, 1) := by decide +kernel
theorem d_M_lays_83 : decode qM_lays.1 83 = .ok (.getfield 87, 3) := by decide +kernel
theorem d_M_lays_86 : decode qM_lays.1 86 = .ok (.iload_n 2, 1) := by decide +kernel
theorem d_M_lays_87 : decode qM_lays.1 87 = .ok (.iaload, 1) := by decide +kernel
theorem d_M_lays_88 : decode qM_lays.1 88 = .ok (.putfield 295, 3) := by decide +kernel
theorem d_M_lays_91 : decode qM_lays.1 91 = .ok (.aload_n 0, 1) := by decide +kernel
theorem d_M_lays_92 : decode qM_lays.1 92 = .ok (.getfield 90, 3) := by decide +kernel
theorem d_M_lays_95 : decode qM_lays.1 95 = .ok (.iload_n 2, 1) := by decide +kernel
theorem d_M_lays_96 : decode qM_lays.1 96 = .ok (.iaload, 1) := by decide +kernel
theorem d_M_lays_97 : decode qM_lays.1 97 = .ok (.istore_n 3, 1) := by decide +kernel
theorem d_M_lays_98 : decode qM_lays.1 98 = .ok (.iload_n 3, 1) := by decide +kernel
theorem d_M_lays_99 : decode qM_lays.1 99 = .ok (.aload_n 0, 1) := by decide +kernel
theorem d_M_lays_100 : decode qM_lays.1 100 = .ok (.getfield 90, 3) := by decide +kernel
theorem d_M_lays_103 : decode qM_lays.1 103 = .ok (.iload_n 2, 1) := by decide +kernel
theorem d_M_lays_104 : decode qM_lays.1 104 = .ok (.iconst 1, 1) := by decide +kernel
theorem d_M_lays_105 : decode qM_lays.1 105 = .ok (.iadd, 1) := by decide +kernel
theorem d_M_lays_106 : decode qM_lays.1 106 = .ok (.iaload, 1) := by decide +kernel
theorem d_M_lays_107 : decode qM_lays.1 107 = .ok (.if_icmp .ge 15, 3) := by decide +kernel
theorem d_M_lays_110 : decode qM_lays.1 110 = .ok (.aload_n 0, 1) := by decide +kernel
theorem d_M_lays_111 : decode qM_lays.1 111 = .ok (.iload_n 1, 1) := by decide +kernel
theorem d_M_lays_112 : decode qM_lays.1 112 = .ok (.iload_n 3, 1) := by decide +kernel
theorem d_M_lays_113 : decode qM_lays.1 113 = .ok (.invokevirtual 332, 3) := by decide +kernel
theorem d_M_lays_116 : decode qM_lays.1 116 = .ok (.iinc 3 1, 3) := by decide +kernel
theorem d_M_lays_119 : decode qM_lays.1 119 = .ok (.goto (-21), 3) := by decide +kernel
theorem d_M_lays_122 : decode qM_lays.1 122 = .ok (.aload_n 0, 1) := by decide +kernel
theorem d_M_lays_123 : decode qM_lays.1 123 = .ok (.iload_n 1, 1) := by decide +kernel
theorem d_M_lays_124 : decode qM_lays.1 124 = .ok (.iload_n 2, 1) := by decide +kernel
theorem d_M_lays_125 : decode qM_lays.1 125 = .ok (.iconst 0, 1) := by decide +kernel
theorem d_M_lays_126 : decode qM_lays.1 126 = .ok (.invokevirtual 168, 3) := by decide +kernel
theorem d_M_lays_129 : decode qM_lays.1 129 = .ok (.bipush 7, 2) := by decide +kernel
theorem d_M_lays_131 : decode qM_lays.1 131 = .ok (.if_icmp .ne 9, 3) := by decide +kernel
theorem d_M_lays_134 : decode qM_lays.1 134 = .ok (.aload_n 0, 1) := by decide +kernel
theorem d_M_lays_135 : decode qM_lays.1 135 = .ok (.iload_n 1, 1) := by decide +kernel
theorem d_M_lays_136 : decode qM_lays.1 136 = .ok (.iload_n 2, 1) := by decide +kernel
theorem d_M_lays_137 : decode qM_lays.1 137 = .ok (.invokevirtual 335, 3) := by decide +kernel
theorem d_M_lays_140 : decode qM_lays.1 140 = .ok (.iinc 2 1, 3) := by decide +kernel
theorem d_M_lays_143 : decode qM_lays.1 143 = .ok (.goto (-99), 3) := by decide +kernel
theorem d_M_lays_146 : decode qM_lays.1 146 = .ok (.aload_n 0, 1) := by decide +kernel
theorem d_M_lays_147 : decode qM_lays.1 147 = .ok (.iload_n 1, 1) := by decide +kernel
theorem d_M_lays_148 : decode qM_lays.1 148 = .ok (.invokevirtual 338, 3) := by decide +kernel
theorem d_M_lays_151 : decode qM_lays.1 151 = .ok (.aload_n 0, 1) := by decide +kernel
theorem d_M_lays_152 : decode qM_lays.1 152 = .ok (.iload_n 1, 1) := by decide +kernel
theorem d_M_lays_153 : decode qM_lays.1 153 = .ok (.invokevirtual 341, 3) := by decide +kernel
theorem d_M_lays_156 : decode qM_lays.1 156 = .ok (.return_, 1) := by decide +kernel
set_option maxRecDepth 100000 in
def lb_m_lays_98 (p1 : Int32) (a11 : Int32 × St) (J18 : St → Option (St)) (ih25 : Int32 × St → Option (St)) (a24 : Int32 × St) : Option (St) :=
  Gd (Ix (a11.1 + (1 : Int32)) 22) <|
  if ((a24.2 22 (Int32.toNatClampNeg (a11.1 + (1 : Int32)))) : Int32) ≤ a24.1 then (
  J18 a24.2
  ) else (
  Option.bind (m_laysSegment a24.2 p1 a24.1) fun x26 =>
  Lt (a24.1 + (1 : Int32) : Int32) fun x27 =>
  ih25 (x27, x26)
  )
set_option maxRecDepth 100000 in
def lb_m_lays_44 (p1 : Int32) (J8 : St → Option (St)) (ih12 : Int32 × St → Option (St)) (a11 : Int32 × St) : Option (St) :=
  Option.bind (m_count a11.2 p1) fun x13 =>
  if (x13 : Int32) ≤ a11.1 then (
  J8 a11.2
  ) else (
  Gd (Ix a11.1 21) <|
  Jn (fun (σ14 : St) =>
  Gd (Ix a11.1 22) <|
  Lt ((σ14 22 (Int32.toNatClampNeg a11.1)) : Int32) fun x16 =>
  Jn (fun (σ17 : St) =>
  Option.bind (m_of σ17 p1 a11.1 (0 : Int32)) fun x19 =>
  Jn (fun (σ20 : St) =>
  Lt (a11.1 + (1 : Int32) : Int32) fun x22 =>
  ih12 (x22, σ20)
  ) fun J21 =>
  if (x19 : Int32) = (7 : Int32) then (
  Option.bind (m_laysPattern σ17 p1 a11.1) fun x23 =>
  J21 x23
  ) else (
  J21 σ17
  )
  ) fun J18 =>
  lp (lb_m_lays_98 p1 a11 J18) 4000 (x16, σ14)
  ) fun J15 =>
  if ((a11.2 18 (Int32.toNatClampNeg a11.1)) : Int32) = 0 then (
  J15 a11.2
  ) else (
  Gd (Ix a11.1 21) <|
  if ((a11.2 19 (Int32.toNatClampNeg a11.1)) : Int32) = 0 then (
  J15 a11.2
  ) else (
  Gd (Ix a11.1 21) <|
  Lt (s2 a11.2 0 58 (a11.2 20 (Int32.toNatClampNeg a11.1))) fun σ28 =>
  Gd (Ix a11.1 21) <|
  Lt (s2 σ28 0 59 (σ28 21 (Int32.toNatClampNeg a11.1))) fun σ29 =>
  J15 σ29
  )
  )
  )
set_option maxRecDepth 100000 in
def lb_m_lays_7 (p1 : Int32) (J3 : St → Option (St)) (ih31 : Int32 × St → Option (St)) (a30 : Int32 × St) : Option (St) :=
  if ((a30.2 0 30) : Int32) ≤ a30.1 then (
  J3 a30.2
  ) else (
  Option.bind (m_laysTurn a30.2 p1 a30.1) fun x32 =>
  Lt (a30.1 + (1 : Int32) : Int32) fun x33 =>
  ih31 (x33, x32)
  )
set_option maxRecDepth 100000 in
def m_lays (σ : St) (p1 : Int32) : Option (St) :=
  Option.bind (m_laysSegments σ p1) fun x1 =>
  Jn (fun (σ2 : St) =>
  Lt (s2 σ2 0 57 (0 : Int32)) fun σ4 =>
  Lt (s2 σ4 0 58 (0 : Int32)) fun σ5 =>
  Lt (s2 σ5 0 59 (0 : Int32)) fun σ6 =>
  Jn (fun (σ7 : St) =>
  Option.bind (m_laysTotals σ7 p1) fun x9 =>
  Option.bind (m_laysAltitudes x9 p1) fun x10 =>
  some x10
  ) fun J8 =>
  lp (lb_m_lays_44 p1 J8) 4000 ((0 : Int32), σ6)
  ) fun J3 =>
  lp (lb_m_lays_7 p1 J3) 4000 ((0 : Int32), x1)
set_option maxHeartbeats 4000000 in
set_option maxRecDepth 100000 in
theorem cM_lays (l : Launch) (g : Ge) (hi : injB wM.2 g) (σ : St) (p1 : Int32) (x : St) (h : m_lays σ p1 = some x) : Ct l wM g yM_lays qM_lays 7 176 [.ref (g.1 0), .int p1] σ (none, x) := by
  refine Ct.of (out := o_v) FM_lays rfl hi rfl h (fun z hz C => ?_)
  clear h
  subst hz
  unfold m_lays
  show Rt z qM_lays wM g o_v 0 [(0, .ref (g.1 0)), (1, .int p1)] [] σ _
  refine q_aload_n (pc' := 1) C 0 d_M_lays_0 rfl rfl ?_
  refine q_iload_n (pc' := 2) C 1 d_M_lays_1 rfl rfl ?_
  refine q_callVv (fr' := 6) (lo' := 152) (pc' := 5) C FM_laysSegments lmM_325 d_M_lays_2 0 jM_0 kM_0 cM0 [.int p1] [] rfl rfl (Nat.le_of_ble_eq_true rfl) ⟨rfl, rfl⟩ (fun x h => cM_laysSegments _ g hi σ p1 x h) rfl (fun x1 _ => ?_)
  refine q_iconst (pc' := 6) C d_M_lays_5 ki_0 rfl ?_
  refine q_istore_n (pc' := 7) (lv' := [(2, .int (0 : Int32)), (0, .ref (g.1 0)), (1, .int p1)]) C d_M_lays_6 (by decide) rfl rfl ?_
  refine q_join (fun J3 : St → Option (St) => ∀ (σ2 : St), Rt z qM_lays wM g o_v 27 [(0, .ref (g.1 0)), (1, .int p1)] [] σ2 (J3 σ2)) (fun σ2 => ?_) (fun J3 hJ3 => ?_)
  · refine q_aload_n (pc' := 28) C 0 d_M_lays_27 rfl rfl ?_
    refine q_iconst (pc' := 29) C d_M_lays_28 ki_0 rfl ?_
    refine pM_289 (pc' := 32) C d_M_lays_29 rfl rfl ?_
    refine q_let (fun σ4 e4 => ?_)
    refine q_state e4 ?_
    refine q_aload_n (pc' := 33) C 0 d_M_lays_32 rfl rfl ?_
    refine q_iconst (pc' := 34) C d_M_lays_33 ki_0 rfl ?_
    refine pM_292 (pc' := 37) C d_M_lays_34 rfl rfl ?_
    refine q_let (fun σ5 e5 => ?_)
    refine q_state e5 ?_
    refine q_aload_n (pc' := 38) C 0 d_M_lays_37 rfl rfl ?_
    refine q_iconst (pc' := 39) C d_M_lays_38 ki_0 rfl ?_
    refine pM_295 (pc' := 42) C d_M_lays_39 rfl rfl ?_
    refine q_let (fun σ6 e6 => ?_)
    refine q_state e6 ?_
    refine q_iconst (pc' := 43) C d_M_lays_42 ki_0 rfl ?_
    refine q_istore_n (pc' := 44) (lv' := [(2, .int (0 : Int32)), (0, .ref (g.1 0)), (1, .int p1)]) C d_M_lays_43 (by decide) rfl rfl ?_
    refine q_join (fun J8 : St → Option (St) => ∀ (σ7 : St), Rt z qM_lays wM g o_v 146 [(0, .ref (g.1 0)), (1, .int p1)] [] σ7 (J8 σ7)) (fun σ7 => ?_) (fun J8 hJ8 => ?_)
    · refine q_aload_n (pc' := 147) C 0 d_M_lays_146 rfl rfl ?_
      refine q_iload_n (pc' := 148) C 1 d_M_lays_147 rfl rfl ?_
      refine q_callVv (fr' := 3) (lo' := 70) (pc' := 151) C FM_laysTotals lmM_338 d_M_lays_148 0 jM_0 kM_0 cM0 [.int p1] [] rfl rfl (Nat.le_of_ble_eq_true rfl) ⟨rfl, rfl⟩ (fun x h => cM_laysTotals _ g hi σ7 p1 x h) rfl (fun x9 _ => ?_)
      refine q_aload_n (pc' := 152) C 0 d_M_lays_151 rfl rfl ?_
      refine q_iload_n (pc' := 153) C 1 d_M_lays_152 rfl rfl ?_
      refine q_callVv (fr' := 1) (lo' := 23) (pc' := 156) C FM_laysAltitudes lmM_341 d_M_lays_153 0 jM_0 kM_0 cM0 [.int p1] [] rfl rfl (Nat.le_of_ble_eq_true rfl) ⟨rfl, rfl⟩ (fun x h => cM_laysAltitudes _ g hi x9 p1 x h) rfl (fun x10 _ => ?_)
      exact q_vret C rfl d_M_lays_156 rfl
    refine Rt.sub [1, 2, 0] rfl (q_lp (fun a11 : Int32 × St => [(0, .ref (g.1 0)), (1, .int p1), (2, .int a11.1)]) (fun a11 => []) (fun a11 => a11.2) (fun ih12 hih12 a11 => ?_) 4000 ((0 : Int32), σ6))
    unfold lb_m_lays_44
    refine q_iload_n (pc' := 45) C 2 d_M_lays_44 rfl rfl ?_
    refine q_aload_n (pc' := 46) C 0 d_M_lays_45 rfl rfl ?_
    refine q_iload_n (pc' := 47) C 1 d_M_lays_46 rfl rfl ?_
    refine q_callVr (fr' := 0) (lo' := 0) (pc' := 50) C FM_count lmM_218 d_M_lays_47 0 jM_0 kM_0 cM0 [.int p1] [.int a11.1] rfl rfl (Nat.le_of_ble_eq_true rfl) ⟨rfl, rfl⟩ (fun x h => cM_count _ g hi a11.2 p1 x h) rfl (fun x13 _ => ?_)
    refine q_icmp_ge (tgt := 146) (pc' := 53) C d_M_lays_50 rfl rfl ?_ ?_
    · exact Rt.sub [0, 1] rfl (hJ8 a11.2)
    · refine q_aload_n (pc' := 54) C 0 d_M_lays_53 rfl rfl ?_
      refine gM_78 (pc' := 57) C d_M_lays_54 rfl rfl ?_
      refine q_iload_n (pc' := 58) C 2 d_M_lays_57 rfl rfl ?_
      refine q_zald (pc' := 59) C 18 jM_18 kM_18 d_M_lays_58 rfl ?_
      refine q_join (fun J15 : St → Option (St) => ∀ (σ14 : St), Rt z qM_lays wM g o_v 91 [(0, .ref (g.1 0)), (1, .int p1), (2, .int a11.1)] [] σ14 (J15 σ14)) (fun σ14 => ?_) (fun J15 hJ15 => ?_)
      · refine q_aload_n (pc' := 92) C 0 d_M_lays_91 rfl rfl ?_
        refine gM_90 (pc' := 95) C d_M_lays_92 rfl rfl ?_
        refine q_iload_n (pc' := 96) C 2 d_M_lays_95 rfl rfl ?_
        refine q_iald (pc' := 97) C 22 jM_22 kM_22 d_M_lays_96 rfl ?_
        refine q_let (fun x16 e16 => ?_)
        refine q_topi e16 ?_
        refine q_istore_n (pc' := 98) (lv' := [(3, .int x16), (0, .ref (g.1 0)), (1, .int p1), (2, .int a11.1)]) C d_M_lays_97 (by decide) rfl rfl ?_
        refine q_join (fun J18 : St → Option (St) => ∀ (σ17 : St), Rt z qM_lays wM g o_v 122 [(0, .ref (g.1 0)), (1, .int p1), (2, .int a11.1)] [] σ17 (J18 σ17)) (fun σ17 => ?_) (fun J18 hJ18 => ?_)
        · refine q_aload_n (pc' := 123) C 0 d_M_lays_122 rfl rfl ?_
          refine q_iload_n (pc' := 124) C 1 d_M_lays_123 rfl rfl ?_
          refine q_iload_n (pc' := 125) C 2 d_M_lays_124 rfl rfl ?_
          refine q_iconst (pc' := 126) C d_M_lays_125 ki_0 rfl ?_
          refine q_callVr (fr' := 0) (lo' := 0) (pc' := 129) C FM_of lmM_168 d_M_lays_126 0 jM_0 kM_0 cM0 [.int p1, .int a11.1, .int (0 : Int32)] [] rfl rfl (Nat.le_of_ble_eq_true rfl) ⟨rfl, rfl⟩ (fun x h => cM_of _ g hi σ17 p1 a11.1 (0 : Int32) x h) rfl (fun x19 _ => ?_)
          refine q_bipush (pc' := 131) C d_M_lays_129 kb_7 rfl ?_
          refine q_join (fun J21 : St → Option (St) => ∀ (σ20 : St), Rt z qM_lays wM g o_v 140 [(0, .ref (g.1 0)), (1, .int p1), (2, .int a11.1)] [] σ20 (J21 σ20)) (fun σ20 => ?_) (fun J21 hJ21 => ?_)
          · refine q_let (fun x22 e22 => ?_)
            refine q_iinc (pc' := 143) (lv' := [(2, .int x22), (0, .ref (g.1 0)), (1, .int p1)]) C 2 d_M_lays_140 rfl (by rw [e22, ki_1]) (by decide) rfl rfl ?_
            refine q_goto (tgt := 44) C d_M_lays_143 rfl ?_
            exact Rt.sub [1, 2, 0] rfl (hih12 (x22, σ20))
          refine q_icmp_ne (tgt := 140) (pc' := 134) C d_M_lays_131 rfl rfl ?_ ?_
          · exact Rt.sub [0, 1, 2] rfl (hJ21 σ17)
          · refine q_aload_n (pc' := 135) C 0 d_M_lays_134 rfl rfl ?_
            refine q_iload_n (pc' := 136) C 1 d_M_lays_135 rfl rfl ?_
            refine q_iload_n (pc' := 137) C 2 d_M_lays_136 rfl rfl ?_
            refine q_callVv (fr' := 3) (lo' := 65) (pc' := 140) C FM_laysPattern lmM_335 d_M_lays_137 0 jM_0 kM_0 cM0 [.int p1, .int a11.1] [] rfl rfl (Nat.le_of_ble_eq_true rfl) ⟨rfl, rfl⟩ (fun x h => cM_laysPattern _ g hi σ17 p1 a11.1 x h) rfl (fun x23 _ => ?_)
            exact Rt.sub [0, 1, 2] rfl (hJ21 x23)
        refine Rt.sub [1, 2, 3, 0] rfl (q_lp (fun a24 : Int32 × St => [(0, .ref (g.1 0)), (1, .int p1), (2, .int a11.1), (3, .int a24.1)]) (fun a24 => []) (fun a24 => a24.2) (fun ih25 hih25 a24 => ?_) 4000 (x16, σ14))
        unfold lb_m_lays_98
        refine q_iload_n (pc' := 99) C 3 d_M_lays_98 rfl rfl ?_
        refine q_aload_n (pc' := 100) C 0 d_M_lays_99 rfl rfl ?_
        refine gM_90 (pc' := 103) C d_M_lays_100 rfl rfl ?_
        refine q_iload_n (pc' := 104) C 2 d_M_lays_103 rfl rfl ?_
        refine q_iconst (pc' := 105) C d_M_lays_104 ki_1 rfl ?_
        refine q_iadd (pc' := 106) C d_M_lays_105 rfl ?_
        refine q_iald (pc' := 107) C 22 jM_22 kM_22 d_M_lays_106 rfl ?_
        refine q_icmp_ge (tgt := 122) (pc' := 110) C d_M_lays_107 rfl rfl ?_ ?_
        · exact Rt.sub [0, 1, 2] rfl (hJ18 a24.2)
        · refine q_aload_n (pc' := 111) C 0 d_M_lays_110 rfl rfl ?_
          refine q_iload_n (pc' := 112) C 1 d_M_lays_111 rfl rfl ?_
          refine q_iload_n (pc' := 113) C 3 d_M_lays_112 rfl rfl ?_
          refine q_callVv (fr' := 4) (lo' := 125) (pc' := 116) C FM_laysSegment lmM_332 d_M_lays_113 0 jM_0 kM_0 cM0 [.int p1, .int a24.1] [] rfl rfl (Nat.le_of_ble_eq_true rfl) ⟨rfl, rfl⟩ (fun x h => cM_laysSegment _ g hi a24.2 p1 a24.1 x h) rfl (fun x26 _ => ?_)
          refine q_let (fun x27 e27 => ?_)
          refine q_iinc (pc' := 119) (lv' := [(3, .int x27), (0, .ref (g.1 0)), (1, .int p1), (2, .int a11.1)]) C 3 d_M_lays_116 rfl (by rw [e27, ki_1]) (by decide) rfl rfl ?_
          refine q_goto (tgt := 98) C d_M_lays_119 rfl ?_
          exact Rt.sub [1, 2, 3, 0] rfl (hih25 (x27, x26))
      refine q_if_eq (tgt := 91) (pc' := 62) C d_M_lays_59 rfl rfl ?_ ?_
      · exact Rt.sub [0, 1, 2] rfl (hJ15 a11.2)
      · refine q_aload_n (pc' := 63) C 0 d_M_lays_62 rfl rfl ?_
        refine gM_81 (pc' := 66) C d_M_lays_63 rfl rfl ?_
        refine q_iload_n (pc' := 67) C 2 d_M_lays_66 rfl rfl ?_
        refine q_zald (pc' := 68) C 19 jM_19 kM_19 d_M_lays_67 rfl ?_
        refine q_if_eq (tgt := 91) (pc' := 71) C d_M_lays_68 rfl rfl ?_ ?_
        · exact Rt.sub [0, 1, 2] rfl (hJ15 a11.2)
        · refine q_aload_n (pc' := 72) C 0 d_M_lays_71 rfl rfl ?_
          refine q_aload_n (pc' := 73) C 0 d_M_lays_72 rfl rfl ?_
          refine gM_84 (pc' := 76) C d_M_lays_73 rfl rfl ?_
          refine q_iload_n (pc' := 77) C 2 d_M_lays_76 rfl rfl ?_
          refine q_iald (pc' := 78) C 20 jM_20 kM_20 d_M_lays_77 rfl ?_
          refine pM_292 (pc' := 81) C d_M_lays_78 rfl rfl ?_
          refine q_let (fun σ28 e28 => ?_)
          refine q_state e28 ?_
          refine q_aload_n (pc' := 82) C 0 d_M_lays_81 rfl rfl ?_
          refine q_aload_n (pc' := 83) C 0 d_M_lays_82 rfl rfl ?_
          refine gM_87 (pc' := 86) C d_M_lays_83 rfl rfl ?_
          refine q_iload_n (pc' := 87) C 2 d_M_lays_86 rfl rfl ?_
          refine q_iald (pc' := 88) C 21 jM_21 kM_21 d_M_lays_87 rfl ?_
          refine pM_295 (pc' := 91) C d_M_lays_88 rfl rfl ?_
          refine q_let (fun σ29 e29 => ?_)
          refine q_state e29 ?_
          exact Rt.sub [0, 1, 2] rfl (hJ15 σ29)
  refine Rt.sub [1, 2, 0] rfl (q_lp (fun a30 : Int32 × St => [(0, .ref (g.1 0)), (1, .int p1), (2, .int a30.1)]) (fun a30 => []) (fun a30 => a30.2) (fun ih31 hih31 a30 => ?_) 4000 ((0 : Int32), x1))
  unfold lb_m_lays_7
  refine q_iload_n (pc' := 8) C 2 d_M_lays_7 rfl rfl ?_
  refine q_aload_n (pc' := 9) C 0 d_M_lays_8 rfl rfl ?_
  refine gM_172 (pc' := 12) C d_M_lays_9 rfl rfl ?_
  refine q_icmp_ge (tgt := 27) (pc' := 15) C d_M_lays_12 rfl rfl ?_ ?_
  · exact Rt.sub [0, 1] rfl (hJ3 a30.2)
  · refine q_aload_n (pc' := 16) C 0 d_M_lays_15 rfl rfl ?_
    refine q_iload_n (pc' := 17) C 1 d_M_lays_16 rfl rfl ?_
    refine q_iload_n (pc' := 18) C 2 d_M_lays_17 rfl rfl ?_
    refine q_callVv (fr' := 3) (lo' := 70) (pc' := 21) C FM_laysTurn lmM_329 d_M_lays_18 0 jM_0 kM_0 cM0 [.int p1, .int a30.1] [] rfl rfl (Nat.le_of_ble_eq_true rfl) ⟨rfl, rfl⟩ (fun x h => cM_laysTurn _ g hi a30.2 p1 a30.1 x h) rfl (fun x32 _ => ?_)
    refine q_let (fun x33 e33 => ?_)
    refine q_iinc (pc' := 24) (lv' := [(2, .int x33), (0, .ref (g.1 0)), (1, .int p1)]) C 2 d_M_lays_21 rfl (by rw [e33, ki_1]) (by decide) rfl rfl ?_
    refine q_goto (tgt := 7) C d_M_lays_24 rfl ?_
    exact Rt.sub [1, 2, 0] rfl (hih31 (x33, x32))
theorem d_M_altitudeOf_0 : decode qM_altitudeOf.1 0 = .ok (.aload_n 0, 1) := by decide +kernel
theorem d_M_altitudeOf_1 : decode qM_altitudeOf.1 1 = .ok (.getfield 141, 3) := by decide +kernel
theorem d_M_altitudeOf_4 : decode qM_altitudeOf.1 4 = .ok (.iload_n 1, 1) := by decide +kernel
theorem d_M_altitudeOf_5 : decode qM_altitudeOf.1 5 = .ok (.iaload, 1) := by decide +kernel
theorem d_M_altitudeOf_6 : decode qM_altitudeOf.1 6 = .ok (.aload_n 0, 1) := by decide +kernel
theorem d_M_altitudeOf_7 : decode qM_altitudeOf.1 7 = .ok (.getfield 144, 3) := by decide +kernel
theorem d_M_altitudeOf_10 : decode qM_altitudeOf.1 10 = .ok (.iload_n 1, 1) := by decide +kernel
theorem d_M_altitudeOf_11 : decode qM_altitudeOf.1 11 = .ok (.iaload, 1) := by decide +kernel
theorem d_M_altitudeOf_12 : decode qM_altitudeOf.1 12 = .ok (.invokestatic 267, 3) := by decide +kernel
theorem d_M_altitudeOf_15 : decode qM_altitudeOf.1 15 = .ok (.ireturn, 1) := by decide +kernel
set_option maxRecDepth 100000 in
def m_altitudeOf (σ : St) (p1 : Int32) : Option (Int32) :=
  Gd (Ix p1 21) <|
  Gd (Ix p1 21) <|
  Option.bind (m_lesser (σ 39 (Int32.toNatClampNeg p1)) (σ 40 (Int32.toNatClampNeg p1))) fun x1 =>
  some x1
set_option maxHeartbeats 4000000 in
set_option maxRecDepth 100000 in
theorem cM_altitudeOf (l : Launch) (g : Ge) (hi : injB wM.2 g) (σ : St) (p1 : Int32) (x : Int32) (h : m_altitudeOf σ p1 = some x) : Ct l wM g yM_altitudeOf qM_altitudeOf 1 21 [.ref (g.1 0), .int p1] σ (some (.int x), σ) := by
  refine Ct.of (out := (o_r σ)) FM_altitudeOf rfl hi rfl h (fun z hz C => ?_)
  clear h
  subst hz
  unfold m_altitudeOf
  show Rt z qM_altitudeOf wM g (o_r σ) 0 [(0, .ref (g.1 0)), (1, .int p1)] [] σ _
  refine q_aload_n (pc' := 1) C 0 d_M_altitudeOf_0 rfl rfl ?_
  refine gM_141 (pc' := 4) C d_M_altitudeOf_1 rfl rfl ?_
  refine q_iload_n (pc' := 5) C 1 d_M_altitudeOf_4 rfl rfl ?_
  refine q_iald (pc' := 6) C 39 jM_39 kM_39 d_M_altitudeOf_5 rfl ?_
  refine q_aload_n (pc' := 7) C 0 d_M_altitudeOf_6 rfl rfl ?_
  refine gM_144 (pc' := 10) C d_M_altitudeOf_7 rfl rfl ?_
  refine q_iload_n (pc' := 11) C 1 d_M_altitudeOf_10 rfl rfl ?_
  refine q_iald (pc' := 12) C 40 jM_40 kM_40 d_M_altitudeOf_11 rfl ?_
  refine q_callSr (fr' := 0) (lo' := 0) (pc' := 15) C FM_lesser lmM_267 d_M_altitudeOf_12 [.int (σ 39 (Int32.toNatClampNeg p1)), .int (σ 40 (Int32.toNatClampNeg p1))] [] rfl rfl (Nat.le_of_ble_eq_true rfl) ⟨rfl, rfl⟩ (fun x h => cM_lesser _ g hi σ (σ 39 (Int32.toNatClampNeg p1)) (σ 40 (Int32.toNatClampNeg p1)) x h) rfl (fun x1 _ => ?_)
  exact q_iret C rfl d_M_altitudeOf_15 rfl
theorem d_M_altitudeBefore_0 : decode qM_altitudeBefore.1 0 = .ok (.iload_n 1, 1) := by decide +kernel
theorem d_M_altitudeBefore_1 : decode qM_altitudeBefore.1 1 = .ok (.ifCond .ne 10, 3) := by decide +kernel
theorem d_M_altitudeBefore_4 : decode qM_altitudeBefore.1 4 = .ok (.aload_n 0, 1) := by decide +kernel
theorem d_M_altitudeBefore_5 : decode qM_altitudeBefore.1 5 = .ok (.getfield 257, 3) := by decide +kernel
theorem d_M_altitudeBefore_8 : decode qM_altitudeBefore.1 8 = .ok (.goto 10, 3) := by decide +kernel
theorem d_M_altitudeBefore_11 : decode qM_altitudeBefore.1 11 = .ok (.aload_n 0, 1) := by decide +kernel
theorem d_M_altitudeBefore_12 : decode qM_altitudeBefore.1 12 = .ok (.iload_n 1, 1) := by decide +kernel
theorem d_M_altitudeBefore_13 : decode qM_altitudeBefore.1 13 = .ok (.iconst 1, 1) := by decide +kernel
theorem d_M_altitudeBefore_14 : decode qM_altitudeBefore.1 14 = .ok (.isub, 1) := by decide +kernel
theorem d_M_altitudeBefore_15 : decode qM_altitudeBefore.1 15 = .ok (.invokevirtual 350, 3) := by decide +kernel
theorem d_M_altitudeBefore_18 : decode qM_altitudeBefore.1 18 = .ok (.ireturn, 1) := by decide +kernel
set_option maxRecDepth 100000 in
def m_altitudeBefore (σ : St) (p1 : Int32) : Option (Int32) :=
  Jn (fun (x1 : Int32) =>
  some x1
  ) fun J2 =>
  if (p1 : Int32) = 0 then (
  J2 (σ 0 15)
  ) else (
  Option.bind (m_altitudeOf σ (p1 - (1 : Int32))) fun x3 =>
  J2 x3
  )
set_option maxHeartbeats 4000000 in
set_option maxRecDepth 100000 in
theorem cM_altitudeBefore (l : Launch) (g : Ge) (hi : injB wM.2 g) (σ : St) (p1 : Int32) (x : Int32) (h : m_altitudeBefore σ p1 = some x) : Ct l wM g yM_altitudeBefore qM_altitudeBefore 2 42 [.ref (g.1 0), .int p1] σ (some (.int x), σ) := by
  refine Ct.of (out := (o_r σ)) FM_altitudeBefore rfl hi rfl h (fun z hz C => ?_)
  clear h
  subst hz
  unfold m_altitudeBefore
  show Rt z qM_altitudeBefore wM g (o_r σ) 0 [(0, .ref (g.1 0)), (1, .int p1)] [] σ _
  refine q_iload_n (pc' := 1) C 1 d_M_altitudeBefore_0 rfl rfl ?_
  refine q_join (fun J2 : Int32 → Option (Int32) => ∀ (x1 : Int32), Rt z qM_altitudeBefore wM g (o_r σ) 18 [] [.int x1] σ (J2 x1)) (fun x1 => ?_) (fun J2 hJ2 => ?_)
  · exact q_iret C rfl d_M_altitudeBefore_18 rfl
  refine q_if_ne (tgt := 11) (pc' := 4) C d_M_altitudeBefore_1 rfl rfl ?_ ?_
  · refine q_aload_n (pc' := 12) C 0 d_M_altitudeBefore_11 rfl rfl ?_
    refine q_iload_n (pc' := 13) C 1 d_M_altitudeBefore_12 rfl rfl ?_
    refine q_iconst (pc' := 14) C d_M_altitudeBefore_13 ki_1 rfl ?_
    refine q_isub (pc' := 15) C d_M_altitudeBefore_14 rfl ?_
    refine q_callVr (fr' := 1) (lo' := 21) (pc' := 18) C FM_altitudeOf lmM_350 d_M_altitudeBefore_15 0 jM_0 kM_0 cM0 [.int (p1 - (1 : Int32))] [] rfl rfl (Nat.le_of_ble_eq_true rfl) ⟨rfl, rfl⟩ (fun x h => cM_altitudeOf _ g hi σ (p1 - (1 : Int32)) x h) rfl (fun x3 _ => ?_)
    exact Rt.sub [] rfl (hJ2 x3)
  · refine q_aload_n (pc' := 5) C 0 d_M_altitudeBefore_4 rfl rfl ?_
    refine gM_257 (pc' := 8) C d_M_altitudeBefore_5 rfl rfl ?_
    refine q_goto (tgt := 18) C d_M_altitudeBefore_8 rfl ?_
    exact Rt.sub [] rfl (hJ2 (σ 0 15))
theorem d_M_violationOf_0 : decode qM_violationOf.1 0 = .ok (.aload_n 0, 1) := by decide +kernel
theorem d_M_violationOf_1 : decode qM_violationOf.1 1 = .ok (.iload_n 2, 1) := by decide +kernel
theorem d_M_violationOf_2 : decode qM_violationOf.1 2 = .ok (.invokevirtual 350, 3) := by decide +kernel
theorem d_M_violationOf_5 : decode qM_violationOf.1 5 = .ok (.aload_n 0, 1) := by decide +kernel
theorem d_M_violationOf_6 : decode qM_violationOf.1 6 = .ok (.iload_n 1, 1) := by decide +kernel
theorem d_M_violationOf_7 : decode qM_violationOf.1 7 = .ok (.iload_n 2, 1) := by decide +kernel
theorem d_M_violationOf_8 : decode qM_violationOf.1 8 = .ok (.bipush 9, 2) := by decide +kernel
theorem d_M_violationOf_10 : decode qM_violationOf.1 10 = .ok (.invokevirtual 168, 3) := by decide +kernel
theorem d_M_violationOf_13 : decode qM_violationOf.1 13 = .ok (.if_icmp .ge 7, 3) := by decide +kernel
theorem d_M_violationOf_16 : decode qM_violationOf.1 16 = .ok (.iconst 1, 1) := by decide +kernel
theorem d_M_violationOf_17 : decode qM_violationOf.1 17 = .ok (.goto 4, 3) := by decide +kernel
theorem d_M_violationOf_20 : decode qM_violationOf.1 20 = .ok (.iconst 0, 1) := by decide +kernel
theorem d_M_violationOf_21 : decode qM_violationOf.1 21 = .ok (.istore_n 3, 1) := by decide +kernel
theorem d_M_violationOf_22 : decode qM_violationOf.1 22 = .ok (.aload_n 0, 1) := by decide +kernel
theorem d_M_violationOf_23 : decode qM_violationOf.1 23 = .ok (.iload_n 2, 1) := by decide +kernel
theorem d_M_violationOf_24 : decode qM_violationOf.1 24 = .ok (.invokevirtual 353, 3) := by decide +kernel
theorem d_M_violationOf_27 : decode qM_violationOf.1 27 = .ok (.aload_n 0, 1) := by decide +kernel
theorem d_M_violationOf_28 : decode qM_violationOf.1 28 = .ok (.iload_n 2, 1) := by decide +kernel
theorem d_M_violationOf_29 : decode qM_violationOf.1 29 = .ok (.invokevirtual 350, 3) := by decide +kernel
theorem d_M_violationOf_32 : decode qM_violationOf.1 32 = .ok (.isub, 1) := by decide +kernel
theorem d_M_violationOf_33 : decode qM_violationOf.1 33 = .ok (.i2l, 1) := by decide +kernel
theorem d_M_violationOf_34 : decode qM_violationOf.1 34 = .ok (.ldc2_w 160, 3) := by decide +kernel
theorem d_M_violationOf_37 : decode qM_violationOf.1 37 = .ok (.lmul, 1) := by decide +kernel
theorem d_M_violationOf_38 : decode qM_violationOf.1 38 = .ok (.lstore 4, 2) := by decide +kernel
theorem d_M_violationOf_40 : decode qM_violationOf.1 40 = .ok (.iload_n 3, 1) := by decide +kernel
theorem d_M_violationOf_41 : decode qM_violationOf.1 41 = .ok (.lload 4, 2) := by decide +kernel
theorem d_M_violationOf_43 : decode qM_violationOf.1 43 = .ok (.aload_n 0, 1) := by decide +kernel
theorem d_M_violationOf_44 : decode qM_violationOf.1 44 = .ok (.getfield 135, 3) := by decide +kernel
theorem d_M_violationOf_47 : decode qM_violationOf.1 47 = .ok (.iload_n 2, 1) := by decide +kernel
theorem d_M_violationOf_48 : decode qM_violationOf.1 48 = .ok (.iaload, 1) := by decide +kernel
theorem d_M_violationOf_49 : decode qM_violationOf.1 49 = .ok (.i2l, 1) := by decide +kernel
theorem d_M_violationOf_50 : decode qM_violationOf.1 50 = .ok (.aload_n 0, 1) := by decide +kernel
theorem d_M_violationOf_51 : decode qM_violationOf.1 51 = .ok (.getfield 36, 3) := by decide +kernel
theorem d_M_violationOf_54 : decode qM_violationOf.1 54 = .ok (.i2l, 1) := by decide +kernel
theorem d_M_violationOf_55 : decode qM_violationOf.1 55 = .ok (.lmul, 1) := by decide +kernel
theorem d_M_violationOf_56 : decode qM_violationOf.1 56 = .ok (.lcmp, 1) := by decide +kernel
theorem d_M_violationOf_57 : decode qM_violationOf.1 57 = .ok (.ifCond .le 7, 3) := by decide +kernel
theorem d_M_violationOf_60 : decode qM_violationOf.1 60 = .ok (.iconst 2, 1) := by decide +kernel
theorem d_M_violationOf_61 : decode qM_violationOf.1 61 = .ok (.goto 4, 3) := by decide +kernel
theorem d_M_violationOf_64 : decode qM_violationOf.1 64 = .ok (.iconst 0, 1) := by decide +kernel
theorem d_M_violationOf_65 : decode qM_violationOf.1 65 = .ok (.iadd, 1) := by decide +kernel
theorem d_M_violationOf_66 : decode qM_violationOf.1 66 = .ok (.ireturn, 1) := by decide +kernel
set_option maxRecDepth 100000 in
def m_violationOf (σ : St) (p1 : Int32) (p2 : Int32) : Option (Int32) :=
  Option.bind (m_altitudeOf σ p2) fun x1 =>
  Option.bind (m_of σ p1 p2 (9 : Int32)) fun x2 =>
  Jn (fun (x3 : Int32) =>
  Option.bind (m_altitudeBefore σ p2) fun x5 =>
  Option.bind (m_altitudeOf σ p2) fun x6 =>
  Lt (((Int32.toInt64 (x5 - x6)) * (1000 : Int64)) : Int64) fun x7 =>
  Gd (Ix p2 21) <|
  Jn (fun (x8 : Int32) =>
  some (x3 + x8)
  ) fun J9 =>
  if (x7 : Int64) ≤ ((Int32.toInt64 (σ 37 (Int32.toNatClampNeg p2))) * (Int32.toInt64 (σ 0 14))) then (
  J9 (0 : Int32)
  ) else (
  J9 (2 : Int32)
  )
  ) fun J4 =>
  if (x2 : Int32) ≤ x1 then (
  J4 (0 : Int32)
  ) else (
  J4 (1 : Int32)
  )
set_option maxHeartbeats 4000000 in
set_option maxRecDepth 100000 in
theorem cM_violationOf (l : Launch) (g : Ge) (hi : injB wM.2 g) (σ : St) (p1 : Int32) (p2 : Int32) (x : Int32) (h : m_violationOf σ p1 p2 = some x) : Ct l wM g yM_violationOf qM_violationOf 3 63 [.ref (g.1 0), .int p1, .int p2] σ (some (.int x), σ) := by
  refine Ct.of (out := (o_r σ)) FM_violationOf rfl hi rfl h (fun z hz C => ?_)
  clear h
  subst hz
  unfold m_violationOf
  show Rt z qM_violationOf wM g (o_r σ) 0 [(0, .ref (g.1 0)), (1, .int p1), (2, .int p2)] [] σ _
  refine q_aload_n (pc' := 1) C 0 d_M_violationOf_0 rfl rfl ?_
  refine q_iload_n (pc' := 2) C 2 d_M_violationOf_1 rfl rfl ?_
  refine q_callVr (fr' := 1) (lo' := 21) (pc' := 5) C FM_altitudeOf lmM_350 d_M_violationOf_2 0 jM_0 kM_0 cM0 [.int p2] [] rfl rfl (Nat.le_of_ble_eq_true rfl) ⟨rfl, rfl⟩ (fun x h => cM_altitudeOf _ g hi σ p2 x h) rfl (fun x1 _ => ?_)
  refine q_aload_n (pc' := 6) C 0 d_M_violationOf_5 rfl rfl ?_
  refine q_iload_n (pc' := 7) C 1 d_M_violationOf_6 rfl rfl ?_
  refine q_iload_n (pc' := 8) C 2 d_M_violationOf_7 rfl rfl ?_
  refine q_bipush (pc' := 10) C d_M_violationOf_8 kb_9 rfl ?_
  refine q_callVr (fr' := 0) (lo' := 0) (pc' := 13) C FM_of lmM_168 d_M_violationOf_10 0 jM_0 kM_0 cM0 [.int p1, .int p2, .int (9 : Int32)] [.int x1] rfl rfl (Nat.le_of_ble_eq_true rfl) ⟨rfl, rfl⟩ (fun x h => cM_of _ g hi σ p1 p2 (9 : Int32) x h) rfl (fun x2 _ => ?_)
  refine q_join (fun J4 : Int32 → Option (Int32) => ∀ (x3 : Int32), Rt z qM_violationOf wM g (o_r σ) 21 [(0, .ref (g.1 0)), (2, .int p2)] [.int x3] σ (J4 x3)) (fun x3 => ?_) (fun J4 hJ4 => ?_)
  · refine q_istore_n (pc' := 22) (lv' := [(3, .int x3), (0, .ref (g.1 0)), (2, .int p2)]) C d_M_violationOf_21 (by decide) rfl rfl ?_
    refine q_aload_n (pc' := 23) C 1 d_M_violationOf_22 rfl rfl ?_
    refine q_iload_n (pc' := 24) C 2 d_M_violationOf_23 rfl rfl ?_
    refine q_callVr (fr' := 2) (lo' := 42) (pc' := 27) C FM_altitudeBefore lmM_353 d_M_violationOf_24 0 jM_0 kM_0 cM0 [.int p2] [] rfl rfl (Nat.le_of_ble_eq_true rfl) ⟨rfl, rfl⟩ (fun x h => cM_altitudeBefore _ g hi σ p2 x h) rfl (fun x5 _ => ?_)
    refine q_aload_n (pc' := 28) C 1 d_M_violationOf_27 rfl rfl ?_
    refine q_iload_n (pc' := 29) C 2 d_M_violationOf_28 rfl rfl ?_
    refine q_callVr (fr' := 1) (lo' := 21) (pc' := 32) C FM_altitudeOf lmM_350 d_M_violationOf_29 0 jM_0 kM_0 cM0 [.int p2] [.int x5] rfl rfl (Nat.le_of_ble_eq_true rfl) ⟨rfl, rfl⟩ (fun x h => cM_altitudeOf _ g hi σ p2 x h) rfl (fun x6 _ => ?_)
    refine q_isub (pc' := 33) C d_M_violationOf_32 rfl ?_
    refine q_i2l (pc' := 34) C d_M_violationOf_33 rfl ?_
    refine q_ldc2 (pc' := 37) C lLM_160 d_M_violationOf_34 rfl ?_
    refine q_lmul (pc' := 38) C d_M_violationOf_37 rfl ?_
    refine q_let (fun x7 e7 => ?_)
    refine q_topl e7 ?_
    refine q_lstore (pc' := 40) (lv' := [(4, .long x7), (3, .int x3), (0, .ref (g.1 0)), (2, .int p2)]) C d_M_violationOf_38 (by decide) rfl rfl ?_
    refine q_iload_n (pc' := 41) C 1 d_M_violationOf_40 rfl rfl ?_
    refine q_lload (pc' := 43) C 0 d_M_violationOf_41 rfl rfl ?_
    refine q_aload_n (pc' := 44) C 2 d_M_violationOf_43 rfl rfl ?_
    refine gM_135 (pc' := 47) C d_M_violationOf_44 rfl rfl ?_
    refine q_iload_n (pc' := 48) C 3 d_M_violationOf_47 rfl rfl ?_
    refine q_iald (pc' := 49) C 37 jM_37 kM_37 d_M_violationOf_48 rfl ?_
    refine q_i2l (pc' := 50) C d_M_violationOf_49 rfl ?_
    refine q_aload_n (pc' := 51) C 2 d_M_violationOf_50 rfl rfl ?_
    refine gM_36 (pc' := 54) C d_M_violationOf_51 rfl rfl ?_
    refine q_i2l (pc' := 55) C d_M_violationOf_54 rfl ?_
    refine q_lmul (pc' := 56) C d_M_violationOf_55 rfl ?_
    refine q_join (fun J9 : Int32 → Option (Int32) => ∀ (x8 : Int32), Rt z qM_violationOf wM g (o_r σ) 65 [] [.int x8, .int x3] σ (J9 x8)) (fun x8 => ?_) (fun J9 hJ9 => ?_)
    · refine q_iadd (pc' := 66) C d_M_violationOf_65 rfl ?_
      exact q_iret C rfl d_M_violationOf_66 rfl
    refine q_lcmp_le (tgt := 64) (pc' := 60) C d_M_violationOf_56 d_M_violationOf_57 rfl rfl ?_ ?_
    · refine q_iconst (pc' := 65) C d_M_violationOf_64 ki_0 rfl ?_
      exact Rt.sub [] rfl (hJ9 (0 : Int32))
    · refine q_iconst (pc' := 61) C d_M_violationOf_60 ki_2 rfl ?_
      refine q_goto (tgt := 65) C d_M_violationOf_61 rfl ?_
      exact Rt.sub [] rfl (hJ9 (2 : Int32))
  refine q_icmp_ge (tgt := 20) (pc' := 16) C d_M_violationOf_13 rfl rfl ?_ ?_
  · refine q_iconst (pc' := 21) C d_M_violationOf_20 ki_0 rfl ?_
    exact Rt.sub [0, 2] rfl (hJ4 (0 : Int32))
  · refine q_iconst (pc' := 17) C d_M_violationOf_16 ki_1 rfl ?_
    refine q_goto (tgt := 21) C d_M_violationOf_17 rfl ?_
    exact Rt.sub [0, 2] rfl (hJ4 (1 : Int32))
theorem d_M_violations_0 : decode qM_violations.1 0 = .ok (.iconst 0, 1) := by decide +kernel
theorem d_M_violations_1 : decode qM_violations.1 1 = .ok (.istore_n 2, 1) := by decide +kernel
theorem d_M_violations_2 : decode qM_violations.1 2 = .ok (.iconst 0, 1) := by decide +kernel
theorem d_M_violations_3 : decode qM_violations.1 3 = .ok (.istore_n 3, 1) := by decide +kernel
theorem d_M_violations_4 : decode qM_violations.1 4 = .ok (.iload_n 3, 1) := by decide +kernel
theorem d_M_violations_5 : decode qM_violations.1 5 = .ok (.aload_n 0, 1) := by decide +kernel
theorem d_M_violations_6 : decode qM_violations.1 6 = .ok (.iload_n 1, 1) := by decide +kernel
theorem d_M_violations_7 : decode qM_violations.1 7 = .ok (.invokevirtual 218, 3) := by decide +kernel
theorem d_M_violations_10 : decode qM_violations.1 10 = .ok (.if_icmp .ge 26, 3) := by decide +kernel
theorem d_M_violations_13 : decode qM_violations.1 13 = .ok (.iload_n 2, 1) := by decide +kernel
theorem d_M_violations_14 : decode qM_violations.1 14 = .ok (.aload_n 0, 1) := by decide +kernel
theorem d_M_violations_15 : decode qM_violations.1 15 = .ok (.iload_n 1, 1) := by decide +kernel
theorem d_M_violations_16 : decode qM_violations.1 16 = .ok (.iload_n 3, 1) := by decide +kernel
theorem d_M_violations_17 : decode qM_violations.1 17 = .ok (.invokevirtual 356, 3) := by decide +kernel
theorem d_M_violations_20 : decode qM_violations.1 20 = .ok (.ifCond .eq 7, 3) := by decide +kernel
theorem d_M_violations_23 : decode qM_violations.1 23 = .ok (.iconst 1, 1) := by decide +kernel
theorem d_M_violations_24 : decode qM_violations.1 24 = .ok (.goto 4, 3) := by decide +kernel
theorem d_M_violations_27 : decode qM_violations.1 27 = .ok (.iconst 0, 1) := by decide +kernel
theorem d_M_violations_28 : decode qM_violations.1 28 = .ok (.iadd, 1) := by decide +kernel
theorem d_M_violations_29 : decode qM_violations.1 29 = .ok (.istore_n 2, 1) := by decide +kernel
theorem d_M_violations_30 : decode qM_violations.1 30 = .ok (.iinc 3 1, 3) := by decide +kernel
theorem d_M_violations_33 : decode qM_violations.1 33 = .ok (.goto (-29), 3) := by decide +kernel
theorem d_M_violations_36 : decode qM_violations.1 36 = .ok (.iload_n 2, 1) := by decide +kernel
theorem d_M_violations_37 : decode qM_violations.1 37 = .ok (.ireturn, 1) := by decide +kernel
set_option maxRecDepth 100000 in
def lb_m_violations_4 (σ : St) (p1 : Int32) (J2 : Int32 → Option (Int32)) (ih4 : Int32 × Int32 → Option (Int32)) (a3 : Int32 × Int32) : Option (Int32) :=
  Option.bind (m_count σ p1) fun x5 =>
  if (x5 : Int32) ≤ a3.2 then (
  J2 a3.1
  ) else (
  Option.bind (m_violationOf σ p1 a3.2) fun x6 =>
  Jn (fun (x7 : Int32) =>
  Lt ((a3.1 + x7) : Int32) fun x9 =>
  Lt (a3.2 + (1 : Int32) : Int32) fun x10 =>
  ih4 (x9, x10)
  ) fun J8 =>
  if (x6 : Int32) = 0 then (
  J8 (0 : Int32)
  ) else (
  J8 (1 : Int32)
  )
  )
set_option maxRecDepth 100000 in
def m_violations (σ : St) (p1 : Int32) : Option (Int32) :=
  Jn (fun (x1 : Int32) =>
  some x1
  ) fun J2 =>
  lp (lb_m_violations_4 σ p1 J2) 4000 ((0 : Int32), (0 : Int32))
set_option maxHeartbeats 4000000 in
set_option maxRecDepth 100000 in
theorem cM_violations (l : Launch) (g : Ge) (hi : injB wM.2 g) (σ : St) (p1 : Int32) (x : Int32) (h : m_violations σ p1 = some x) : Ct l wM g yM_violations qM_violations 4 88 [.ref (g.1 0), .int p1] σ (some (.int x), σ) := by
  refine Ct.of (out := (o_r σ)) FM_violations rfl hi rfl h (fun z hz C => ?_)
  clear h
  subst hz
  unfold m_violations
  show Rt z qM_violations wM g (o_r σ) 0 [(0, .ref (g.1 0)), (1, .int p1)] [] σ _
  refine q_iconst (pc' := 1) C d_M_violations_0 ki_0 rfl ?_
  refine q_istore_n (pc' := 2) (lv' := [(2, .int (0 : Int32)), (0, .ref (g.1 0)), (1, .int p1)]) C d_M_violations_1 (by decide) rfl rfl ?_
  refine q_iconst (pc' := 3) C d_M_violations_2 ki_0 rfl ?_
  refine q_istore_n (pc' := 4) (lv' := [(3, .int (0 : Int32)), (2, .int (0 : Int32)), (0, .ref (g.1 0)), (1, .int p1)]) C d_M_violations_3 (by decide) rfl rfl ?_
  refine q_join (fun J2 : Int32 → Option (Int32) => ∀ (x1 : Int32), Rt z qM_violations wM g (o_r σ) 36 [(2, .int x1)] [] σ (J2 x1)) (fun x1 => ?_) (fun J2 hJ2 => ?_)
  · refine q_iload_n (pc' := 37) C 0 d_M_violations_36 rfl rfl ?_
    exact q_iret C rfl d_M_violations_37 rfl
  refine Rt.sub [2, 3, 1, 0] rfl (q_lp (fun a3 : Int32 × Int32 => [(0, .ref (g.1 0)), (1, .int p1), (2, .int a3.1), (3, .int a3.2)]) (fun a3 => []) (fun a3 => σ) (fun ih4 hih4 a3 => ?_) 4000 ((0 : Int32), (0 : Int32)))
  unfold lb_m_violations_4
  refine q_iload_n (pc' := 5) C 3 d_M_violations_4 rfl rfl ?_
  refine q_aload_n (pc' := 6) C 0 d_M_violations_5 rfl rfl ?_
  refine q_iload_n (pc' := 7) C 1 d_M_violations_6 rfl rfl ?_
  refine q_callVr (fr' := 0) (lo' := 0) (pc' := 10) C FM_count lmM_218 d_M_violations_7 0 jM_0 kM_0 cM0 [.int p1] [.int a3.2] rfl rfl (Nat.le_of_ble_eq_true rfl) ⟨rfl, rfl⟩ (fun x h => cM_count _ g hi σ p1 x h) rfl (fun x5 _ => ?_)
  refine q_icmp_ge (tgt := 36) (pc' := 13) C d_M_violations_10 rfl rfl ?_ ?_
  · exact Rt.sub [2] rfl (hJ2 a3.1)
  · refine q_iload_n (pc' := 14) C 2 d_M_violations_13 rfl rfl ?_
    refine q_aload_n (pc' := 15) C 0 d_M_violations_14 rfl rfl ?_
    refine q_iload_n (pc' := 16) C 1 d_M_violations_15 rfl rfl ?_
    refine q_iload_n (pc' := 17) C 3 d_M_violations_16 rfl rfl ?_
    refine q_callVr (fr' := 3) (lo' := 63) (pc' := 20) C FM_violationOf lmM_356 d_M_violations_17 0 jM_0 kM_0 cM0 [.int p1, .int a3.2] [.int a3.1] rfl rfl (Nat.le_of_ble_eq_true rfl) ⟨rfl, rfl⟩ (fun x h => cM_violationOf _ g hi σ p1 a3.2 x h) rfl (fun x6 _ => ?_)
    refine q_join (fun J8 : Int32 → Option (Int32) => ∀ (x7 : Int32), Rt z qM_violations wM g (o_r σ) 28 [(0, .ref (g.1 0)), (1, .int p1), (3, .int a3.2)] [.int x7, .int a3.1] σ (J8 x7)) (fun x7 => ?_) (fun J8 hJ8 => ?_)
    · refine q_iadd (pc' := 29) C d_M_violations_28 rfl ?_
      refine q_let (fun x9 e9 => ?_)
      refine q_topi e9 ?_
      refine q_istore_n (pc' := 30) (lv' := [(2, .int x9), (0, .ref (g.1 0)), (1, .int p1), (3, .int a3.2)]) C d_M_violations_29 (by decide) rfl rfl ?_
      refine q_let (fun x10 e10 => ?_)
      refine q_iinc (pc' := 33) (lv' := [(3, .int x10), (2, .int x9), (0, .ref (g.1 0)), (1, .int p1)]) C 3 d_M_violations_30 rfl (by rw [e10, ki_1]) (by decide) rfl rfl ?_
      refine q_goto (tgt := 4) C d_M_violations_33 rfl ?_
      exact Rt.sub [2, 3, 1, 0] rfl (hih4 (x9, x10))
    refine q_if_eq (tgt := 27) (pc' := 23) C d_M_violations_20 rfl rfl ?_ ?_
    · refine q_iconst (pc' := 28) C d_M_violations_27 ki_0 rfl ?_
      exact Rt.sub [0, 1, 3] rfl (hJ8 (0 : Int32))
    · refine q_iconst (pc' := 24) C d_M_violations_23 ki_1 rfl ?_
      refine q_goto (tgt := 28) C d_M_violations_24 rfl ?_
      exact Rt.sub [0, 1, 3] rfl (hJ8 (1 : Int32))
theorem d_M_gaps_0 : decode qM_gaps.1 0 = .ok (.iconst 0, 1) := by decide +kernel
theorem d_M_gaps_1 : decode qM_gaps.1 1 = .ok (.istore_n 2, 1) := by decide +kernel
theorem d_M_gaps_2 : decode qM_gaps.1 2 = .ok (.iconst 1, 1) := by decide +kernel
theorem d_M_gaps_3 : decode qM_gaps.1 3 = .ok (.istore_n 3, 1) := by decide +kernel
theorem d_M_gaps_4 : decode qM_gaps.1 4 = .ok (.iload_n 3, 1) := by decide +kernel
theorem d_M_gaps_5 : decode qM_gaps.1 5 = .ok (.aload_n 0, 1) := by decide +kernel
theorem d_M_gaps_6 : decode qM_gaps.1 6 = .ok (.iload_n 1, 1) := by decide +kernel
theorem d_M_gaps_7 : decode qM_gaps.1 7 = .ok (.invokevirtual 218, 3) := by decide +kernel
theorem d_M_gaps_10 : decode qM_gaps.1 10 = .ok (.if_icmp .ge 26, 3) := by decide +kernel
theorem d_M_gaps_13 : decode qM_gaps.1 13 = .ok (.iload_n 2, 1) := by decide +kernel
theorem d_M_gaps_14 : decode qM_gaps.1 14 = .ok (.aload_n 0, 1) := by decide +kernel
theorem d_M_gaps_15 : decode qM_gaps.1 15 = .ok (.getfield 78, 3) := by decide +kernel
theorem d_M_gaps_18 : decode qM_gaps.1 18 = .ok (.iload_n 3, 1) := by decide +kernel
theorem d_M_gaps_19 : decode qM_gaps.1 19 = .ok (.baload, 1) := by decide +kernel
theorem d_M_gaps_20 : decode qM_gaps.1 20 = .ok (.ifCond .eq 7, 3) := by decide +kernel
theorem d_M_gaps_23 : decode qM_gaps.1 23 = .ok (.iconst 1, 1) := by decide +kernel
theorem d_M_gaps_24 : decode qM_gaps.1 24 = .ok (.goto 4, 3) := by decide +kernel
theorem d_M_gaps_27 : decode qM_gaps.1 27 = .ok (.iconst 0, 1) := by decide +kernel
theorem d_M_gaps_28 : decode qM_gaps.1 28 = .ok (.iadd, 1) := by decide +kernel
theorem d_M_gaps_29 : decode qM_gaps.1 29 = .ok (.istore_n 2, 1) := by decide +kernel
theorem d_M_gaps_30 : decode qM_gaps.1 30 = .ok (.iinc 3 1, 3) := by decide +kernel
theorem d_M_gaps_33 : decode qM_gaps.1 33 = .ok (.goto (-29), 3) := by decide +kernel
theorem d_M_gaps_36 : decode qM_gaps.1 36 = .ok (.iload_n 2, 1) := by decide +kernel
theorem d_M_gaps_37 : decode qM_gaps.1 37 = .ok (.ireturn, 1) := by decide +kernel
set_option maxRecDepth 100000 in
def lb_m_gaps_4 (σ : St) (p1 : Int32) (J2 : Int32 → Option (Int32)) (ih4 : Int32 × Int32 → Option (Int32)) (a3 : Int32 × Int32) : Option (Int32) :=
  Option.bind (m_count σ p1) fun x5 =>
  if (x5 : Int32) ≤ a3.2 then (
  J2 a3.1
  ) else (
  Gd (Ix a3.2 21) <|
  Jn (fun (x6 : Int32) =>
  Lt ((a3.1 + x6) : Int32) fun x8 =>
  Lt (a3.2 + (1 : Int32) : Int32) fun x9 =>
  ih4 (x8, x9)
  ) fun J7 =>
  if ((σ 18 (Int32.toNatClampNeg a3.2)) : Int32) = 0 then (
  J7 (0 : Int32)
  ) else (
  J7 (1 : Int32)
  )
  )
set_option maxRecDepth 100000 in
def m_gaps (σ : St) (p1 : Int32) : Option (Int32) :=
  Jn (fun (x1 : Int32) =>
  some x1
  ) fun J2 =>
  lp (lb_m_gaps_4 σ p1 J2) 4000 ((0 : Int32), (1 : Int32))
set_option maxHeartbeats 4000000 in
set_option maxRecDepth 100000 in
theorem cM_gaps (l : Launch) (g : Ge) (hi : injB wM.2 g) (σ : St) (p1 : Int32) (x : Int32) (h : m_gaps σ p1 = some x) : Ct l wM g yM_gaps qM_gaps 1 21 [.ref (g.1 0), .int p1] σ (some (.int x), σ) := by
  refine Ct.of (out := (o_r σ)) FM_gaps rfl hi rfl h (fun z hz C => ?_)
  clear h
  subst hz
  unfold m_gaps
  show Rt z qM_gaps wM g (o_r σ) 0 [(0, .ref (g.1 0)), (1, .int p1)] [] σ _
  refine q_iconst (pc' := 1) C d_M_gaps_0 ki_0 rfl ?_
  refine q_istore_n (pc' := 2) (lv' := [(2, .int (0 : Int32)), (0, .ref (g.1 0)), (1, .int p1)]) C d_M_gaps_1 (by decide) rfl rfl ?_
  refine q_iconst (pc' := 3) C d_M_gaps_2 ki_1 rfl ?_
  refine q_istore_n (pc' := 4) (lv' := [(3, .int (1 : Int32)), (2, .int (0 : Int32)), (0, .ref (g.1 0)), (1, .int p1)]) C d_M_gaps_3 (by decide) rfl rfl ?_
  refine q_join (fun J2 : Int32 → Option (Int32) => ∀ (x1 : Int32), Rt z qM_gaps wM g (o_r σ) 36 [(2, .int x1)] [] σ (J2 x1)) (fun x1 => ?_) (fun J2 hJ2 => ?_)
  · refine q_iload_n (pc' := 37) C 0 d_M_gaps_36 rfl rfl ?_
    exact q_iret C rfl d_M_gaps_37 rfl
  refine Rt.sub [2, 3, 1, 0] rfl (q_lp (fun a3 : Int32 × Int32 => [(0, .ref (g.1 0)), (1, .int p1), (2, .int a3.1), (3, .int a3.2)]) (fun a3 => []) (fun a3 => σ) (fun ih4 hih4 a3 => ?_) 4000 ((0 : Int32), (1 : Int32)))
  unfold lb_m_gaps_4
  refine q_iload_n (pc' := 5) C 3 d_M_gaps_4 rfl rfl ?_
  refine q_aload_n (pc' := 6) C 0 d_M_gaps_5 rfl rfl ?_
  refine q_iload_n (pc' := 7) C 1 d_M_gaps_6 rfl rfl ?_
  refine q_callVr (fr' := 0) (lo' := 0) (pc' := 10) C FM_count lmM_218 d_M_gaps_7 0 jM_0 kM_0 cM0 [.int p1] [.int a3.2] rfl rfl (Nat.le_of_ble_eq_true rfl) ⟨rfl, rfl⟩ (fun x h => cM_count _ g hi σ p1 x h) rfl (fun x5 _ => ?_)
  refine q_icmp_ge (tgt := 36) (pc' := 13) C d_M_gaps_10 rfl rfl ?_ ?_
  · exact Rt.sub [2] rfl (hJ2 a3.1)
  · refine q_iload_n (pc' := 14) C 2 d_M_gaps_13 rfl rfl ?_
    refine q_aload_n (pc' := 15) C 0 d_M_gaps_14 rfl rfl ?_
    refine gM_78 (pc' := 18) C d_M_gaps_15 rfl rfl ?_
    refine q_iload_n (pc' := 19) C 3 d_M_gaps_18 rfl rfl ?_
    refine q_zald (pc' := 20) C 18 jM_18 kM_18 d_M_gaps_19 rfl ?_
    refine q_join (fun J7 : Int32 → Option (Int32) => ∀ (x6 : Int32), Rt z qM_gaps wM g (o_r σ) 28 [(0, .ref (g.1 0)), (1, .int p1), (3, .int a3.2)] [.int x6, .int a3.1] σ (J7 x6)) (fun x6 => ?_) (fun J7 hJ7 => ?_)
    · refine q_iadd (pc' := 29) C d_M_gaps_28 rfl ?_
      refine q_let (fun x8 e8 => ?_)
      refine q_topi e8 ?_
      refine q_istore_n (pc' := 30) (lv' := [(2, .int x8), (0, .ref (g.1 0)), (1, .int p1), (3, .int a3.2)]) C d_M_gaps_29 (by decide) rfl rfl ?_
      refine q_let (fun x9 e9 => ?_)
      refine q_iinc (pc' := 33) (lv' := [(3, .int x9), (2, .int x8), (0, .ref (g.1 0)), (1, .int p1)]) C 3 d_M_gaps_30 rfl (by rw [e9, ki_1]) (by decide) rfl rfl ?_
      refine q_goto (tgt := 4) C d_M_gaps_33 rfl ?_
      exact Rt.sub [2, 3, 1, 0] rfl (hih4 (x8, x9))
    refine q_if_eq (tgt := 27) (pc' := 23) C d_M_gaps_20 rfl rfl ?_ ?_
    · refine q_iconst (pc' := 28) C d_M_gaps_27 ki_0 rfl ?_
      exact Rt.sub [0, 1, 3] rfl (hJ7 (0 : Int32))
    · refine q_iconst (pc' := 24) C d_M_gaps_23 ki_1 rfl ?_
      refine q_goto (tgt := 28) C d_M_gaps_24 rfl ?_
      exact Rt.sub [0, 1, 3] rfl (hJ7 (1 : Int32))
theorem d_M_lengthUpTo_0 : decode qM_lengthUpTo.1 0 = .ok (.iconst 0, 1) := by decide +kernel
theorem d_M_lengthUpTo_1 : decode qM_lengthUpTo.1 1 = .ok (.istore_n 2, 1) := by decide +kernel
theorem d_M_lengthUpTo_2 : decode qM_lengthUpTo.1 2 = .ok (.iconst 0, 1) := by decide +kernel
theorem d_M_lengthUpTo_3 : decode qM_lengthUpTo.1 3 = .ok (.istore_n 3, 1) := by decide +kernel
theorem d_M_lengthUpTo_4 : decode qM_lengthUpTo.1 4 = .ok (.iload_n 3, 1) := by decide +kernel
theorem d_M_lengthUpTo_5 : decode qM_lengthUpTo.1 5 = .ok (.iload_n 1, 1) := by decide +kernel
theorem d_M_lengthUpTo_6 : decode qM_lengthUpTo.1 6 = .ok (.if_icmp .gt 18, 3) := by decide +kernel
theorem d_M_lengthUpTo_9 : decode qM_lengthUpTo.1 9 = .ok (.iload_n 2, 1) := by decide +kernel
theorem d_M_lengthUpTo_10 : decode qM_lengthUpTo.1 10 = .ok (.aload_n 0, 1) := by decide +kernel
theorem d_M_lengthUpTo_11 : decode qM_lengthUpTo.1 11 = .ok (.getfield 135, 3) := by decide +kernel
theorem d_M_lengthUpTo_14 : decode qM_lengthUpTo.1 14 = .ok (.iload_n 3, 1) := by decide +kernel
theorem d_M_lengthUpTo_15 : decode qM_lengthUpTo.1 15 = .ok (.iaload, 1) := by decide +kernel
theorem d_M_lengthUpTo_16 : decode qM_lengthUpTo.1 16 = .ok (.iadd, 1) := by decide +kernel
theorem d_M_lengthUpTo_17 : decode qM_lengthUpTo.1 17 = .ok (.istore_n 2, 1) := by decide +kernel
theorem d_M_lengthUpTo_18 : decode qM_lengthUpTo.1 18 = .ok (.iinc 3 1, 3) := by decide +kernel
theorem d_M_lengthUpTo_21 : decode qM_lengthUpTo.1 21 = .ok (.goto (-17), 3) := by decide +kernel
theorem d_M_lengthUpTo_24 : decode qM_lengthUpTo.1 24 = .ok (.iload_n 2, 1) := by decide +kernel
theorem d_M_lengthUpTo_25 : decode qM_lengthUpTo.1 25 = .ok (.ireturn, 1) := by decide +kernel
set_option maxRecDepth 100000 in
def lb_m_lengthUpTo_4 (σ : St) (p1 : Int32) (J2 : Int32 → Option (Int32)) (ih4 : Int32 × Int32 → Option (Int32)) (a3 : Int32 × Int32) : Option (Int32) :=
  if (p1 : Int32) < a3.2 then (
  J2 a3.1
  ) else (
  Gd (Ix a3.2 21) <|
  Lt ((a3.1 + (σ 37 (Int32.toNatClampNeg a3.2))) : Int32) fun x5 =>
  Lt (a3.2 + (1 : Int32) : Int32) fun x6 =>
  ih4 (x5, x6)
  )
set_option maxRecDepth 100000 in
def m_lengthUpTo (σ : St) (p1 : Int32) : Option (Int32) :=
  Jn (fun (x1 : Int32) =>
  some x1
  ) fun J2 =>
  lp (lb_m_lengthUpTo_4 σ p1 J2) 4000 ((0 : Int32), (0 : Int32))
set_option maxHeartbeats 4000000 in
set_option maxRecDepth 100000 in
theorem cM_lengthUpTo (l : Launch) (g : Ge) (hi : injB wM.2 g) (σ : St) (p1 : Int32) (x : Int32) (h : m_lengthUpTo σ p1 = some x) : Ct l wM g yM_lengthUpTo qM_lengthUpTo 0 0 [.ref (g.1 0), .int p1] σ (some (.int x), σ) := by
  refine Ct.of (out := (o_r σ)) FM_lengthUpTo rfl hi rfl h (fun z hz C => ?_)
  clear h
  subst hz
  unfold m_lengthUpTo
  show Rt z qM_lengthUpTo wM g (o_r σ) 0 [(0, .ref (g.1 0)), (1, .int p1)] [] σ _
  refine q_iconst (pc' := 1) C d_M_lengthUpTo_0 ki_0 rfl ?_
  refine q_istore_n (pc' := 2) (lv' := [(2, .int (0 : Int32)), (0, .ref (g.1 0)), (1, .int p1)]) C d_M_lengthUpTo_1 (by decide) rfl rfl ?_
  refine q_iconst (pc' := 3) C d_M_lengthUpTo_2 ki_0 rfl ?_
  refine q_istore_n (pc' := 4) (lv' := [(3, .int (0 : Int32)), (2, .int (0 : Int32)), (0, .ref (g.1 0)), (1, .int p1)]) C d_M_lengthUpTo_3 (by decide) rfl rfl ?_
  refine q_join (fun J2 : Int32 → Option (Int32) => ∀ (x1 : Int32), Rt z qM_lengthUpTo wM g (o_r σ) 24 [(2, .int x1)] [] σ (J2 x1)) (fun x1 => ?_) (fun J2 hJ2 => ?_)
  · refine q_iload_n (pc' := 25) C 0 d_M_lengthUpTo_24 rfl rfl ?_
    exact q_iret C rfl d_M_lengthUpTo_25 rfl
  refine Rt.sub [2, 3, 1, 0] rfl (q_lp (fun a3 : Int32 × Int32 => [(0, .ref (g.1 0)), (1, .int p1), (2, .int a3.1), (3, .int a3.2)]) (fun a3 => []) (fun a3 => σ) (fun ih4 hih4 a3 => ?_) 4000 ((0 : Int32), (0 : Int32)))
  unfold lb_m_lengthUpTo_4
  refine q_iload_n (pc' := 5) C 3 d_M_lengthUpTo_4 rfl rfl ?_
  refine q_iload_n (pc' := 6) C 1 d_M_lengthUpTo_5 rfl rfl ?_
  refine q_icmp_gt (tgt := 24) (pc' := 9) C d_M_lengthUpTo_6 rfl rfl ?_ ?_
  · exact Rt.sub [2] rfl (hJ2 a3.1)
  · refine q_iload_n (pc' := 10) C 2 d_M_lengthUpTo_9 rfl rfl ?_
    refine q_aload_n (pc' := 11) C 0 d_M_lengthUpTo_10 rfl rfl ?_
    refine gM_135 (pc' := 14) C d_M_lengthUpTo_11 rfl rfl ?_
    refine q_iload_n (pc' := 15) C 3 d_M_lengthUpTo_14 rfl rfl ?_
    refine q_iald (pc' := 16) C 37 jM_37 kM_37 d_M_lengthUpTo_15 rfl ?_
    refine q_iadd (pc' := 17) C d_M_lengthUpTo_16 rfl ?_
    refine q_let (fun x5 e5 => ?_)
    refine q_topi e5 ?_
    refine q_istore_n (pc' := 18) (lv' := [(2, .int x5), (0, .ref (g.1 0)), (1, .int p1), (3, .int a3.2)]) C d_M_lengthUpTo_17 (by decide) rfl rfl ?_
    refine q_let (fun x6 e6 => ?_)
    refine q_iinc (pc' := 21) (lv' := [(3, .int x6), (2, .int x5), (0, .ref (g.1 0)), (1, .int p1)]) C 3 d_M_lengthUpTo_18 rfl (by rw [e6, ki_1]) (by decide) rfl rfl ?_
    refine q_goto (tgt := 4) C d_M_lengthUpTo_21 rfl ?_
    exact Rt.sub [2, 3, 1, 0] rfl (hih4 (x5, x6))
theorem d_M_hasPosition_0 : decode qM_hasPosition.1 0 = .ok (.aload_n 0, 1) := by decide +kernel
theorem d_M_hasPosition_1 : decode qM_hasPosition.1 1 = .ok (.iconst 0, 1) := by decide +kernel
theorem d_M_hasPosition_2 : decode qM_hasPosition.1 2 = .ok (.invokevirtual 218, 3) := by decide +kernel
theorem d_M_hasPosition_5 : decode qM_hasPosition.1 5 = .ok (.ifCond .ne 5, 3) := by decide +kernel
theorem d_M_hasPosition_8 : decode qM_hasPosition.1 8 = .ok (.iconst 0, 1) := by decide +kernel
theorem d_M_hasPosition_9 : decode qM_hasPosition.1 9 = .ok (.ireturn, 1) := by decide +kernel
theorem d_M_hasPosition_10 : decode qM_hasPosition.1 10 = .ok (.aload_n 0, 1) := by decide +kernel
theorem d_M_hasPosition_11 : decode qM_hasPosition.1 11 = .ok (.iconst 0, 1) := by decide +kernel
theorem d_M_hasPosition_12 : decode qM_hasPosition.1 12 = .ok (.invokevirtual 359, 3) := by decide +kernel
theorem d_M_hasPosition_15 : decode qM_hasPosition.1 15 = .ok (.aload_n 0, 1) := by decide +kernel
theorem d_M_hasPosition_16 : decode qM_hasPosition.1 16 = .ok (.getfield 7, 3) := by decide +kernel
theorem d_M_hasPosition_19 : decode qM_hasPosition.1 19 = .ok (.iconst 1, 1) := by decide +kernel
theorem d_M_hasPosition_20 : decode qM_hasPosition.1 20 = .ok (.iaload, 1) := by decide +kernel
theorem d_M_hasPosition_21 : decode qM_hasPosition.1 21 = .ok (.istore_n 1, 1) := by decide +kernel
theorem d_M_hasPosition_22 : decode qM_hasPosition.1 22 = .ok (.iconst 0, 1) := by decide +kernel
theorem d_M_hasPosition_23 : decode qM_hasPosition.1 23 = .ok (.istore_n 2, 1) := by decide +kernel
theorem d_M_hasPosition_24 : decode qM_hasPosition.1 24 = .ok (.iconst (-1), 1) := by decide +kernel
theorem d_M_hasPosition_25 : decode qM_hasPosition.1 25 = .ok (.istore_n 3, 1) := by decide +kernel
theorem d_M_hasPosition_26 : decode qM_hasPosition.1 26 = .ok (.iconst 0, 1) := by decide +kernel
theorem d_M_hasPosition_27 : decode qM_hasPosition.1 27 = .ok (.istore 4, 2) := by decide +kernel
theorem d_M_hasPosition_29 : decode qM_hasPosition.1 29 = .ok (.iconst 0, 1) := by decide +kernel
theorem d_M_hasPosition_30 : decode qM_hasPosition.1 30 = .ok (.istore 5, 2) := by decide +kernel
theorem d_M_hasPosition_32 : decode qM_hasPosition.1 32 = .ok (.iconst 0, 1) := by decide +kernel
theorem d_M_hasPosition_33 : decode qM_hasPosition.1 33 = .ok (.istore 6, 2) := by decide +kernel
theorem d_M_hasPosition_35 : decode qM_hasPosition.1 35 = .ok (.iload 6, 2) := by decide +kernel
theorem d_M_hasPosition_37 : decode qM_hasPosition.1 37 = .ok (.aload_n 0, 1) := by decide +kernel
theorem d_M_hasPosition_38 : decode qM_hasPosition.1 38 = .ok (.getfield 289, 3) := by decide +kernel
theorem d_M_hasPosition_41 : decode qM_hasPosition.1 41 = .ok (.if_icmp .ge 56, 3) := by decide +kernel
theorem d_M_hasPosition_44 : decode qM_hasPosition.1 44 = .ok (.iload 5, 2) := by decide +kernel
theorem d_M_hasPosition_46 : decode qM_hasPosition.1 46 = .ok (.ifCond .ne 51, 3) := by decide +kernel
theorem d_M_hasPosition_49 : decode qM_hasPosition.1 49 = .ok (.aload_n 0, 1) := by decide +kernel
theorem d_M_hasPosition_50 : decode qM_hasPosition.1 50 = .ok (.getfield 111, 3) := by decide +kernel
theorem d_M_hasPosition_53 : decode qM_hasPosition.1 53 = .ok (.iload 6, 2) := by decide +kernel
theorem d_M_hasPosition_55 : decode qM_hasPosition.1 55 = .ok (.iaload, 1) := by decide +kernel
theorem d_M_hasPosition_56 : decode qM_hasPosition.1 56 = .ok (.iload_n 1, 1) := by decide +kernel
theorem d_M_hasPosition_57 : decode qM_hasPosition.1 57 = .ok (.if_icmp .ne 34, 3) := by decide +kernel
theorem d_M_hasPosition_60 : decode qM_hasPosition.1 60 = .ok (.iload 6, 2) := by decide +kernel
theorem d_M_hasPosition_62 : decode qM_hasPosition.1 62 = .ok (.istore_n 3, 1) := by decide +kernel
theorem d_M_hasPosition_63 : decode qM_hasPosition.1 63 = .ok (.iload_n 2, 1) := by decide +kernel
theorem d_M_hasPosition_64 : decode qM_hasPosition.1 64 = .ok (.istore 4, 2) := by decide +kernel
theorem d_M_hasPosition_66 : decode qM_hasPosition.1 66 = .ok (.iload_n 2, 1) := by decide +kernel
theorem d_M_hasPosition_67 : decode qM_hasPosition.1 67 = .ok (.aload_n 0, 1) := by decide +kernel
theorem d_M_hasPosition_68 : decode qM_hasPosition.1 68 = .ok (.getfield 117, 3) := by decide +kernel
theorem d_M_hasPosition_71 : decode qM_hasPosition.1 71 = .ok (.iload 6, 2) := by decide +kernel
theorem d_M_hasPosition_73 : decode qM_hasPosition.1 73 = .ok (.iaload, 1) := by decide +kernel
theorem d_M_hasPosition_74 : decode qM_hasPosition.1 74 = .ok (.iadd, 1) := by decide +kernel
theorem d_M_hasPosition_75 : decode qM_hasPosition.1 75 = .ok (.istore_n 2, 1) := by decide +kernel
theorem d_M_hasPosition_76 : decode qM_hasPosition.1 76 = .ok (.iload_n 2, 1) := by decide +kernel
theorem d_M_hasPosition_77 : decode qM_hasPosition.1 77 = .ok (.aload_n 0, 1) := by decide +kernel
theorem d_M_hasPosition_78 : decode qM_hasPosition.1 78 = .ok (.getfield 362, 3) := by decide +kernel
theorem d_M_hasPosition_81 : decode qM_hasPosition.1 81 = .ok (.if_icmp .le 7, 3) := by decide +kernel
theorem d_M_hasPosition_84 : decode qM_hasPosition.1 84 = .ok (.iconst 1, 1) := by decide +kernel
theorem d_M_hasPosition_85 : decode qM_hasPosition.1 85 = .ok (.goto 4, 3) := by decide +kernel
theorem d_M_hasPosition_88 : decode qM_hasPosition.1 88 = .ok (.iconst 0, 1) := by decide +kernel
theorem d_M_hasPosition_89 : decode qM_hasPosition.1 89 = .ok (.istore 5, 2) := by decide +kernel
theorem d_M_hasPosition_91 : decode qM_hasPosition.1 91 = .ok (.iinc 6 1, 3) := by decide +kernel
theorem d_M_hasPosition_94 : decode qM_hasPosition.1 94 = .ok (.goto (-59), 3) := by decide +kernel
theorem d_M_hasPosition_97 : decode qM_hasPosition.1 97 = .ok (.iload_n 3, 1) := by decide +kernel
theorem d_M_hasPosition_98 : decode qM_hasPosition.1 98 = .ok (.ifCond .lt 103, 3) := by decide +kernel
theorem d_M_hasPosition_101 : decode qM_hasPosition.1 101 = .ok (.aload_n 0, 1) := by decide +kernel
theorem d_M_hasPosition_102 : decode qM_hasPosition.1 102 = .ok (.getfield 362, 3) := by decide +kernel
theorem d_M_hasPosition_105 : decode qM_hasPosition.1 105 = .ok (.iload 4, 2) := by decide +kernel
theorem d_M_hasPosition_107 : decode qM_hasPosition.1 107 = .ok (.isub, 1) := by decide +kernel
theorem d_M_hasPosition_108 : decode qM_hasPosition.1 108 = .ok (.i2l, 1) := by decide +kernel
theorem d_M_hasPosition_109 : decode qM_hasPosition.1 109 = .ok (.lstore 6, 2) := by decide +kernel
theorem d_M_hasPosition_111 : decode qM_hasPosition.1 111 = .ok (.aload_n 0, 1) := by decide +kernel
theorem d_M_hasPosition_112 : decode qM_hasPosition.1 112 = .ok (.aload_n 0, 1) := by decide +kernel
theorem d_M_hasPosition_113 : decode qM_hasPosition.1 113 = .ok (.getfield 123, 3) := by decide +kernel
theorem d_M_hasPosition_116 : decode qM_hasPosition.1 116 = .ok (.iload_n 3, 1) := by decide +kernel
theorem d_M_hasPosition_117 : decode qM_hasPosition.1 117 = .ok (.iaload, 1) := by decide +kernel
theorem d_M_hasPosition_118 : decode qM_hasPosition.1 118 = .ok (.i2l, 1) := by decide +kernel
theorem d_M_hasPosition_119 : decode qM_hasPosition.1 119 = .ok (.aload_n 0, 1) := by decide +kernel
theorem d_M_hasPosition_120 : decode qM_hasPosition.1 120 = .ok (.getfield 129, 3) := by decide +kernel
theorem d_M_hasPosition_123 : decode qM_hasPosition.1 123 = .ok (.iload_n 3, 1) := by decide +kernel
theorem d_M_hasPosition_124 : decode qM_hasPosition.1 124 = .ok (.iaload, 1) := by decide +kernel
theorem d_M_hasPosition_125 : decode qM_hasPosition.1 125 = .ok (.i2l, 1) := by decide +kernel
theorem d_M_hasPosition_126 : decode qM_hasPosition.1 126 = .ok (.aload_n 0, 1) := by decide +kernel
theorem d_M_hasPosition_127 : decode qM_hasPosition.1 127 = .ok (.getfield 123, 3) := by decide +kernel
theorem d_M_hasPosition_130 : decode qM_hasPosition.1 130 = .ok (.iload_n 3, 1) := by decide +kernel
theorem d_M_hasPosition_131 : decode qM_hasPosition.1 131 = .ok (.iaload, 1) := by decide +kernel
theorem d_M_hasPosition_132 : decode qM_hasPosition.1 132 = .ok (.i2l, 1) := by decide +kernel
theorem d_M_hasPosition_133 : decode qM_hasPosition.1 133 = .ok (.lsub, 1) := by decide +kernel
theorem d_M_hasPosition_134 : decode qM_hasPosition.1 134 = .ok (.lload 6, 2) := by decide +kernel
theorem d_M_hasPosition_136 : decode qM_hasPosition.1 136 = .ok (.lmul, 1) := by decide +kernel
theorem d_M_hasPosition_137 : decode qM_hasPosition.1 137 = .ok (.aload_n 0, 1) := by decide +kernel
theorem d_M_hasPosition_138 : decode qM_hasPosition.1 138 = .ok (.getfield 117, 3) := by decide +kernel
theorem d_M_hasPosition_141 : decode qM_hasPosition.1 141 = .ok (.iload_n 3, 1) := by decide +kernel
theorem d_M_hasPosition_142 : decode qM_hasPosition.1 142 = .ok (.iaload, 1) := by decide +kernel
theorem d_M_hasPosition_143 : decode qM_hasPosition.1 143 = .ok (.i2l, 1) := by decide +kernel
theorem d_M_hasPosition_144 : decode qM_hasPosition.1 144 = .ok (.ldiv, 1) := by decide +kernel
theorem d_M_hasPosition_145 : decode qM_hasPosition.1 145 = .ok (.ladd, 1) := by decide +kernel
theorem d_M_hasPosition_146 : decode qM_hasPosition.1 146 = .ok (.l2i, 1) := by decide +kernel
theorem d_M_hasPosition_147 : decode qM_hasPosition.1 147 = .ok (.putfield 365, 3) := by decide +kernel
theorem d_M_hasPosition_150 : decode qM_hasPosition.1 150 = .ok (.aload_n 0, 1) := by decide +kernel
theorem d_M_hasPosition_151 : decode qM_hasPosition.1 151 = .ok (.aload_n 0, 1) := by decide +kernel
theorem d_M_hasPosition_152 : decode qM_hasPosition.1 152 = .ok (.getfield 126, 3) := by decide +kernel
theorem d_M_hasPosition_155 : decode qM_hasPosition.1 155 = .ok (.iload_n 3, 1) := by decide +kernel
theorem d_M_hasPosition_156 : decode qM_hasPosition.1 156 = .ok (.iaload, 1) := by decide +kernel
theorem d_M_hasPosition_157 : decode qM_hasPosition.1 157 = .ok (.i2l, 1) := by decide +kernel
theorem d_M_hasPosition_158 : decode qM_hasPosition.1 158 = .ok (.aload_n 0, 1) := by decide +kernel
theorem d_M_hasPosition_159 : decode qM_hasPosition.1 159 = .ok (.getfield 132, 3) := by decide +kernel
theorem d_M_hasPosition_162 : decode qM_hasPosition.1 162 = .ok (.iload_n 3, 1) := by decide +kernel
theorem d_M_hasPosition_163 : decode qM_hasPosition.1 163 = .ok (.iaload, 1) := by decide +kernel
theorem d_M_hasPosition_164 : decode qM_hasPosition.1 164 = .ok (.i2l, 1) := by decide +kernel
theorem d_M_hasPosition_165 : decode qM_hasPosition.1 165 = .ok (.aload_n 0, 1) := by decide +kernel
theorem d_M_hasPosition_166 : decode qM_hasPosition.1 166 = .ok (.getfield 126, 3) := by decide +kernel
theorem d_M_hasPosition_169 : decode qM_hasPosition.1 169 = .ok (.iload_n 3, 1) := by decide +kernel
theorem d_M_hasPosition_170 : decode qM_hasPosition.1 170 = .ok (.iaload, 1) := by decide +kernel
theorem d_M_hasPosition_171 : decode qM_hasPosition.1 171 = .ok (.i2l, 1) := by decide +kernel
theorem d_M_hasPosition_172 : decode qM_hasPosition.1 172 = .ok (.lsub, 1) := by decide +kernel
theorem d_M_hasPosition_173 : decode qM_hasPosition.1 173 = .ok (.lload 6, 2) := by decide +kernel
theorem d_M_hasPosition_175 : decode qM_hasPosition.1 175 = .ok (.lmul, 1) := by decide +kernel
theorem d_M_hasPosition_176 : decode qM_hasPosition.1 176 = .ok (.aload_n 0, 1) := by decide +kernel
theorem d_M_hasPosition_177 : decode qM_hasPosition.1 177 = .ok (.getfield 117, 3) := by decide +kernel
theorem d_M_hasPosition_180 : decode qM_hasPosition.1 180 = .ok (.iload_n 3, 1) := by decide +kernel
theorem d_M_hasPosition_181 : decode qM_hasPosition.1 181 = .ok (.iaload, 1) := by decide +kernel
theorem d_M_hasPosition_182 : decode qM_hasPosition.1 182 = .ok (.i2l, 1) := by decide +kernel
theorem d_M_hasPosition_183 : decode qM_hasPosition.1 183 = .ok (.ldiv, 1) := by decide +kernel
theorem d_M_hasPosition_184 : decode qM_hasPosition.1 184 = .ok (.ladd, 1) := by decide +kernel
theorem d_M_hasPosition_185 : decode qM_hasPosition.1 185 = .ok (.l2i, 1) := by decide +kernel
theorem d_M_hasPosition_186 : decode qM_hasPosition.1 186 = .ok (.putfield 368, 3) := by decide +kernel
theorem d_M_hasPosition_189 : decode qM_hasPosition.1 189 = .ok (.aload_n 0, 1) := by decide +kernel
theorem d_M_hasPosition_190 : decode qM_hasPosition.1 190 = .ok (.aload_n 0, 1) := by decide +kernel
theorem d_M_hasPosition_191 : decode qM_hasPosition.1 191 = .ok (.getfield 120, 3) := by decide +kernel
theorem d_M_hasPosition_194 : decode qM_hasPosition.1 194 = .ok (.iload_n 3, 1) := by decide +kernel
theorem d_M_hasPosition_195 : decode qM_hasPosition.1 195 = .ok (.iaload, 1) := by decide +kernel
theorem d_M_hasPosition_196 : decode qM_hasPosition.1 196 = .ok (.putfield 371, 3) := by decide +kernel
theorem d_M_hasPosition_199 : decode qM_hasPosition.1 199 = .ok (.iconst 1, 1) := by decide +kernel
theorem d_M_hasPosition_200 : decode qM_hasPosition.1 200 = .ok (.ireturn, 1) := by decide +kernel
theorem d_M_hasPosition_201 : decode qM_hasPosition.1 201 = .ok (.aload_n 0, 1) := by decide +kernel
theorem d_M_hasPosition_202 : decode qM_hasPosition.1 202 = .ok (.iconst 0, 1) := by decide +kernel
theorem d_M_hasPosition_203 : decode qM_hasPosition.1 203 = .ok (.iload_n 1, 1) := by decide +kernel
theorem d_M_hasPosition_204 : decode qM_hasPosition.1 204 = .ok (.iconst 0, 1) := by decide +kernel
theorem d_M_hasPosition_205 : decode qM_hasPosition.1 205 = .ok (.invokevirtual 168, 3) := by decide +kernel
theorem d_M_hasPosition_208 : decode qM_hasPosition.1 208 = .ok (.istore 6, 2) := by decide +kernel
theorem d_M_hasPosition_210 : decode qM_hasPosition.1 210 = .ok (.aload_n 0, 1) := by decide +kernel
theorem d_M_hasPosition_211 : decode qM_hasPosition.1 211 = .ok (.aload_n 0, 1) := by decide +kernel
theorem d_M_hasPosition_212 : decode qM_hasPosition.1 212 = .ok (.getfield 84, 3) := by decide +kernel
theorem d_M_hasPosition_215 : decode qM_hasPosition.1 215 = .ok (.iload_n 1, 1) := by decide +kernel
theorem d_M_hasPosition_216 : decode qM_hasPosition.1 216 = .ok (.iaload, 1) := by decide +kernel
theorem d_M_hasPosition_217 : decode qM_hasPosition.1 217 = .ok (.putfield 365, 3) := by decide +kernel
theorem d_M_hasPosition_220 : decode qM_hasPosition.1 220 = .ok (.aload_n 0, 1) := by decide +kernel
theorem d_M_hasPosition_221 : decode qM_hasPosition.1 221 = .ok (.aload_n 0, 1) := by decide +kernel
theorem d_M_hasPosition_222 : decode qM_hasPosition.1 222 = .ok (.getfield 87, 3) := by decide +kernel
theorem d_M_hasPosition_225 : decode qM_hasPosition.1 225 = .ok (.iload_n 1, 1) := by decide +kernel
theorem d_M_hasPosition_226 : decode qM_hasPosition.1 226 = .ok (.iaload, 1) := by decide +kernel
theorem d_M_hasPosition_227 : decode qM_hasPosition.1 227 = .ok (.putfield 368, 3) := by decide +kernel
theorem d_M_hasPosition_230 : decode qM_hasPosition.1 230 = .ok (.aload_n 0, 1) := by decide +kernel
theorem d_M_hasPosition_231 : decode qM_hasPosition.1 231 = .ok (.iload 6, 2) := by decide +kernel
theorem d_M_hasPosition_233 : decode qM_hasPosition.1 233 = .ok (.iconst 3, 1) := by decide +kernel
theorem d_M_hasPosition_234 : decode qM_hasPosition.1 234 = .ok (.if_icmp .eq 17, 3) := by decide +kernel
theorem d_M_hasPosition_237 : decode qM_hasPosition.1 237 = .ok (.iload 6, 2) := by decide +kernel
theorem d_M_hasPosition_239 : decode qM_hasPosition.1 239 = .ok (.bipush 7, 2) := by decide +kernel
theorem d_M_hasPosition_241 : decode qM_hasPosition.1 241 = .ok (.if_icmp .eq 10, 3) := by decide +kernel
theorem d_M_hasPosition_244 : decode qM_hasPosition.1 244 = .ok (.iload 6, 2) := by decide +kernel
theorem d_M_hasPosition_246 : decode qM_hasPosition.1 246 = .ok (.bipush 8, 2) := by decide +kernel
theorem d_M_hasPosition_248 : decode qM_hasPosition.1 248 = .ok (.if_icmp .ne 13, 3) := by decide +kernel
theorem d_M_hasPosition_251 : decode qM_hasPosition.1 251 = .ok (.aload_n 0, 1) := by decide +kernel
theorem d_M_hasPosition_252 : decode qM_hasPosition.1 252 = .ok (.iconst 0, 1) := by decide +kernel
theorem d_M_hasPosition_253 : decode qM_hasPosition.1 253 = .ok (.iload_n 1, 1) := by decide +kernel
theorem d_M_hasPosition_254 : decode qM_hasPosition.1 254 = .ok (.iconst 2, 1) := by decide +kernel
theorem d_M_hasPosition_255 : decode qM_hasPosition.1 255 = .ok (.invokevirtual 168, 3) := by decide +kernel
theorem d_M_hasPosition_258 : decode qM_hasPosition.1 258 = .ok (.goto 4, 3) := by decide +kernel
theorem d_M_hasPosition_261 : decode qM_hasPosition.1 261 = .ok (.iconst 0, 1) := by decide +kernel
theorem d_M_hasPosition_262 : decode qM_hasPosition.1 262 = .ok (.putfield 371, 3) := by decide +kernel
theorem d_M_hasPosition_265 : decode qM_hasPosition.1 265 = .ok (.aload_n 0, 1) := by decide +kernel
theorem d_M_hasPosition_266 : decode qM_hasPosition.1 266 = .ok (.getfield 81, 3) := by decide +kernel
theorem d_M_hasPosition_269 : decode qM_hasPosition.1 269 = .ok (.iload_n 1, 1) := by decide +kernel
theorem d_M_hasPosition_270 : decode qM_hasPosition.1 270 = .ok (.baload, 1) := by decide +kernel
theorem d_M_hasPosition_271 : decode qM_hasPosition.1 271 = .ok (.ireturn, 1) := by decide +kernel
set_option maxRecDepth 100000 in
def lb_m_hasPosition_35 (x2 : St) (x3 : Int32) (J6 : Int32 → Int32 → Option (Int32 × St)) (ih23 : Int32 × Int32 × Int32 × Int32 × Int32 → Option (Int32 × St)) (a22 : Int32 × Int32 × Int32 × Int32 × Int32) : Option (Int32 × St) :=
  if ((x2 0 57) : Int32) ≤ a22.2.2.2.2 then (
  J6 a22.2.1 a22.2.2.1
  ) else (
  if (a22.2.2.2.1 : Int32) = 0 then (
  Gd (Ix a22.2.2.2.2 180) <|
  Jn (fun (x24 : Int32) (x25 : Int32) (x26 : Int32) (x27 : Int32) =>
  Lt (a22.2.2.2.2 + (1 : Int32) : Int32) fun x29 =>
  ih23 (x24, x25, x26, x27, x29)
  ) fun J28 =>
  if ((x2 29 (Int32.toNatClampNeg a22.2.2.2.2)) : Int32) = x3 then (
  Gd (Ix a22.2.2.2.2 180) <|
  Lt ((a22.1 + (x2 31 (Int32.toNatClampNeg a22.2.2.2.2))) : Int32) fun x30 =>
  Jn (fun (x31 : Int32) =>
  J28 x30 a22.2.2.2.2 a22.1 x31
  ) fun J32 =>
  if (x30 : Int32) ≤ (x2 0 4) then (
  J32 (0 : Int32)
  ) else (
  J32 (1 : Int32)
  )
  ) else (
  J28 a22.1 a22.2.1 a22.2.2.1 a22.2.2.2.1
  )
  ) else (
  J6 a22.2.1 a22.2.2.1
  )
  )
set_option maxRecDepth 100000 in
def m_hasPosition (σ : St) : Option (Int32 × St) :=
  Option.bind (m_count σ (0 : Int32)) fun x1 =>
  if (x1 : Int32) = 0 then (
  some ((0 : Int32), σ)
  ) else (
  Option.bind (m_lays σ (0 : Int32)) fun x2 =>
  Gd (Ix (1 : Int32) 2673) <|
  Lt ((x2 1 (Int32.toNatClampNeg (1 : Int32))) : Int32) fun x3 =>
  Jn (fun (x4 : Int32) (x5 : Int32) =>
  if (x4 : Int32) < 0 then (
  Option.bind (m_of x2 (0 : Int32) x3 (0 : Int32)) fun x7 =>
  Gd (Ix x3 21) <|
  Lt (s2 x2 0 64 (x2 20 (Int32.toNatClampNeg x3))) fun σ8 =>
  Gd (Ix x3 21) <|
  Lt (s2 σ8 0 65 (σ8 21 (Int32.toNatClampNeg x3))) fun σ9 =>
  Jn (fun (x10 : Int32) =>
  Lt (s2 σ9 0 66 x10) fun σ12 =>
  Gd (Ix x3 21) <|
  Gd (((σ12 19 (Int32.toNatClampNeg x3)) : Int32) &&& 1 = (σ12 19 (Int32.toNatClampNeg x3))) <|
  some ((σ12 19 (Int32.toNatClampNeg x3)), σ12)
  ) fun J11 =>
  Jn (fun (_ : Unit) =>
  Option.bind (m_of σ9 (0 : Int32) x3 (2 : Int32)) fun x15 =>
  J11 x15
  ) fun J14 =>
  if (x7 : Int32) = (3 : Int32) then (
  J14 ()
  ) else (
  if (x7 : Int32) = (7 : Int32) then (
  J14 ()
  ) else (
  if (x7 : Int32) = (8 : Int32) then (
  J14 ()
  ) else (
  J11 (0 : Int32)
  )
  )
  )
  ) else (
  Lt ((Int32.toInt64 ((x2 0 4) - x5)) : Int64) fun x16 =>
  Gd (Ix x4 180) <|
  Gd (Ix x4 180) <|
  Gd (Ix x4 180) <|
  Gd (Ix x4 180) <|
  Gd (¬ ((Int32.toInt64 (x2 31 (Int32.toNatClampNeg x4))) : Int64) = 0) <|
  Lt (s2 x2 0 64 (Int64.toInt32 ((Int32.toInt64 (x2 33 (Int32.toNatClampNeg x4))) + ((((Int32.toInt64 (x2 35 (Int32.toNatClampNeg x4))) - (Int32.toInt64 (x2 33 (Int32.toNatClampNeg x4)))) * x16) / (Int32.toInt64 (x2 31 (Int32.toNatClampNeg x4))))))) fun σ18 =>
  Gd (Ix x4 180) <|
  Gd (Ix x4 180) <|
  Gd (Ix x4 180) <|
  Gd (Ix x4 180) <|
  Gd (¬ ((Int32.toInt64 (σ18 31 (Int32.toNatClampNeg x4))) : Int64) = 0) <|
  Lt (s2 σ18 0 65 (Int64.toInt32 ((Int32.toInt64 (σ18 34 (Int32.toNatClampNeg x4))) + ((((Int32.toInt64 (σ18 36 (Int32.toNatClampNeg x4))) - (Int32.toInt64 (σ18 34 (Int32.toNatClampNeg x4)))) * x16) / (Int32.toInt64 (σ18 31 (Int32.toNatClampNeg x4))))))) fun σ20 =>
  Gd (Ix x4 180) <|
  Lt (s2 σ20 0 66 (σ20 32 (Int32.toNatClampNeg x4))) fun σ21 =>
  some ((1 : Int32), σ21)
  )
  ) fun J6 =>
  lp (lb_m_hasPosition_35 x2 x3 J6) 4000 ((0 : Int32), (-1 : Int32), (0 : Int32), (0 : Int32), (0 : Int32))
  )
set_option maxHeartbeats 4000000 in
set_option maxRecDepth 100000 in
theorem cM_hasPosition (l : Launch) (g : Ge) (hi : injB wM.2 g) (σ : St) (x : Int32 × St) (h : m_hasPosition σ = some x) : Ct l wM g yM_hasPosition qM_hasPosition 8 199 [.ref (g.1 0)] σ (some (.int x.1), x.2) := by
  refine Ct.of (out := o_w) FM_hasPosition rfl hi rfl h (fun z hz C => ?_)
  clear h
  subst hz
  unfold m_hasPosition
  show Rt z qM_hasPosition wM g o_w 0 [(0, .ref (g.1 0))] [] σ _
  refine q_aload_n (pc' := 1) C 0 d_M_hasPosition_0 rfl rfl ?_
  refine q_iconst (pc' := 2) C d_M_hasPosition_1 ki_0 rfl ?_
  refine q_callVr (fr' := 0) (lo' := 0) (pc' := 5) C FM_count lmM_218 d_M_hasPosition_2 0 jM_0 kM_0 cM0 [.int (0 : Int32)] [] rfl rfl (Nat.le_of_ble_eq_true rfl) ⟨rfl, rfl⟩ (fun x h => cM_count _ g hi σ (0 : Int32) x h) rfl (fun x1 _ => ?_)
  refine q_if_ne (tgt := 10) (pc' := 8) C d_M_hasPosition_5 rfl rfl ?_ ?_
  · refine q_aload_n (pc' := 11) C 0 d_M_hasPosition_10 rfl rfl ?_
    refine q_iconst (pc' := 12) C d_M_hasPosition_11 ki_0 rfl ?_
    refine q_callVv (fr' := 7) (lo' := 176) (pc' := 15) C FM_lays lmM_359 d_M_hasPosition_12 0 jM_0 kM_0 cM0 [.int (0 : Int32)] [] rfl rfl (Nat.le_of_ble_eq_true rfl) ⟨rfl, rfl⟩ (fun x h => cM_lays _ g hi σ (0 : Int32) x h) rfl (fun x2 _ => ?_)
    refine q_aload_n (pc' := 16) C 0 d_M_hasPosition_15 rfl rfl ?_
    refine gM_7 (pc' := 19) C d_M_hasPosition_16 rfl rfl ?_
    refine q_iconst (pc' := 20) C d_M_hasPosition_19 ki_1 rfl ?_
    refine q_iald (pc' := 21) C 1 jM_1 kM_1 d_M_hasPosition_20 rfl ?_
    refine q_let (fun x3 e3 => ?_)
    refine q_topi e3 ?_
    refine q_istore_n (pc' := 22) (lv' := [(1, .int x3), (0, .ref (g.1 0))]) C d_M_hasPosition_21 (by decide) rfl rfl ?_
    refine q_iconst (pc' := 23) C d_M_hasPosition_22 ki_0 rfl ?_
    refine q_istore_n (pc' := 24) (lv' := [(2, .int (0 : Int32)), (1, .int x3), (0, .ref (g.1 0))]) C d_M_hasPosition_23 (by decide) rfl rfl ?_
    refine q_iconst (pc' := 25) C d_M_hasPosition_24 ki_m1 rfl ?_
    refine q_istore_n (pc' := 26) (lv' := [(3, .int (-1 : Int32)), (2, .int (0 : Int32)), (1, .int x3), (0, .ref (g.1 0))]) C d_M_hasPosition_25 (by decide) rfl rfl ?_
    refine q_iconst (pc' := 27) C d_M_hasPosition_26 ki_0 rfl ?_
    refine q_istore (pc' := 29) (lv' := [(4, .int (0 : Int32)), (3, .int (-1 : Int32)), (2, .int (0 : Int32)), (1, .int x3), (0, .ref (g.1 0))]) C d_M_hasPosition_27 (by decide) rfl rfl ?_
    refine q_iconst (pc' := 30) C d_M_hasPosition_29 ki_0 rfl ?_
    refine q_istore (pc' := 32) (lv' := [(5, .int (0 : Int32)), (4, .int (0 : Int32)), (3, .int (-1 : Int32)), (2, .int (0 : Int32)), (1, .int x3), (0, .ref (g.1 0))]) C d_M_hasPosition_30 (by decide) rfl rfl ?_
    refine q_iconst (pc' := 33) C d_M_hasPosition_32 ki_0 rfl ?_
    refine q_istore (pc' := 35) (lv' := [(6, .int (0 : Int32)), (5, .int (0 : Int32)), (4, .int (0 : Int32)), (3, .int (-1 : Int32)), (2, .int (0 : Int32)), (1, .int x3), (0, .ref (g.1 0))]) C d_M_hasPosition_33 (by decide) rfl rfl ?_
    refine q_join (fun J6 : Int32 → Int32 → Option (Int32 × St) => ∀ (x4 : Int32) (x5 : Int32), Rt z qM_hasPosition wM g o_w 97 [(0, .ref (g.1 0)), (1, .int x3), (3, .int x4), (4, .int x5)] [] x2 (J6 x4 x5)) (fun x4 x5 => ?_) (fun J6 hJ6 => ?_)
    · refine q_iload_n (pc' := 98) C 2 d_M_hasPosition_97 rfl rfl ?_
      refine q_if_lt (tgt := 201) (pc' := 101) C d_M_hasPosition_98 rfl rfl ?_ ?_
      · refine q_aload_n (pc' := 202) C 0 d_M_hasPosition_201 rfl rfl ?_
        refine q_iconst (pc' := 203) C d_M_hasPosition_202 ki_0 rfl ?_
        refine q_iload_n (pc' := 204) C 1 d_M_hasPosition_203 rfl rfl ?_
        refine q_iconst (pc' := 205) C d_M_hasPosition_204 ki_0 rfl ?_
        refine q_callVr (fr' := 0) (lo' := 0) (pc' := 208) C FM_of lmM_168 d_M_hasPosition_205 0 jM_0 kM_0 cM0 [.int (0 : Int32), .int x3, .int (0 : Int32)] [] rfl rfl (Nat.le_of_ble_eq_true rfl) ⟨rfl, rfl⟩ (fun x h => cM_of _ g hi x2 (0 : Int32) x3 (0 : Int32) x h) rfl (fun x7 _ => ?_)
        refine q_istore (pc' := 210) (lv' := [(6, .int x7), (0, .ref (g.1 0)), (1, .int x3), (3, .int x4), (4, .int x5)]) C d_M_hasPosition_208 (by decide) rfl rfl ?_
        refine q_aload_n (pc' := 211) C 1 d_M_hasPosition_210 rfl rfl ?_
        refine q_aload_n (pc' := 212) C 1 d_M_hasPosition_211 rfl rfl ?_
        refine gM_84 (pc' := 215) C d_M_hasPosition_212 rfl rfl ?_
        refine q_iload_n (pc' := 216) C 2 d_M_hasPosition_215 rfl rfl ?_
        refine q_iald (pc' := 217) C 20 jM_20 kM_20 d_M_hasPosition_216 rfl ?_
        refine pM_365 (pc' := 220) C d_M_hasPosition_217 rfl rfl ?_
        refine q_let (fun σ8 e8 => ?_)
        refine q_state e8 ?_
        refine q_aload_n (pc' := 221) C 1 d_M_hasPosition_220 rfl rfl ?_
        refine q_aload_n (pc' := 222) C 1 d_M_hasPosition_221 rfl rfl ?_
        refine gM_87 (pc' := 225) C d_M_hasPosition_222 rfl rfl ?_
        refine q_iload_n (pc' := 226) C 2 d_M_hasPosition_225 rfl rfl ?_
        refine q_iald (pc' := 227) C 21 jM_21 kM_21 d_M_hasPosition_226 rfl ?_
        refine pM_368 (pc' := 230) C d_M_hasPosition_227 rfl rfl ?_
        refine q_let (fun σ9 e9 => ?_)
        refine q_state e9 ?_
        refine q_aload_n (pc' := 231) C 1 d_M_hasPosition_230 rfl rfl ?_
        refine q_iload (pc' := 233) C 0 d_M_hasPosition_231 rfl rfl ?_
        refine q_iconst (pc' := 234) C d_M_hasPosition_233 ki_3 rfl ?_
        refine q_join (fun J11 : Int32 → Option (Int32 × St) => ∀ (x10 : Int32), Rt z qM_hasPosition wM g o_w 262 [(0, .ref (g.1 0)), (1, .int x3)] [.int x10, .ref (g.1 0)] σ9 (J11 x10)) (fun x10 => ?_) (fun J11 hJ11 => ?_)
        · refine pM_371 (pc' := 265) C d_M_hasPosition_262 rfl rfl ?_
          refine q_let (fun σ12 e12 => ?_)
          refine q_state e12 ?_
          refine q_aload_n (pc' := 266) C 0 d_M_hasPosition_265 rfl rfl ?_
          refine gM_81 (pc' := 269) C d_M_hasPosition_266 rfl rfl ?_
          refine q_iload_n (pc' := 270) C 1 d_M_hasPosition_269 rfl rfl ?_
          refine q_zald (pc' := 271) C 19 jM_19 kM_19 d_M_hasPosition_270 rfl ?_
          refine q_guard (fun gx13 => ?_)
          exact q_zret C rfl gx13 d_M_hasPosition_271 rfl
        refine q_join (fun J14 : Unit → Option (Int32 × St) => ∀ (_ : Unit), Rt z qM_hasPosition wM g o_w 251 [(0, .ref (g.1 0)), (1, .int x3)] [.ref (g.1 0)] σ9 (J14 ())) (fun _ => ?_) (fun J14 hJ14 => ?_)
        · refine q_aload_n (pc' := 252) C 0 d_M_hasPosition_251 rfl rfl ?_
          refine q_iconst (pc' := 253) C d_M_hasPosition_252 ki_0 rfl ?_
          refine q_iload_n (pc' := 254) C 1 d_M_hasPosition_253 rfl rfl ?_
          refine q_iconst (pc' := 255) C d_M_hasPosition_254 ki_2 rfl ?_
          refine q_callVr (fr' := 0) (lo' := 0) (pc' := 258) C FM_of lmM_168 d_M_hasPosition_255 0 jM_0 kM_0 cM0 [.int (0 : Int32), .int x3, .int (2 : Int32)] [.ref (g.1 0)] rfl rfl (Nat.le_of_ble_eq_true rfl) ⟨rfl, rfl⟩ (fun x h => cM_of _ g hi σ9 (0 : Int32) x3 (2 : Int32) x h) rfl (fun x15 _ => ?_)
          refine q_goto (tgt := 262) C d_M_hasPosition_258 rfl ?_
          exact Rt.sub [0, 1] rfl (hJ11 x15)
        refine q_icmp_eq (tgt := 251) (pc' := 237) C d_M_hasPosition_234 rfl rfl ?_ ?_
        · exact Rt.sub [1, 2] rfl (hJ14 ())
        · refine q_iload (pc' := 239) C 0 d_M_hasPosition_237 rfl rfl ?_
          refine q_bipush (pc' := 241) C d_M_hasPosition_239 kb_7 rfl ?_
          refine q_icmp_eq (tgt := 251) (pc' := 244) C d_M_hasPosition_241 rfl rfl ?_ ?_
          · exact Rt.sub [1, 2] rfl (hJ14 ())
          · refine q_iload (pc' := 246) C 0 d_M_hasPosition_244 rfl rfl ?_
            refine q_bipush (pc' := 248) C d_M_hasPosition_246 kb_8 rfl ?_
            refine q_icmp_ne (tgt := 261) (pc' := 251) C d_M_hasPosition_248 rfl rfl ?_ ?_
            · refine q_iconst (pc' := 262) C d_M_hasPosition_261 ki_0 rfl ?_
              exact Rt.sub [1, 2] rfl (hJ11 (0 : Int32))
            · exact Rt.sub [1, 2] rfl (hJ14 ())
      · refine q_aload_n (pc' := 102) C 0 d_M_hasPosition_101 rfl rfl ?_
        refine gM_362 (pc' := 105) C d_M_hasPosition_102 rfl rfl ?_
        refine q_iload (pc' := 107) C 3 d_M_hasPosition_105 rfl rfl ?_
        refine q_isub (pc' := 108) C d_M_hasPosition_107 rfl ?_
        refine q_i2l (pc' := 109) C d_M_hasPosition_108 rfl ?_
        refine q_let (fun x16 e16 => ?_)
        refine q_topl e16 ?_
        refine q_lstore (pc' := 111) (lv' := [(6, .long x16), (0, .ref (g.1 0)), (1, .int x3), (3, .int x4), (4, .int x5)]) C d_M_hasPosition_109 (by decide) rfl rfl ?_
        refine q_aload_n (pc' := 112) C 1 d_M_hasPosition_111 rfl rfl ?_
        refine q_aload_n (pc' := 113) C 1 d_M_hasPosition_112 rfl rfl ?_
        refine gM_123 (pc' := 116) C d_M_hasPosition_113 rfl rfl ?_
        refine q_iload_n (pc' := 117) C 3 d_M_hasPosition_116 rfl rfl ?_
        refine q_iald (pc' := 118) C 33 jM_33 kM_33 d_M_hasPosition_117 rfl ?_
        refine q_i2l (pc' := 119) C d_M_hasPosition_118 rfl ?_
        refine q_aload_n (pc' := 120) C 1 d_M_hasPosition_119 rfl rfl ?_
        refine gM_129 (pc' := 123) C d_M_hasPosition_120 rfl rfl ?_
        refine q_iload_n (pc' := 124) C 3 d_M_hasPosition_123 rfl rfl ?_
        refine q_iald (pc' := 125) C 35 jM_35 kM_35 d_M_hasPosition_124 rfl ?_
        refine q_i2l (pc' := 126) C d_M_hasPosition_125 rfl ?_
        refine q_aload_n (pc' := 127) C 1 d_M_hasPosition_126 rfl rfl ?_
        refine gM_123 (pc' := 130) C d_M_hasPosition_127 rfl rfl ?_
        refine q_iload_n (pc' := 131) C 3 d_M_hasPosition_130 rfl rfl ?_
        refine q_iald (pc' := 132) C 33 jM_33 kM_33 d_M_hasPosition_131 rfl ?_
        refine q_i2l (pc' := 133) C d_M_hasPosition_132 rfl ?_
        refine q_lsub (pc' := 134) C d_M_hasPosition_133 rfl ?_
        refine q_lload (pc' := 136) C 0 d_M_hasPosition_134 rfl rfl ?_
        refine q_lmul (pc' := 137) C d_M_hasPosition_136 rfl ?_
        refine q_aload_n (pc' := 138) C 1 d_M_hasPosition_137 rfl rfl ?_
        refine gM_117 (pc' := 141) C d_M_hasPosition_138 rfl rfl ?_
        refine q_iload_n (pc' := 142) C 3 d_M_hasPosition_141 rfl rfl ?_
        refine q_iald (pc' := 143) C 31 jM_31 kM_31 d_M_hasPosition_142 rfl ?_
        refine q_i2l (pc' := 144) C d_M_hasPosition_143 rfl ?_
        refine q_guard (fun gx17 => ?_)
        refine q_ldiv (pc' := 145) C gx17 d_M_hasPosition_144 rfl ?_
        refine q_ladd (pc' := 146) C d_M_hasPosition_145 rfl ?_
        refine q_l2i (pc' := 147) C d_M_hasPosition_146 rfl ?_
        refine pM_365 (pc' := 150) C d_M_hasPosition_147 rfl rfl ?_
        refine q_let (fun σ18 e18 => ?_)
        refine q_state e18 ?_
        refine q_aload_n (pc' := 151) C 1 d_M_hasPosition_150 rfl rfl ?_
        refine q_aload_n (pc' := 152) C 1 d_M_hasPosition_151 rfl rfl ?_
        refine gM_126 (pc' := 155) C d_M_hasPosition_152 rfl rfl ?_
        refine q_iload_n (pc' := 156) C 3 d_M_hasPosition_155 rfl rfl ?_
        refine q_iald (pc' := 157) C 34 jM_34 kM_34 d_M_hasPosition_156 rfl ?_
        refine q_i2l (pc' := 158) C d_M_hasPosition_157 rfl ?_
        refine q_aload_n (pc' := 159) C 1 d_M_hasPosition_158 rfl rfl ?_
        refine gM_132 (pc' := 162) C d_M_hasPosition_159 rfl rfl ?_
        refine q_iload_n (pc' := 163) C 3 d_M_hasPosition_162 rfl rfl ?_
        refine q_iald (pc' := 164) C 36 jM_36 kM_36 d_M_hasPosition_163 rfl ?_
        refine q_i2l (pc' := 165) C d_M_hasPosition_164 rfl ?_
        refine q_aload_n (pc' := 166) C 1 d_M_hasPosition_165 rfl rfl ?_
        refine gM_126 (pc' := 169) C d_M_hasPosition_166 rfl rfl ?_
        refine q_iload_n (pc' := 170) C 3 d_M_hasPosition_169 rfl rfl ?_
        refine q_iald (pc' := 171) C 34 jM_34 kM_34 d_M_hasPosition_170 rfl ?_
        refine q_i2l (pc' := 172) C d_M_hasPosition_171 rfl ?_
        refine q_lsub (pc' := 173) C d_M_hasPosition_172 rfl ?_
        refine q_lload (pc' := 175) C 0 d_M_hasPosition_173 rfl rfl ?_
        refine q_lmul (pc' := 176) C d_M_hasPosition_175 rfl ?_
        refine q_aload_n (pc' := 177) C 1 d_M_hasPosition_176 rfl rfl ?_
        refine gM_117 (pc' := 180) C d_M_hasPosition_177 rfl rfl ?_
        refine q_iload_n (pc' := 181) C 3 d_M_hasPosition_180 rfl rfl ?_
        refine q_iald (pc' := 182) C 31 jM_31 kM_31 d_M_hasPosition_181 rfl ?_
        refine q_i2l (pc' := 183) C d_M_hasPosition_182 rfl ?_
        refine q_guard (fun gx19 => ?_)
        refine q_ldiv (pc' := 184) C gx19 d_M_hasPosition_183 rfl ?_
        refine q_ladd (pc' := 185) C d_M_hasPosition_184 rfl ?_
        refine q_l2i (pc' := 186) C d_M_hasPosition_185 rfl ?_
        refine pM_368 (pc' := 189) C d_M_hasPosition_186 rfl rfl ?_
        refine q_let (fun σ20 e20 => ?_)
        refine q_state e20 ?_
        refine q_aload_n (pc' := 190) C 1 d_M_hasPosition_189 rfl rfl ?_
        refine q_aload_n (pc' := 191) C 1 d_M_hasPosition_190 rfl rfl ?_
        refine gM_120 (pc' := 194) C d_M_hasPosition_191 rfl rfl ?_
        refine q_iload_n (pc' := 195) C 3 d_M_hasPosition_194 rfl rfl ?_
        refine q_iald (pc' := 196) C 32 jM_32 kM_32 d_M_hasPosition_195 rfl ?_
        refine pM_371 (pc' := 199) C d_M_hasPosition_196 rfl rfl ?_
        refine q_let (fun σ21 e21 => ?_)
        refine q_state e21 ?_
        refine q_iconst (pc' := 200) C d_M_hasPosition_199 ki_1 rfl ?_
        exact q_zret C rfl (by decide) d_M_hasPosition_200 rfl
    refine Rt.sub [6, 5, 4, 3, 2, 1, 0] rfl (q_lp (fun a22 : Int32 × Int32 × Int32 × Int32 × Int32 => [(0, .ref (g.1 0)), (1, .int x3), (2, .int a22.1), (3, .int a22.2.1), (4, .int a22.2.2.1), (5, .int a22.2.2.2.1), (6, .int a22.2.2.2.2)]) (fun a22 => []) (fun a22 => x2) (fun ih23 hih23 a22 => ?_) 4000 ((0 : Int32), (-1 : Int32), (0 : Int32), (0 : Int32), (0 : Int32)))
    unfold lb_m_hasPosition_35
    refine q_iload (pc' := 37) C 6 d_M_hasPosition_35 rfl rfl ?_
    refine q_aload_n (pc' := 38) C 0 d_M_hasPosition_37 rfl rfl ?_
    refine gM_289 (pc' := 41) C d_M_hasPosition_38 rfl rfl ?_
    refine q_icmp_ge (tgt := 97) (pc' := 44) C d_M_hasPosition_41 rfl rfl ?_ ?_
    · exact Rt.sub [0, 1, 3, 4] rfl (hJ6 a22.2.1 a22.2.2.1)
    · refine q_iload (pc' := 46) C 5 d_M_hasPosition_44 rfl rfl ?_
      refine q_if_ne (tgt := 97) (pc' := 49) C d_M_hasPosition_46 rfl rfl ?_ ?_
      · exact Rt.sub [0, 1, 3, 4] rfl (hJ6 a22.2.1 a22.2.2.1)
      · refine q_aload_n (pc' := 50) C 0 d_M_hasPosition_49 rfl rfl ?_
        refine gM_111 (pc' := 53) C d_M_hasPosition_50 rfl rfl ?_
        refine q_iload (pc' := 55) C 6 d_M_hasPosition_53 rfl rfl ?_
        refine q_iald (pc' := 56) C 29 jM_29 kM_29 d_M_hasPosition_55 rfl ?_
        refine q_iload_n (pc' := 57) C 1 d_M_hasPosition_56 rfl rfl ?_
        refine q_join (fun J28 : Int32 → Int32 → Int32 → Int32 → Option (Int32 × St) => ∀ (x24 : Int32) (x25 : Int32) (x26 : Int32) (x27 : Int32), Rt z qM_hasPosition wM g o_w 91 [(0, .ref (g.1 0)), (1, .int x3), (2, .int x24), (3, .int x25), (4, .int x26), (5, .int x27), (6, .int a22.2.2.2.2)] [] x2 (J28 x24 x25 x26 x27)) (fun x24 x25 x26 x27 => ?_) (fun J28 hJ28 => ?_)
        · refine q_let (fun x29 e29 => ?_)
          refine q_iinc (pc' := 94) (lv' := [(6, .int x29), (0, .ref (g.1 0)), (1, .int x3), (2, .int x24), (3, .int x25), (4, .int x26), (5, .int x27)]) C 6 d_M_hasPosition_91 rfl (by rw [e29, ki_1]) (by decide) rfl rfl ?_
          refine q_goto (tgt := 35) C d_M_hasPosition_94 rfl ?_
          exact Rt.sub [1, 2, 3, 4, 5, 6, 0] rfl (hih23 (x24, x25, x26, x27, x29))
        refine q_icmp_ne (tgt := 91) (pc' := 60) C d_M_hasPosition_57 rfl rfl ?_ ?_
        · exact Rt.sub [0, 1, 2, 3, 4, 5, 6] rfl (hJ28 a22.1 a22.2.1 a22.2.2.1 a22.2.2.2.1)
        · refine q_iload (pc' := 62) C 6 d_M_hasPosition_60 rfl rfl ?_
          refine q_istore_n (pc' := 63) (lv' := [(3, .int a22.2.2.2.2), (0, .ref (g.1 0)), (1, .int x3), (2, .int a22.1), (4, .int a22.2.2.1), (5, .int a22.2.2.2.1), (6, .int a22.2.2.2.2)]) C d_M_hasPosition_62 (by decide) rfl rfl ?_
          refine q_iload_n (pc' := 64) C 3 d_M_hasPosition_63 rfl rfl ?_
          refine q_istore (pc' := 66) (lv' := [(4, .int a22.1), (3, .int a22.2.2.2.2), (0, .ref (g.1 0)), (1, .int x3), (2, .int a22.1), (5, .int a22.2.2.2.1), (6, .int a22.2.2.2.2)]) C d_M_hasPosition_64 (by decide) rfl rfl ?_
          refine q_iload_n (pc' := 67) C 4 d_M_hasPosition_66 rfl rfl ?_
          refine q_aload_n (pc' := 68) C 2 d_M_hasPosition_67 rfl rfl ?_
          refine gM_117 (pc' := 71) C d_M_hasPosition_68 rfl rfl ?_
          refine q_iload (pc' := 73) C 6 d_M_hasPosition_71 rfl rfl ?_
          refine q_iald (pc' := 74) C 31 jM_31 kM_31 d_M_hasPosition_73 rfl ?_
          refine q_iadd (pc' := 75) C d_M_hasPosition_74 rfl ?_
          refine q_let (fun x30 e30 => ?_)
          refine q_topi e30 ?_
          refine q_istore_n (pc' := 76) (lv' := [(2, .int x30), (4, .int a22.1), (3, .int a22.2.2.2.2), (0, .ref (g.1 0)), (1, .int x3), (5, .int a22.2.2.2.1), (6, .int a22.2.2.2.2)]) C d_M_hasPosition_75 (by decide) rfl rfl ?_
          refine q_iload_n (pc' := 77) C 0 d_M_hasPosition_76 rfl rfl ?_
          refine q_aload_n (pc' := 78) C 3 d_M_hasPosition_77 rfl rfl ?_
          refine gM_362 (pc' := 81) C d_M_hasPosition_78 rfl rfl ?_
          refine q_join (fun J32 : Int32 → Option (Int32 × St) => ∀ (x31 : Int32), Rt z qM_hasPosition wM g o_w 89 [(0, .ref (g.1 0)), (1, .int x3), (2, .int x30), (3, .int a22.2.2.2.2), (4, .int a22.1), (6, .int a22.2.2.2.2)] [.int x31] x2 (J32 x31)) (fun x31 => ?_) (fun J32 hJ32 => ?_)
          · refine q_istore (pc' := 91) (lv' := [(5, .int x31), (0, .ref (g.1 0)), (1, .int x3), (2, .int x30), (3, .int a22.2.2.2.2), (4, .int a22.1), (6, .int a22.2.2.2.2)]) C d_M_hasPosition_89 (by decide) rfl rfl ?_
            exact Rt.sub [1, 2, 3, 4, 5, 0, 6] rfl (hJ28 x30 a22.2.2.2.2 a22.1 x31)
          refine q_icmp_le (tgt := 88) (pc' := 84) C d_M_hasPosition_81 rfl rfl ?_ ?_
          · refine q_iconst (pc' := 89) C d_M_hasPosition_88 ki_0 rfl ?_
            exact Rt.sub [3, 4, 0, 2, 1, 6] rfl (hJ32 (0 : Int32))
          · refine q_iconst (pc' := 85) C d_M_hasPosition_84 ki_1 rfl ?_
            refine q_goto (tgt := 89) C d_M_hasPosition_85 rfl ?_
            exact Rt.sub [3, 4, 0, 2, 1, 6] rfl (hJ32 (1 : Int32))
  · refine q_iconst (pc' := 9) C d_M_hasPosition_8 ki_0 rfl ?_
    exact q_zret C rfl (by decide) d_M_hasPosition_9 rfl
theorem d_M_clamps_0 : decode qM_clamps.1 0 = .ok (.aload_n 0, 1) := by decide +kernel
theorem d_M_clamps_1 : decode qM_clamps.1 1 = .ok (.iconst 0, 1) := by decide +kernel
theorem d_M_clamps_2 : decode qM_clamps.1 2 = .ok (.invokevirtual 218, 3) := by decide +kernel
theorem d_M_clamps_5 : decode qM_clamps.1 5 = .ok (.ifCond .le 30, 3) := by decide +kernel
theorem d_M_clamps_8 : decode qM_clamps.1 8 = .ok (.aload_n 0, 1) := by decide +kernel
theorem d_M_clamps_9 : decode qM_clamps.1 9 = .ok (.iconst 0, 1) := by decide +kernel
theorem d_M_clamps_10 : decode qM_clamps.1 10 = .ok (.invokevirtual 359, 3) := by decide +kernel
theorem d_M_clamps_13 : decode qM_clamps.1 13 = .ok (.aload_n 0, 1) := by decide +kernel
theorem d_M_clamps_14 : decode qM_clamps.1 14 = .ok (.aload_n 0, 1) := by decide +kernel
theorem d_M_clamps_15 : decode qM_clamps.1 15 = .ok (.getfield 362, 3) := by decide +kernel
theorem d_M_clamps_18 : decode qM_clamps.1 18 = .ok (.aload_n 0, 1) := by decide +kernel
theorem d_M_clamps_19 : decode qM_clamps.1 19 = .ok (.getfield 135, 3) := by decide +kernel
theorem d_M_clamps_22 : decode qM_clamps.1 22 = .ok (.aload_n 0, 1) := by decide +kernel
theorem d_M_clamps_23 : decode qM_clamps.1 23 = .ok (.getfield 7, 3) := by decide +kernel
theorem d_M_clamps_26 : decode qM_clamps.1 26 = .ok (.iconst 1, 1) := by decide +kernel
theorem d_M_clamps_27 : decode qM_clamps.1 27 = .ok (.iaload, 1) := by decide +kernel
theorem d_M_clamps_28 : decode qM_clamps.1 28 = .ok (.iaload, 1) := by decide +kernel
theorem d_M_clamps_29 : decode qM_clamps.1 29 = .ok (.invokestatic 267, 3) := by decide +kernel
theorem d_M_clamps_32 : decode qM_clamps.1 32 = .ok (.putfield 362, 3) := by decide +kernel
theorem d_M_clamps_35 : decode qM_clamps.1 35 = .ok (.return_, 1) := by decide +kernel
set_option maxRecDepth 100000 in
def m_clamps (σ : St) : Option (St) :=
  Option.bind (m_count σ (0 : Int32)) fun x1 =>
  Jn (fun (σ2 : St) =>
  some σ2
  ) fun J3 =>
  if (x1 : Int32) ≤ 0 then (
  J3 σ
  ) else (
  Option.bind (m_lays σ (0 : Int32)) fun x4 =>
  Gd (Ix (1 : Int32) 2673) <|
  Gd (Ix (x4 1 (Int32.toNatClampNeg (1 : Int32))) 21) <|
  Option.bind (m_lesser (x4 0 4) (x4 37 (Int32.toNatClampNeg (x4 1 (Int32.toNatClampNeg (1 : Int32)))))) fun x5 =>
  Lt (s2 x4 0 4 x5) fun σ6 =>
  J3 σ6
  )
set_option maxHeartbeats 4000000 in
set_option maxRecDepth 100000 in
theorem cM_clamps (l : Launch) (g : Ge) (hi : injB wM.2 g) (σ : St) (x : St) (h : m_clamps σ = some x) : Ct l wM g yM_clamps qM_clamps 8 199 [.ref (g.1 0)] σ (none, x) := by
  refine Ct.of (out := o_v) FM_clamps rfl hi rfl h (fun z hz C => ?_)
  clear h
  subst hz
  unfold m_clamps
  show Rt z qM_clamps wM g o_v 0 [(0, .ref (g.1 0))] [] σ _
  refine q_aload_n (pc' := 1) C 0 d_M_clamps_0 rfl rfl ?_
  refine q_iconst (pc' := 2) C d_M_clamps_1 ki_0 rfl ?_
  refine q_callVr (fr' := 0) (lo' := 0) (pc' := 5) C FM_count lmM_218 d_M_clamps_2 0 jM_0 kM_0 cM0 [.int (0 : Int32)] [] rfl rfl (Nat.le_of_ble_eq_true rfl) ⟨rfl, rfl⟩ (fun x h => cM_count _ g hi σ (0 : Int32) x h) rfl (fun x1 _ => ?_)
  refine q_join (fun J3 : St → Option (St) => ∀ (σ2 : St), Rt z qM_clamps wM g o_v 35 [] [] σ2 (J3 σ2)) (fun σ2 => ?_) (fun J3 hJ3 => ?_)
  · exact q_vret C rfl d_M_clamps_35 rfl
  refine q_if_le (tgt := 35) (pc' := 8) C d_M_clamps_5 rfl rfl ?_ ?_
  · exact Rt.sub [] rfl (hJ3 σ)
  · refine q_aload_n (pc' := 9) C 0 d_M_clamps_8 rfl rfl ?_
    refine q_iconst (pc' := 10) C d_M_clamps_9 ki_0 rfl ?_
    refine q_callVv (fr' := 7) (lo' := 176) (pc' := 13) C FM_lays lmM_359 d_M_clamps_10 0 jM_0 kM_0 cM0 [.int (0 : Int32)] [] rfl rfl (Nat.le_of_ble_eq_true rfl) ⟨rfl, rfl⟩ (fun x h => cM_lays _ g hi σ (0 : Int32) x h) rfl (fun x4 _ => ?_)
    refine q_aload_n (pc' := 14) C 0 d_M_clamps_13 rfl rfl ?_
    refine q_aload_n (pc' := 15) C 0 d_M_clamps_14 rfl rfl ?_
    refine gM_362 (pc' := 18) C d_M_clamps_15 rfl rfl ?_
    refine q_aload_n (pc' := 19) C 0 d_M_clamps_18 rfl rfl ?_
    refine gM_135 (pc' := 22) C d_M_clamps_19 rfl rfl ?_
    refine q_aload_n (pc' := 23) C 0 d_M_clamps_22 rfl rfl ?_
    refine gM_7 (pc' := 26) C d_M_clamps_23 rfl rfl ?_
    refine q_iconst (pc' := 27) C d_M_clamps_26 ki_1 rfl ?_
    refine q_iald (pc' := 28) C 1 jM_1 kM_1 d_M_clamps_27 rfl ?_
    refine q_iald (pc' := 29) C 37 jM_37 kM_37 d_M_clamps_28 rfl ?_
    refine q_callSr (fr' := 0) (lo' := 0) (pc' := 32) C FM_lesser lmM_267 d_M_clamps_29 [.int (x4 0 4), .int (x4 37 (Int32.toNatClampNeg (x4 1 (Int32.toNatClampNeg (1 : Int32)))))] [.ref (g.1 0)] rfl rfl (Nat.le_of_ble_eq_true rfl) ⟨rfl, rfl⟩ (fun x h => cM_lesser _ g hi x4 (x4 0 4) (x4 37 (Int32.toNatClampNeg (x4 1 (Int32.toNatClampNeg (1 : Int32))))) x h) rfl (fun x5 _ => ?_)
    refine pM_362 (pc' := 35) C d_M_clamps_32 rfl rfl ?_
    refine q_let (fun σ6 e6 => ?_)
    refine q_state e6 ?_
    exact Rt.sub [] rfl (hJ3 σ6)
