/-! the methods of the program, 3 -/
theorem d_Pc_drawArcOver_0 : decode qC_Pc_drawArcOver.1 0 = .ok (.aload_n 0, 1) := by decide +kernel
theorem d_Pc_drawArcOver_1 : decode qC_Pc_drawArcOver.1 1 = .ok (.getfield 48, 3) := by decide +kernel
theorem d_Pc_drawArcOver_4 : decode qC_Pc_drawArcOver.1 4 = .ok (.iload_n 1, 1) := by decide +kernel
theorem d_Pc_drawArcOver_5 : decode qC_Pc_drawArcOver.1 5 = .ok (.bipush 12, 2) := by decide +kernel
theorem d_Pc_drawArcOver_7 : decode qC_Pc_drawArcOver.1 7 = .ok (.invokevirtual 59, 3) := by decide +kernel
theorem d_Pc_drawArcOver_10 : decode qC_Pc_drawArcOver.1 10 = .ok (.ifCond .le 8, 3) := by decide +kernel
theorem d_Pc_drawArcOver_13 : decode qC_Pc_drawArcOver.1 13 = .ok (.bipush 6, 2) := by decide +kernel
theorem d_Pc_drawArcOver_15 : decode qC_Pc_drawArcOver.1 15 = .ok (.goto 5, 3) := by decide +kernel
theorem d_Pc_drawArcOver_18 : decode qC_Pc_drawArcOver.1 18 = .ok (.bipush (-6), 2) := by decide +kernel
theorem d_Pc_drawArcOver_20 : decode qC_Pc_drawArcOver.1 20 = .ok (.istore_n 2, 1) := by decide +kernel
theorem d_Pc_drawArcOver_21 : decode qC_Pc_drawArcOver.1 21 = .ok (.aload_n 0, 1) := by decide +kernel
theorem d_Pc_drawArcOver_22 : decode qC_Pc_drawArcOver.1 22 = .ok (.getfield 48, 3) := by decide +kernel
theorem d_Pc_drawArcOver_25 : decode qC_Pc_drawArcOver.1 25 = .ok (.iload_n 1, 1) := by decide +kernel
theorem d_Pc_drawArcOver_26 : decode qC_Pc_drawArcOver.1 26 = .ok (.bipush 8, 2) := by decide +kernel
theorem d_Pc_drawArcOver_28 : decode qC_Pc_drawArcOver.1 28 = .ok (.invokevirtual 59, 3) := by decide +kernel
theorem d_Pc_drawArcOver_31 : decode qC_Pc_drawArcOver.1 31 = .ok (.iload_n 2, 1) := by decide +kernel
theorem d_Pc_drawArcOver_32 : decode qC_Pc_drawArcOver.1 32 = .ok (.iadd, 1) := by decide +kernel
theorem d_Pc_drawArcOver_33 : decode qC_Pc_drawArcOver.1 33 = .ok (.istore_n 3, 1) := by decide +kernel
theorem d_Pc_drawArcOver_34 : decode qC_Pc_drawArcOver.1 34 = .ok (.aload_n 0, 1) := by decide +kernel
theorem d_Pc_drawArcOver_35 : decode qC_Pc_drawArcOver.1 35 = .ok (.getfield 48, 3) := by decide +kernel
theorem d_Pc_drawArcOver_38 : decode qC_Pc_drawArcOver.1 38 = .ok (.iload_n 1, 1) := by decide +kernel
theorem d_Pc_drawArcOver_39 : decode qC_Pc_drawArcOver.1 39 = .ok (.bipush 6, 2) := by decide +kernel
theorem d_Pc_drawArcOver_41 : decode qC_Pc_drawArcOver.1 41 = .ok (.invokevirtual 59, 3) := by decide +kernel
theorem d_Pc_drawArcOver_44 : decode qC_Pc_drawArcOver.1 44 = .ok (.iload_n 2, 1) := by decide +kernel
theorem d_Pc_drawArcOver_45 : decode qC_Pc_drawArcOver.1 45 = .ok (.iadd, 1) := by decide +kernel
theorem d_Pc_drawArcOver_46 : decode qC_Pc_drawArcOver.1 46 = .ok (.istore 4, 2) := by decide +kernel
theorem d_Pc_drawArcOver_48 : decode qC_Pc_drawArcOver.1 48 = .ok (.aload_n 0, 1) := by decide +kernel
theorem d_Pc_drawArcOver_49 : decode qC_Pc_drawArcOver.1 49 = .ok (.getfield 48, 3) := by decide +kernel
theorem d_Pc_drawArcOver_52 : decode qC_Pc_drawArcOver.1 52 = .ok (.iload_n 1, 1) := by decide +kernel
theorem d_Pc_drawArcOver_53 : decode qC_Pc_drawArcOver.1 53 = .ok (.bipush 13, 2) := by decide +kernel
theorem d_Pc_drawArcOver_55 : decode qC_Pc_drawArcOver.1 55 = .ok (.invokevirtual 59, 3) := by decide +kernel
theorem d_Pc_drawArcOver_58 : decode qC_Pc_drawArcOver.1 58 = .ok (.istore 5, 2) := by decide +kernel
theorem d_Pc_drawArcOver_60 : decode qC_Pc_drawArcOver.1 60 = .ok (.iload 5, 2) := by decide +kernel
theorem d_Pc_drawArcOver_62 : decode qC_Pc_drawArcOver.1 62 = .ok (.iload_n 3, 1) := by decide +kernel
theorem d_Pc_drawArcOver_63 : decode qC_Pc_drawArcOver.1 63 = .ok (.invokestatic 119, 3) := by decide +kernel
theorem d_Pc_drawArcOver_66 : decode qC_Pc_drawArcOver.1 66 = .ok (.iload 4, 2) := by decide +kernel
theorem d_Pc_drawArcOver_68 : decode qC_Pc_drawArcOver.1 68 = .ok (.invokestatic 119, 3) := by decide +kernel
theorem d_Pc_drawArcOver_71 : decode qC_Pc_drawArcOver.1 71 = .ok (.isub, 1) := by decide +kernel
theorem d_Pc_drawArcOver_72 : decode qC_Pc_drawArcOver.1 72 = .ok (.imul, 1) := by decide +kernel
theorem d_Pc_drawArcOver_73 : decode qC_Pc_drawArcOver.1 73 = .ok (.sipush 1000, 3) := by decide +kernel
theorem d_Pc_drawArcOver_76 : decode qC_Pc_drawArcOver.1 76 = .ok (.idiv, 1) := by decide +kernel
theorem d_Pc_drawArcOver_77 : decode qC_Pc_drawArcOver.1 77 = .ok (.istore 6, 2) := by decide +kernel
theorem d_Pc_drawArcOver_79 : decode qC_Pc_drawArcOver.1 79 = .ok (.iload 5, 2) := by decide +kernel
theorem d_Pc_drawArcOver_81 : decode qC_Pc_drawArcOver.1 81 = .ok (.iload_n 3, 1) := by decide +kernel
theorem d_Pc_drawArcOver_82 : decode qC_Pc_drawArcOver.1 82 = .ok (.invokestatic 122, 3) := by decide +kernel
theorem d_Pc_drawArcOver_85 : decode qC_Pc_drawArcOver.1 85 = .ok (.iload 4, 2) := by decide +kernel
theorem d_Pc_drawArcOver_87 : decode qC_Pc_drawArcOver.1 87 = .ok (.invokestatic 122, 3) := by decide +kernel
theorem d_Pc_drawArcOver_90 : decode qC_Pc_drawArcOver.1 90 = .ok (.isub, 1) := by decide +kernel
theorem d_Pc_drawArcOver_91 : decode qC_Pc_drawArcOver.1 91 = .ok (.imul, 1) := by decide +kernel
theorem d_Pc_drawArcOver_92 : decode qC_Pc_drawArcOver.1 92 = .ok (.sipush 1000, 3) := by decide +kernel
theorem d_Pc_drawArcOver_95 : decode qC_Pc_drawArcOver.1 95 = .ok (.idiv, 1) := by decide +kernel
theorem d_Pc_drawArcOver_96 : decode qC_Pc_drawArcOver.1 96 = .ok (.istore 7, 2) := by decide +kernel
theorem d_Pc_drawArcOver_98 : decode qC_Pc_drawArcOver.1 98 = .ok (.aload_n 0, 1) := by decide +kernel
theorem d_Pc_drawArcOver_99 : decode qC_Pc_drawArcOver.1 99 = .ok (.aload_n 0, 1) := by decide +kernel
theorem d_Pc_drawArcOver_100 : decode qC_Pc_drawArcOver.1 100 = .ok (.getfield 48, 3) := by decide +kernel
theorem d_Pc_drawArcOver_103 : decode qC_Pc_drawArcOver.1 103 = .ok (.iload_n 1, 1) := by decide +kernel
theorem d_Pc_drawArcOver_104 : decode qC_Pc_drawArcOver.1 104 = .ok (.iconst 1, 1) := by decide +kernel
theorem d_Pc_drawArcOver_105 : decode qC_Pc_drawArcOver.1 105 = .ok (.invokevirtual 59, 3) := by decide +kernel
theorem d_Pc_drawArcOver_108 : decode qC_Pc_drawArcOver.1 108 = .ok (.iload 6, 2) := by decide +kernel
theorem d_Pc_drawArcOver_110 : decode qC_Pc_drawArcOver.1 110 = .ok (.iadd, 1) := by decide +kernel
theorem d_Pc_drawArcOver_111 : decode qC_Pc_drawArcOver.1 111 = .ok (.putfield 24, 3) := by decide +kernel
theorem d_Pc_drawArcOver_114 : decode qC_Pc_drawArcOver.1 114 = .ok (.aload_n 0, 1) := by decide +kernel
theorem d_Pc_drawArcOver_115 : decode qC_Pc_drawArcOver.1 115 = .ok (.aload_n 0, 1) := by decide +kernel
theorem d_Pc_drawArcOver_116 : decode qC_Pc_drawArcOver.1 116 = .ok (.getfield 48, 3) := by decide +kernel
theorem d_Pc_drawArcOver_119 : decode qC_Pc_drawArcOver.1 119 = .ok (.iload_n 1, 1) := by decide +kernel
theorem d_Pc_drawArcOver_120 : decode qC_Pc_drawArcOver.1 120 = .ok (.iconst 2, 1) := by decide +kernel
theorem d_Pc_drawArcOver_121 : decode qC_Pc_drawArcOver.1 121 = .ok (.invokevirtual 59, 3) := by decide +kernel
theorem d_Pc_drawArcOver_124 : decode qC_Pc_drawArcOver.1 124 = .ok (.iload 7, 2) := by decide +kernel
theorem d_Pc_drawArcOver_126 : decode qC_Pc_drawArcOver.1 126 = .ok (.iadd, 1) := by decide +kernel
theorem d_Pc_drawArcOver_127 : decode qC_Pc_drawArcOver.1 127 = .ok (.putfield 27, 3) := by decide +kernel
theorem d_Pc_drawArcOver_130 : decode qC_Pc_drawArcOver.1 130 = .ok (.aload_n 0, 1) := by decide +kernel
theorem d_Pc_drawArcOver_131 : decode qC_Pc_drawArcOver.1 131 = .ok (.iload_n 1, 1) := by decide +kernel
theorem d_Pc_drawArcOver_132 : decode qC_Pc_drawArcOver.1 132 = .ok (.aload_n 0, 1) := by decide +kernel
theorem d_Pc_drawArcOver_133 : decode qC_Pc_drawArcOver.1 133 = .ok (.getfield 24, 3) := by decide +kernel
theorem d_Pc_drawArcOver_136 : decode qC_Pc_drawArcOver.1 136 = .ok (.aload_n 0, 1) := by decide +kernel
theorem d_Pc_drawArcOver_137 : decode qC_Pc_drawArcOver.1 137 = .ok (.getfield 27, 3) := by decide +kernel
theorem d_Pc_drawArcOver_140 : decode qC_Pc_drawArcOver.1 140 = .ok (.invokevirtual 85, 3) := by decide +kernel
theorem d_Pc_drawArcOver_143 : decode qC_Pc_drawArcOver.1 143 = .ok (.return_, 1) := by decide +kernel
set_option maxRecDepth 100000 in
def f_Pc_drawArcOver (σ : St) (o : Nat) (p1 : Int32) : Option (St) :=
  Option.bind (f_Tb_get σ (rc o 3) p1 (12 : Int32)) fun x1 =>
  Jn (fun (x2 : Int32) =>
  Option.bind (f_Tb_get σ (rc o 3) p1 (8 : Int32)) fun x4 =>
  Lt ((x4 + x2) : Int32) fun x5 =>
  Option.bind (f_Tb_get σ (rc o 3) p1 (6 : Int32)) fun x6 =>
  Lt ((x6 + x2) : Int32) fun x7 =>
  Option.bind (f_Tb_get σ (rc o 3) p1 (13 : Int32)) fun x8 =>
  Option.bind (f_Cm_east σ x5) fun x9 =>
  Option.bind (f_Cm_east σ x7) fun x10 =>
  Lt (((x8 * (x9 - x10)) / (1000 : Int32)) : Int32) fun x11 =>
  Option.bind (f_Cm_north σ x5) fun x12 =>
  Option.bind (f_Cm_north σ x7) fun x13 =>
  Lt (((x8 * (x12 - x13)) / (1000 : Int32)) : Int32) fun x14 =>
  Option.bind (f_Tb_get σ (rc o 3) p1 (1 : Int32)) fun x15 =>
  Lt (s2 σ o 9 (x15 + x11)) fun σ16 =>
  Option.bind (f_Tb_get σ16 (rc o 3) p1 (2 : Int32)) fun x17 =>
  Lt (s2 σ16 o 10 (x17 + x14)) fun σ18 =>
  Option.bind (f_Pc_drawArc σ18 o p1 (σ18 o 9) (σ18 o 10)) fun x19 =>
  some x19
  ) fun J3 =>
  if (x1 : Int32) ≤ 0 then (
  J3 (-6 : Int32)
  ) else (
  J3 (6 : Int32)
  )
set_option maxHeartbeats 4000000 in
set_option maxRecDepth 100000 in
theorem cC_Pc_drawArcOver (l : Launch) (g : Ge) (hi : injB wC.2 g) (σ : St) (o : Nat) (ho : wC.2.2.1 o = .inr (2, 11)) (p1 : Int32) (x : St) (h : f_Pc_drawArcOver σ o p1 = some x) : Ct l wC g yC_Pc_drawArcOver qC_Pc_drawArcOver 3 74 [.ref (g.1 o), .int p1] σ (none, x) := by
  refine Ct.of (out := o_v) FC_Pc_drawArcOver rfl hi rfl h (fun z hz C => ?_)
  clear h
  subst hz
  unfold f_Pc_drawArcOver
  show Rt z qC_Pc_drawArcOver wC g o_v 0 [(0, .ref (g.1 o)), (1, .int p1)] [] σ _
  refine q_aload_n (pc' := 1) C 0 d_Pc_drawArcOver_0 rfl rfl ?_
  refine gC_Pc_48 (pc' := 4) C o (rc o 3) ho (ly_2_3 ho).1 d_Pc_drawArcOver_1 rfl rfl ?_
  refine q_iload_n (pc' := 5) C 1 d_Pc_drawArcOver_4 rfl rfl ?_
  refine q_bipush (pc' := 7) C d_Pc_drawArcOver_5 kb_12 rfl ?_
  refine q_callVr (fr' := 0) (lo' := 0) (pc' := 10) C FC_Tb_get lmC_Pc_59 d_Pc_drawArcOver_7 (rc o 3) (jCo (ly_2_3 ho).2) (ly_2_3 ho).2 cC_8 [.int p1, .int (12 : Int32)] [] rfl rfl (Nat.le_of_ble_eq_true rfl) ⟨rfl, rfl⟩ (fun x h => cC_Tb_get _ g hi σ (rc o 3) (ly_2_3 ho).2 p1 (12 : Int32) x h) rfl (fun x1 hx1 => ?_)
  refine q_join (fun J3 : Int32 → Option (St) => ∀ (x2 : Int32), Rt z qC_Pc_drawArcOver wC g o_v 20 [(0, .ref (g.1 o)), (1, .int p1)] [.int x2] σ (J3 x2)) (fun x2 => ?_) (fun J3 hJ3 => ?_)
  · refine q_istore_n (pc' := 21) (lv' := [(2, .int x2), (0, .ref (g.1 o)), (1, .int p1)]) C d_Pc_drawArcOver_20 (by decide) rfl rfl ?_
    refine q_aload_n (pc' := 22) C 1 d_Pc_drawArcOver_21 rfl rfl ?_
    refine gC_Pc_48 (pc' := 25) C o (rc o 3) ho (ly_2_3 ho).1 d_Pc_drawArcOver_22 rfl rfl ?_
    refine q_iload_n (pc' := 26) C 2 d_Pc_drawArcOver_25 rfl rfl ?_
    refine q_bipush (pc' := 28) C d_Pc_drawArcOver_26 kb_8 rfl ?_
    refine q_callVr (fr' := 0) (lo' := 0) (pc' := 31) C FC_Tb_get lmC_Pc_59 d_Pc_drawArcOver_28 (rc o 3) (jCo (ly_2_3 ho).2) (ly_2_3 ho).2 cC_8 [.int p1, .int (8 : Int32)] [] rfl rfl (Nat.le_of_ble_eq_true rfl) ⟨rfl, rfl⟩ (fun x h => cC_Tb_get _ g hi σ (rc o 3) (ly_2_3 ho).2 p1 (8 : Int32) x h) rfl (fun x4 hx4 => ?_)
    refine q_iload_n (pc' := 32) C 0 d_Pc_drawArcOver_31 rfl rfl ?_
    refine q_iadd (pc' := 33) C d_Pc_drawArcOver_32 rfl ?_
    refine q_let (fun x5 e5 => ?_)
    refine q_topi e5 ?_
    refine q_istore_n (pc' := 34) (lv' := [(3, .int x5), (2, .int x2), (0, .ref (g.1 o)), (1, .int p1)]) C d_Pc_drawArcOver_33 (by decide) rfl rfl ?_
    refine q_aload_n (pc' := 35) C 2 d_Pc_drawArcOver_34 rfl rfl ?_
    refine gC_Pc_48 (pc' := 38) C o (rc o 3) ho (ly_2_3 ho).1 d_Pc_drawArcOver_35 rfl rfl ?_
    refine q_iload_n (pc' := 39) C 3 d_Pc_drawArcOver_38 rfl rfl ?_
    refine q_bipush (pc' := 41) C d_Pc_drawArcOver_39 kb_6 rfl ?_
    refine q_callVr (fr' := 0) (lo' := 0) (pc' := 44) C FC_Tb_get lmC_Pc_59 d_Pc_drawArcOver_41 (rc o 3) (jCo (ly_2_3 ho).2) (ly_2_3 ho).2 cC_8 [.int p1, .int (6 : Int32)] [] rfl rfl (Nat.le_of_ble_eq_true rfl) ⟨rfl, rfl⟩ (fun x h => cC_Tb_get _ g hi σ (rc o 3) (ly_2_3 ho).2 p1 (6 : Int32) x h) rfl (fun x6 hx6 => ?_)
    refine q_iload_n (pc' := 45) C 1 d_Pc_drawArcOver_44 rfl rfl ?_
    refine q_iadd (pc' := 46) C d_Pc_drawArcOver_45 rfl ?_
    refine q_let (fun x7 e7 => ?_)
    refine q_topi e7 ?_
    refine q_istore (pc' := 48) (lv' := [(4, .int x7), (3, .int x5), (2, .int x2), (0, .ref (g.1 o)), (1, .int p1)]) C d_Pc_drawArcOver_46 (by decide) rfl rfl ?_
    refine q_aload_n (pc' := 49) C 3 d_Pc_drawArcOver_48 rfl rfl ?_
    refine gC_Pc_48 (pc' := 52) C o (rc o 3) ho (ly_2_3 ho).1 d_Pc_drawArcOver_49 rfl rfl ?_
    refine q_iload_n (pc' := 53) C 4 d_Pc_drawArcOver_52 rfl rfl ?_
    refine q_bipush (pc' := 55) C d_Pc_drawArcOver_53 kb_13 rfl ?_
    refine q_callVr (fr' := 0) (lo' := 0) (pc' := 58) C FC_Tb_get lmC_Pc_59 d_Pc_drawArcOver_55 (rc o 3) (jCo (ly_2_3 ho).2) (ly_2_3 ho).2 cC_8 [.int p1, .int (13 : Int32)] [] rfl rfl (Nat.le_of_ble_eq_true rfl) ⟨rfl, rfl⟩ (fun x h => cC_Tb_get _ g hi σ (rc o 3) (ly_2_3 ho).2 p1 (13 : Int32) x h) rfl (fun x8 hx8 => ?_)
    refine q_istore (pc' := 60) (lv' := [(5, .int x8), (4, .int x7), (3, .int x5), (2, .int x2), (0, .ref (g.1 o)), (1, .int p1)]) C d_Pc_drawArcOver_58 (by decide) rfl rfl ?_
    refine q_iload (pc' := 62) C 0 d_Pc_drawArcOver_60 rfl rfl ?_
    refine q_iload_n (pc' := 63) C 2 d_Pc_drawArcOver_62 rfl rfl ?_
    refine q_callSr (fr' := 0) (lo' := 0) (pc' := 66) C FC_Cm_east lmC_Pc_119 d_Pc_drawArcOver_63 [.int x5] [.int x8] rfl rfl (Nat.le_of_ble_eq_true rfl) ⟨rfl, rfl⟩ (fun x h => cC_Cm_east _ g hi σ x5 x h) rfl (fun x9 hx9 => ?_)
    refine q_iload (pc' := 68) C 1 d_Pc_drawArcOver_66 rfl rfl ?_
    refine q_callSr (fr' := 0) (lo' := 0) (pc' := 71) C FC_Cm_east lmC_Pc_119 d_Pc_drawArcOver_68 [.int x7] [.int x9, .int x8] rfl rfl (Nat.le_of_ble_eq_true rfl) ⟨rfl, rfl⟩ (fun x h => cC_Cm_east _ g hi σ x7 x h) rfl (fun x10 hx10 => ?_)
    refine q_isub (pc' := 72) C d_Pc_drawArcOver_71 rfl ?_
    refine q_imul (pc' := 73) C d_Pc_drawArcOver_72 rfl ?_
    refine q_sipush (pc' := 76) C d_Pc_drawArcOver_73 ks_1000 rfl ?_
    refine q_idiv (pc' := 77) C (by decide) d_Pc_drawArcOver_76 rfl ?_
    refine q_let (fun x11 e11 => ?_)
    refine q_topi e11 ?_
    refine q_istore (pc' := 79) (lv' := [(6, .int x11), (5, .int x8), (4, .int x7), (3, .int x5), (2, .int x2), (0, .ref (g.1 o)), (1, .int p1)]) C d_Pc_drawArcOver_77 (by decide) rfl rfl ?_
    refine q_iload (pc' := 81) C 1 d_Pc_drawArcOver_79 rfl rfl ?_
    refine q_iload_n (pc' := 82) C 3 d_Pc_drawArcOver_81 rfl rfl ?_
    refine q_callSr (fr' := 0) (lo' := 0) (pc' := 85) C FC_Cm_north lmC_Pc_122 d_Pc_drawArcOver_82 [.int x5] [.int x8] rfl rfl (Nat.le_of_ble_eq_true rfl) ⟨rfl, rfl⟩ (fun x h => cC_Cm_north _ g hi σ x5 x h) rfl (fun x12 hx12 => ?_)
    refine q_iload (pc' := 87) C 2 d_Pc_drawArcOver_85 rfl rfl ?_
    refine q_callSr (fr' := 0) (lo' := 0) (pc' := 90) C FC_Cm_north lmC_Pc_122 d_Pc_drawArcOver_87 [.int x7] [.int x12, .int x8] rfl rfl (Nat.le_of_ble_eq_true rfl) ⟨rfl, rfl⟩ (fun x h => cC_Cm_north _ g hi σ x7 x h) rfl (fun x13 hx13 => ?_)
    refine q_isub (pc' := 91) C d_Pc_drawArcOver_90 rfl ?_
    refine q_imul (pc' := 92) C d_Pc_drawArcOver_91 rfl ?_
    refine q_sipush (pc' := 95) C d_Pc_drawArcOver_92 ks_1000 rfl ?_
    refine q_idiv (pc' := 96) C (by decide) d_Pc_drawArcOver_95 rfl ?_
    refine q_let (fun x14 e14 => ?_)
    refine q_topi e14 ?_
    refine q_istore (pc' := 98) (lv' := [(7, .int x14), (6, .int x11), (5, .int x8), (4, .int x7), (3, .int x5), (2, .int x2), (0, .ref (g.1 o)), (1, .int p1)]) C d_Pc_drawArcOver_96 (by decide) rfl rfl ?_
    refine q_aload_n (pc' := 99) C 6 d_Pc_drawArcOver_98 rfl rfl ?_
    refine q_aload_n (pc' := 100) C 6 d_Pc_drawArcOver_99 rfl rfl ?_
    refine gC_Pc_48 (pc' := 103) C o (rc o 3) ho (ly_2_3 ho).1 d_Pc_drawArcOver_100 rfl rfl ?_
    refine q_iload_n (pc' := 104) C 7 d_Pc_drawArcOver_103 rfl rfl ?_
    refine q_iconst (pc' := 105) C d_Pc_drawArcOver_104 ki_1 rfl ?_
    refine q_callVr (fr' := 0) (lo' := 0) (pc' := 108) C FC_Tb_get lmC_Pc_59 d_Pc_drawArcOver_105 (rc o 3) (jCo (ly_2_3 ho).2) (ly_2_3 ho).2 cC_8 [.int p1, .int (1 : Int32)] [.ref (g.1 o)] rfl rfl (Nat.le_of_ble_eq_true rfl) ⟨rfl, rfl⟩ (fun x h => cC_Tb_get _ g hi σ (rc o 3) (ly_2_3 ho).2 p1 (1 : Int32) x h) rfl (fun x15 hx15 => ?_)
    refine q_iload (pc' := 110) C 1 d_Pc_drawArcOver_108 rfl rfl ?_
    refine q_iadd (pc' := 111) C d_Pc_drawArcOver_110 rfl ?_
    refine pC_Pc_24 (pc' := 114) C o ho d_Pc_drawArcOver_111 rfl rfl ?_
    refine q_let (fun σ16 e16 => ?_)
    refine q_state e16 ?_
    refine q_aload_n (pc' := 115) C 6 d_Pc_drawArcOver_114 rfl rfl ?_
    refine q_aload_n (pc' := 116) C 6 d_Pc_drawArcOver_115 rfl rfl ?_
    refine gC_Pc_48 (pc' := 119) C o (rc o 3) ho (ly_2_3 ho).1 d_Pc_drawArcOver_116 rfl rfl ?_
    refine q_iload_n (pc' := 120) C 7 d_Pc_drawArcOver_119 rfl rfl ?_
    refine q_iconst (pc' := 121) C d_Pc_drawArcOver_120 ki_2 rfl ?_
    refine q_callVr (fr' := 0) (lo' := 0) (pc' := 124) C FC_Tb_get lmC_Pc_59 d_Pc_drawArcOver_121 (rc o 3) (jCo (ly_2_3 ho).2) (ly_2_3 ho).2 cC_8 [.int p1, .int (2 : Int32)] [.ref (g.1 o)] rfl rfl (Nat.le_of_ble_eq_true rfl) ⟨rfl, rfl⟩ (fun x h => cC_Tb_get _ g hi σ16 (rc o 3) (ly_2_3 ho).2 p1 (2 : Int32) x h) rfl (fun x17 hx17 => ?_)
    refine q_iload (pc' := 126) C 0 d_Pc_drawArcOver_124 rfl rfl ?_
    refine q_iadd (pc' := 127) C d_Pc_drawArcOver_126 rfl ?_
    refine pC_Pc_27 (pc' := 130) C o ho d_Pc_drawArcOver_127 rfl rfl ?_
    refine q_let (fun σ18 e18 => ?_)
    refine q_state e18 ?_
    refine q_aload_n (pc' := 131) C 6 d_Pc_drawArcOver_130 rfl rfl ?_
    refine q_iload_n (pc' := 132) C 7 d_Pc_drawArcOver_131 rfl rfl ?_
    refine q_aload_n (pc' := 133) C 6 d_Pc_drawArcOver_132 rfl rfl ?_
    refine gC_Pc_24 (pc' := 136) C o ho d_Pc_drawArcOver_133 rfl rfl ?_
    refine q_aload_n (pc' := 137) C 6 d_Pc_drawArcOver_136 rfl rfl ?_
    refine gC_Pc_27 (pc' := 140) C o ho d_Pc_drawArcOver_137 rfl rfl ?_
    refine q_callVv (fr' := 2) (lo' := 49) (pc' := 143) C FC_Pc_drawArc lmC_Pc_85 d_Pc_drawArcOver_140 o (jCo ho) ho cC_2 [.int p1, .int (σ18 o 9), .int (σ18 o 10)] [] rfl rfl (Nat.le_of_ble_eq_true rfl) ⟨rfl, rfl⟩ (fun x h => cC_Pc_drawArc _ g hi σ18 o ho p1 (σ18 o 9) (σ18 o 10) x h) rfl (fun x19 hx19 => ?_)
    exact q_vret C rfl d_Pc_drawArcOver_143 rfl
  refine q_if_le (tgt := 18) (pc' := 13) C d_Pc_drawArcOver_10 rfl rfl ?_ ?_
  · refine q_bipush (pc' := 20) C d_Pc_drawArcOver_18 kb_m6 rfl ?_
    exact Rt.sub [0, 1] rfl (hJ3 (-6 : Int32))
  · refine q_bipush (pc' := 15) C d_Pc_drawArcOver_13 kb_6 rfl ?_
    refine q_goto (tgt := 20) C d_Pc_drawArcOver_15 rfl ?_
    exact Rt.sub [0, 1] rfl (hJ3 (6 : Int32))
theorem d_Pc_drawDirect_0 : decode qC_Pc_drawDirect.1 0 = .ok (.aload_n 0, 1) := by decide +kernel
theorem d_Pc_drawDirect_1 : decode qC_Pc_drawDirect.1 1 = .ok (.getfield 48, 3) := by decide +kernel
theorem d_Pc_drawDirect_4 : decode qC_Pc_drawDirect.1 4 = .ok (.iload_n 1, 1) := by decide +kernel
theorem d_Pc_drawDirect_5 : decode qC_Pc_drawDirect.1 5 = .ok (.iconst 3, 1) := by decide +kernel
theorem d_Pc_drawDirect_6 : decode qC_Pc_drawDirect.1 6 = .ok (.invokevirtual 59, 3) := by decide +kernel
theorem d_Pc_drawDirect_9 : decode qC_Pc_drawDirect.1 9 = .ok (.istore_n 2, 1) := by decide +kernel
theorem d_Pc_drawDirect_10 : decode qC_Pc_drawDirect.1 10 = .ok (.aload_n 0, 1) := by decide +kernel
theorem d_Pc_drawDirect_11 : decode qC_Pc_drawDirect.1 11 = .ok (.getfield 48, 3) := by decide +kernel
theorem d_Pc_drawDirect_14 : decode qC_Pc_drawDirect.1 14 = .ok (.iload_n 1, 1) := by decide +kernel
theorem d_Pc_drawDirect_15 : decode qC_Pc_drawDirect.1 15 = .ok (.iconst 4, 1) := by decide +kernel
theorem d_Pc_drawDirect_16 : decode qC_Pc_drawDirect.1 16 = .ok (.invokevirtual 59, 3) := by decide +kernel
theorem d_Pc_drawDirect_19 : decode qC_Pc_drawDirect.1 19 = .ok (.istore_n 3, 1) := by decide +kernel
theorem d_Pc_drawDirect_20 : decode qC_Pc_drawDirect.1 20 = .ok (.aload_n 0, 1) := by decide +kernel
theorem d_Pc_drawDirect_21 : decode qC_Pc_drawDirect.1 21 = .ok (.getfield 48, 3) := by decide +kernel
theorem d_Pc_drawDirect_24 : decode qC_Pc_drawDirect.1 24 = .ok (.iload_n 1, 1) := by decide +kernel
theorem d_Pc_drawDirect_25 : decode qC_Pc_drawDirect.1 25 = .ok (.bipush 15, 2) := by decide +kernel
theorem d_Pc_drawDirect_27 : decode qC_Pc_drawDirect.1 27 = .ok (.invokevirtual 59, 3) := by decide +kernel
theorem d_Pc_drawDirect_30 : decode qC_Pc_drawDirect.1 30 = .ok (.istore 4, 2) := by decide +kernel
theorem d_Pc_drawDirect_32 : decode qC_Pc_drawDirect.1 32 = .ok (.aload_n 0, 1) := by decide +kernel
theorem d_Pc_drawDirect_33 : decode qC_Pc_drawDirect.1 33 = .ok (.getfield 24, 3) := by decide +kernel
theorem d_Pc_drawDirect_36 : decode qC_Pc_drawDirect.1 36 = .ok (.aload_n 0, 1) := by decide +kernel
theorem d_Pc_drawDirect_37 : decode qC_Pc_drawDirect.1 37 = .ok (.getfield 27, 3) := by decide +kernel
theorem d_Pc_drawDirect_40 : decode qC_Pc_drawDirect.1 40 = .ok (.iload_n 2, 1) := by decide +kernel
theorem d_Pc_drawDirect_41 : decode qC_Pc_drawDirect.1 41 = .ok (.iload_n 3, 1) := by decide +kernel
theorem d_Pc_drawDirect_42 : decode qC_Pc_drawDirect.1 42 = .ok (.invokestatic 125, 3) := by decide +kernel
theorem d_Pc_drawDirect_45 : decode qC_Pc_drawDirect.1 45 = .ok (.istore 5, 2) := by decide +kernel
theorem d_Pc_drawDirect_47 : decode qC_Pc_drawDirect.1 47 = .ok (.aload_n 0, 1) := by decide +kernel
theorem d_Pc_drawDirect_48 : decode qC_Pc_drawDirect.1 48 = .ok (.getfield 24, 3) := by decide +kernel
theorem d_Pc_drawDirect_51 : decode qC_Pc_drawDirect.1 51 = .ok (.aload_n 0, 1) := by decide +kernel
theorem d_Pc_drawDirect_52 : decode qC_Pc_drawDirect.1 52 = .ok (.getfield 27, 3) := by decide +kernel
theorem d_Pc_drawDirect_55 : decode qC_Pc_drawDirect.1 55 = .ok (.iload_n 2, 1) := by decide +kernel
theorem d_Pc_drawDirect_56 : decode qC_Pc_drawDirect.1 56 = .ok (.iload_n 3, 1) := by decide +kernel
theorem d_Pc_drawDirect_57 : decode qC_Pc_drawDirect.1 57 = .ok (.invokestatic 128, 3) := by decide +kernel
theorem d_Pc_drawDirect_60 : decode qC_Pc_drawDirect.1 60 = .ok (.istore 6, 2) := by decide +kernel
theorem d_Pc_drawDirect_62 : decode qC_Pc_drawDirect.1 62 = .ok (.aload_n 0, 1) := by decide +kernel
theorem d_Pc_drawDirect_63 : decode qC_Pc_drawDirect.1 63 = .ok (.getfield 24, 3) := by decide +kernel
theorem d_Pc_drawDirect_66 : decode qC_Pc_drawDirect.1 66 = .ok (.iload_n 2, 1) := by decide +kernel
theorem d_Pc_drawDirect_67 : decode qC_Pc_drawDirect.1 67 = .ok (.iload 4, 2) := by decide +kernel
theorem d_Pc_drawDirect_69 : decode qC_Pc_drawDirect.1 69 = .ok (.iload 5, 2) := by decide +kernel
theorem d_Pc_drawDirect_71 : decode qC_Pc_drawDirect.1 71 = .ok (.invokestatic 115, 3) := by decide +kernel
theorem d_Pc_drawDirect_74 : decode qC_Pc_drawDirect.1 74 = .ok (.istore 7, 2) := by decide +kernel
theorem d_Pc_drawDirect_76 : decode qC_Pc_drawDirect.1 76 = .ok (.aload_n 0, 1) := by decide +kernel
theorem d_Pc_drawDirect_77 : decode qC_Pc_drawDirect.1 77 = .ok (.getfield 27, 3) := by decide +kernel
theorem d_Pc_drawDirect_80 : decode qC_Pc_drawDirect.1 80 = .ok (.iload_n 3, 1) := by decide +kernel
theorem d_Pc_drawDirect_81 : decode qC_Pc_drawDirect.1 81 = .ok (.iload 4, 2) := by decide +kernel
theorem d_Pc_drawDirect_83 : decode qC_Pc_drawDirect.1 83 = .ok (.iload 5, 2) := by decide +kernel
theorem d_Pc_drawDirect_85 : decode qC_Pc_drawDirect.1 85 = .ok (.invokestatic 115, 3) := by decide +kernel
theorem d_Pc_drawDirect_88 : decode qC_Pc_drawDirect.1 88 = .ok (.istore 8, 2) := by decide +kernel
theorem d_Pc_drawDirect_90 : decode qC_Pc_drawDirect.1 90 = .ok (.aload_n 0, 1) := by decide +kernel
theorem d_Pc_drawDirect_91 : decode qC_Pc_drawDirect.1 91 = .ok (.aload_n 0, 1) := by decide +kernel
theorem d_Pc_drawDirect_92 : decode qC_Pc_drawDirect.1 92 = .ok (.getfield 48, 3) := by decide +kernel
theorem d_Pc_drawDirect_95 : decode qC_Pc_drawDirect.1 95 = .ok (.iload_n 1, 1) := by decide +kernel
theorem d_Pc_drawDirect_96 : decode qC_Pc_drawDirect.1 96 = .ok (.iconst 0, 1) := by decide +kernel
theorem d_Pc_drawDirect_97 : decode qC_Pc_drawDirect.1 97 = .ok (.invokevirtual 59, 3) := by decide +kernel
theorem d_Pc_drawDirect_100 : decode qC_Pc_drawDirect.1 100 = .ok (.iconst 0, 1) := by decide +kernel
theorem d_Pc_drawDirect_101 : decode qC_Pc_drawDirect.1 101 = .ok (.iload 5, 2) := by decide +kernel
theorem d_Pc_drawDirect_103 : decode qC_Pc_drawDirect.1 103 = .ok (.iload 4, 2) := by decide +kernel
theorem d_Pc_drawDirect_105 : decode qC_Pc_drawDirect.1 105 = .ok (.isub, 1) := by decide +kernel
theorem d_Pc_drawDirect_106 : decode qC_Pc_drawDirect.1 106 = .ok (.iload 6, 2) := by decide +kernel
theorem d_Pc_drawDirect_108 : decode qC_Pc_drawDirect.1 108 = .ok (.iload 7, 2) := by decide +kernel
theorem d_Pc_drawDirect_110 : decode qC_Pc_drawDirect.1 110 = .ok (.iload 8, 2) := by decide +kernel
theorem d_Pc_drawDirect_112 : decode qC_Pc_drawDirect.1 112 = .ok (.invokevirtual 111, 3) := by decide +kernel
theorem d_Pc_drawDirect_115 : decode qC_Pc_drawDirect.1 115 = .ok (.return_, 1) := by decide +kernel
set_option maxRecDepth 100000 in
def f_Pc_drawDirect (σ : St) (o : Nat) (p1 : Int32) : Option (St) :=
  Option.bind (f_Tb_get σ (rc o 3) p1 (3 : Int32)) fun x1 =>
  Option.bind (f_Tb_get σ (rc o 3) p1 (4 : Int32)) fun x2 =>
  Option.bind (f_Tb_get σ (rc o 3) p1 (15 : Int32)) fun x3 =>
  Option.bind (f_Cm_distance (σ o 9) (σ o 10) x1 x2) fun x4 =>
  Option.bind (f_Cm_courseBetween σ (σ o 9) (σ o 10) x1 x2) fun x5 =>
  Option.bind (f_Cm_before (σ o 9) x1 x3 x4) fun x6 =>
  Option.bind (f_Cm_before (σ o 10) x2 x3 x4) fun x7 =>
  Option.bind (f_Tb_get σ (rc o 3) p1 (0 : Int32)) fun x8 =>
  Option.bind (f_Pc_addPiece σ o x8 (0 : Int32) (x4 - x3) x5 x6 x7) fun x9 =>
  some x9
set_option maxHeartbeats 4000000 in
set_option maxRecDepth 100000 in
theorem cC_Pc_drawDirect (l : Launch) (g : Ge) (hi : injB wC.2 g) (σ : St) (o : Nat) (ho : wC.2.2.1 o = .inr (2, 11)) (p1 : Int32) (x : St) (h : f_Pc_drawDirect σ o p1 = some x) : Ct l wC g yC_Pc_drawDirect qC_Pc_drawDirect 2 54 [.ref (g.1 o), .int p1] σ (none, x) := by
  refine Ct.of (out := o_v) FC_Pc_drawDirect rfl hi rfl h (fun z hz C => ?_)
  clear h
  subst hz
  unfold f_Pc_drawDirect
  show Rt z qC_Pc_drawDirect wC g o_v 0 [(0, .ref (g.1 o)), (1, .int p1)] [] σ _
  refine q_aload_n (pc' := 1) C 0 d_Pc_drawDirect_0 rfl rfl ?_
  refine gC_Pc_48 (pc' := 4) C o (rc o 3) ho (ly_2_3 ho).1 d_Pc_drawDirect_1 rfl rfl ?_
  refine q_iload_n (pc' := 5) C 1 d_Pc_drawDirect_4 rfl rfl ?_
  refine q_iconst (pc' := 6) C d_Pc_drawDirect_5 ki_3 rfl ?_
  refine q_callVr (fr' := 0) (lo' := 0) (pc' := 9) C FC_Tb_get lmC_Pc_59 d_Pc_drawDirect_6 (rc o 3) (jCo (ly_2_3 ho).2) (ly_2_3 ho).2 cC_8 [.int p1, .int (3 : Int32)] [] rfl rfl (Nat.le_of_ble_eq_true rfl) ⟨rfl, rfl⟩ (fun x h => cC_Tb_get _ g hi σ (rc o 3) (ly_2_3 ho).2 p1 (3 : Int32) x h) rfl (fun x1 hx1 => ?_)
  refine q_istore_n (pc' := 10) (lv' := [(2, .int x1), (0, .ref (g.1 o)), (1, .int p1)]) C d_Pc_drawDirect_9 (by decide) rfl rfl ?_
  refine q_aload_n (pc' := 11) C 1 d_Pc_drawDirect_10 rfl rfl ?_
  refine gC_Pc_48 (pc' := 14) C o (rc o 3) ho (ly_2_3 ho).1 d_Pc_drawDirect_11 rfl rfl ?_
  refine q_iload_n (pc' := 15) C 2 d_Pc_drawDirect_14 rfl rfl ?_
  refine q_iconst (pc' := 16) C d_Pc_drawDirect_15 ki_4 rfl ?_
  refine q_callVr (fr' := 0) (lo' := 0) (pc' := 19) C FC_Tb_get lmC_Pc_59 d_Pc_drawDirect_16 (rc o 3) (jCo (ly_2_3 ho).2) (ly_2_3 ho).2 cC_8 [.int p1, .int (4 : Int32)] [] rfl rfl (Nat.le_of_ble_eq_true rfl) ⟨rfl, rfl⟩ (fun x h => cC_Tb_get _ g hi σ (rc o 3) (ly_2_3 ho).2 p1 (4 : Int32) x h) rfl (fun x2 hx2 => ?_)
  refine q_istore_n (pc' := 20) (lv' := [(3, .int x2), (2, .int x1), (0, .ref (g.1 o)), (1, .int p1)]) C d_Pc_drawDirect_19 (by decide) rfl rfl ?_
  refine q_aload_n (pc' := 21) C 2 d_Pc_drawDirect_20 rfl rfl ?_
  refine gC_Pc_48 (pc' := 24) C o (rc o 3) ho (ly_2_3 ho).1 d_Pc_drawDirect_21 rfl rfl ?_
  refine q_iload_n (pc' := 25) C 3 d_Pc_drawDirect_24 rfl rfl ?_
  refine q_bipush (pc' := 27) C d_Pc_drawDirect_25 kb_15 rfl ?_
  refine q_callVr (fr' := 0) (lo' := 0) (pc' := 30) C FC_Tb_get lmC_Pc_59 d_Pc_drawDirect_27 (rc o 3) (jCo (ly_2_3 ho).2) (ly_2_3 ho).2 cC_8 [.int p1, .int (15 : Int32)] [] rfl rfl (Nat.le_of_ble_eq_true rfl) ⟨rfl, rfl⟩ (fun x h => cC_Tb_get _ g hi σ (rc o 3) (ly_2_3 ho).2 p1 (15 : Int32) x h) rfl (fun x3 hx3 => ?_)
  refine q_istore (pc' := 32) (lv' := [(4, .int x3), (3, .int x2), (2, .int x1), (0, .ref (g.1 o)), (1, .int p1)]) C d_Pc_drawDirect_30 (by decide) rfl rfl ?_
  refine q_aload_n (pc' := 33) C 3 d_Pc_drawDirect_32 rfl rfl ?_
  refine gC_Pc_24 (pc' := 36) C o ho d_Pc_drawDirect_33 rfl rfl ?_
  refine q_aload_n (pc' := 37) C 3 d_Pc_drawDirect_36 rfl rfl ?_
  refine gC_Pc_27 (pc' := 40) C o ho d_Pc_drawDirect_37 rfl rfl ?_
  refine q_iload_n (pc' := 41) C 2 d_Pc_drawDirect_40 rfl rfl ?_
  refine q_iload_n (pc' := 42) C 1 d_Pc_drawDirect_41 rfl rfl ?_
  refine q_callSr (fr' := 1) (lo' := 27) (pc' := 45) C FC_Cm_distance lmC_Pc_125 d_Pc_drawDirect_42 [.int (σ o 9), .int (σ o 10), .int x1, .int x2] [] rfl rfl (Nat.le_of_ble_eq_true rfl) ⟨rfl, rfl⟩ (fun x h => cC_Cm_distance _ g hi σ (σ o 9) (σ o 10) x1 x2 x h) rfl (fun x4 hx4 => ?_)
  refine q_istore (pc' := 47) (lv' := [(5, .int x4), (4, .int x3), (3, .int x2), (2, .int x1), (0, .ref (g.1 o)), (1, .int p1)]) C d_Pc_drawDirect_45 (by decide) rfl rfl ?_
  refine q_aload_n (pc' := 48) C 4 d_Pc_drawDirect_47 rfl rfl ?_
  refine gC_Pc_24 (pc' := 51) C o ho d_Pc_drawDirect_48 rfl rfl ?_
  refine q_aload_n (pc' := 52) C 4 d_Pc_drawDirect_51 rfl rfl ?_
  refine gC_Pc_27 (pc' := 55) C o ho d_Pc_drawDirect_52 rfl rfl ?_
  refine q_iload_n (pc' := 56) C 3 d_Pc_drawDirect_55 rfl rfl ?_
  refine q_iload_n (pc' := 57) C 2 d_Pc_drawDirect_56 rfl rfl ?_
  refine q_callSr (fr' := 1) (lo' := 20) (pc' := 60) C FC_Cm_courseBetween lmC_Pc_128 d_Pc_drawDirect_57 [.int (σ o 9), .int (σ o 10), .int x1, .int x2] [] rfl rfl (Nat.le_of_ble_eq_true rfl) ⟨rfl, rfl⟩ (fun x h => cC_Cm_courseBetween _ g hi σ (σ o 9) (σ o 10) x1 x2 x h) rfl (fun x5 hx5 => ?_)
  refine q_istore (pc' := 62) (lv' := [(6, .int x5), (5, .int x4), (4, .int x3), (3, .int x2), (2, .int x1), (0, .ref (g.1 o)), (1, .int p1)]) C d_Pc_drawDirect_60 (by decide) rfl rfl ?_
  refine q_aload_n (pc' := 63) C 5 d_Pc_drawDirect_62 rfl rfl ?_
  refine gC_Pc_24 (pc' := 66) C o ho d_Pc_drawDirect_63 rfl rfl ?_
  refine q_iload_n (pc' := 67) C 4 d_Pc_drawDirect_66 rfl rfl ?_
  refine q_iload (pc' := 69) C 2 d_Pc_drawDirect_67 rfl rfl ?_
  refine q_iload (pc' := 71) C 1 d_Pc_drawDirect_69 rfl rfl ?_
  refine q_callSr (fr' := 0) (lo' := 0) (pc' := 74) C FC_Cm_before lmC_Pc_115 d_Pc_drawDirect_71 [.int (σ o 9), .int x1, .int x3, .int x4] [] rfl rfl (Nat.le_of_ble_eq_true rfl) ⟨rfl, rfl⟩ (fun x h => cC_Cm_before _ g hi σ (σ o 9) x1 x3 x4 x h) rfl (fun x6 hx6 => ?_)
  refine q_istore (pc' := 76) (lv' := [(7, .int x6), (6, .int x5), (5, .int x4), (4, .int x3), (3, .int x2), (2, .int x1), (0, .ref (g.1 o)), (1, .int p1)]) C d_Pc_drawDirect_74 (by decide) rfl rfl ?_
  refine q_aload_n (pc' := 77) C 6 d_Pc_drawDirect_76 rfl rfl ?_
  refine gC_Pc_27 (pc' := 80) C o ho d_Pc_drawDirect_77 rfl rfl ?_
  refine q_iload_n (pc' := 81) C 4 d_Pc_drawDirect_80 rfl rfl ?_
  refine q_iload (pc' := 83) C 3 d_Pc_drawDirect_81 rfl rfl ?_
  refine q_iload (pc' := 85) C 2 d_Pc_drawDirect_83 rfl rfl ?_
  refine q_callSr (fr' := 0) (lo' := 0) (pc' := 88) C FC_Cm_before lmC_Pc_115 d_Pc_drawDirect_85 [.int (σ o 10), .int x2, .int x3, .int x4] [] rfl rfl (Nat.le_of_ble_eq_true rfl) ⟨rfl, rfl⟩ (fun x h => cC_Cm_before _ g hi σ (σ o 10) x2 x3 x4 x h) rfl (fun x7 hx7 => ?_)
  refine q_istore (pc' := 90) (lv' := [(8, .int x7), (7, .int x6), (6, .int x5), (5, .int x4), (4, .int x3), (3, .int x2), (2, .int x1), (0, .ref (g.1 o)), (1, .int p1)]) C d_Pc_drawDirect_88 (by decide) rfl rfl ?_
  refine q_aload_n (pc' := 91) C 7 d_Pc_drawDirect_90 rfl rfl ?_
  refine q_aload_n (pc' := 92) C 7 d_Pc_drawDirect_91 rfl rfl ?_
  refine gC_Pc_48 (pc' := 95) C o (rc o 3) ho (ly_2_3 ho).1 d_Pc_drawDirect_92 rfl rfl ?_
  refine q_iload_n (pc' := 96) C 8 d_Pc_drawDirect_95 rfl rfl ?_
  refine q_iconst (pc' := 97) C d_Pc_drawDirect_96 ki_0 rfl ?_
  refine q_callVr (fr' := 0) (lo' := 0) (pc' := 100) C FC_Tb_get lmC_Pc_59 d_Pc_drawDirect_97 (rc o 3) (jCo (ly_2_3 ho).2) (ly_2_3 ho).2 cC_8 [.int p1, .int (0 : Int32)] [.ref (g.1 o)] rfl rfl (Nat.le_of_ble_eq_true rfl) ⟨rfl, rfl⟩ (fun x h => cC_Tb_get _ g hi σ (rc o 3) (ly_2_3 ho).2 p1 (0 : Int32) x h) rfl (fun x8 hx8 => ?_)
  refine q_iconst (pc' := 101) C d_Pc_drawDirect_100 ki_0 rfl ?_
  refine q_iload (pc' := 103) C 3 d_Pc_drawDirect_101 rfl rfl ?_
  refine q_iload (pc' := 105) C 4 d_Pc_drawDirect_103 rfl rfl ?_
  refine q_isub (pc' := 106) C d_Pc_drawDirect_105 rfl ?_
  refine q_iload (pc' := 108) C 2 d_Pc_drawDirect_106 rfl rfl ?_
  refine q_iload (pc' := 110) C 1 d_Pc_drawDirect_108 rfl rfl ?_
  refine q_iload (pc' := 112) C 0 d_Pc_drawDirect_110 rfl rfl ?_
  refine q_callVv (fr' := 1) (lo' := 23) (pc' := 115) C FC_Pc_addPiece lmC_Pc_111 d_Pc_drawDirect_112 o (jCo ho) ho cC_2 [.int x8, .int (0 : Int32), .int (x4 - x3), .int x5, .int x6, .int x7] [] rfl rfl (Nat.le_of_ble_eq_true rfl) ⟨rfl, rfl⟩ (fun x h => cC_Pc_addPiece _ g hi σ o ho x8 (0 : Int32) (x4 - x3) x5 x6 x7 x h) rfl (fun x9 hx9 => ?_)
  exact q_vret C rfl d_Pc_drawDirect_115 rfl
theorem d_Pc_lengthToRegain_0 : decode qC_Pc_lengthToRegain.1 0 = .ok (.aload_n 0, 1) := by decide +kernel
theorem d_Pc_lengthToRegain_1 : decode qC_Pc_lengthToRegain.1 1 = .ok (.getfield 24, 3) := by decide +kernel
theorem d_Pc_lengthToRegain_4 : decode qC_Pc_lengthToRegain.1 4 = .ok (.aload_n 0, 1) := by decide +kernel
theorem d_Pc_lengthToRegain_5 : decode qC_Pc_lengthToRegain.1 5 = .ok (.getfield 48, 3) := by decide +kernel
theorem d_Pc_lengthToRegain_8 : decode qC_Pc_lengthToRegain.1 8 = .ok (.iload_n 1, 1) := by decide +kernel
theorem d_Pc_lengthToRegain_9 : decode qC_Pc_lengthToRegain.1 9 = .ok (.iconst 1, 1) := by decide +kernel
theorem d_Pc_lengthToRegain_10 : decode qC_Pc_lengthToRegain.1 10 = .ok (.invokevirtual 59, 3) := by decide +kernel
theorem d_Pc_lengthToRegain_13 : decode qC_Pc_lengthToRegain.1 13 = .ok (.isub, 1) := by decide +kernel
theorem d_Pc_lengthToRegain_14 : decode qC_Pc_lengthToRegain.1 14 = .ok (.istore_n 2, 1) := by decide +kernel
theorem d_Pc_lengthToRegain_15 : decode qC_Pc_lengthToRegain.1 15 = .ok (.aload_n 0, 1) := by decide +kernel
theorem d_Pc_lengthToRegain_16 : decode qC_Pc_lengthToRegain.1 16 = .ok (.getfield 27, 3) := by decide +kernel
theorem d_Pc_lengthToRegain_19 : decode qC_Pc_lengthToRegain.1 19 = .ok (.aload_n 0, 1) := by decide +kernel
theorem d_Pc_lengthToRegain_20 : decode qC_Pc_lengthToRegain.1 20 = .ok (.getfield 48, 3) := by decide +kernel
theorem d_Pc_lengthToRegain_23 : decode qC_Pc_lengthToRegain.1 23 = .ok (.iload_n 1, 1) := by decide +kernel
theorem d_Pc_lengthToRegain_24 : decode qC_Pc_lengthToRegain.1 24 = .ok (.iconst 2, 1) := by decide +kernel
theorem d_Pc_lengthToRegain_25 : decode qC_Pc_lengthToRegain.1 25 = .ok (.invokevirtual 59, 3) := by decide +kernel
theorem d_Pc_lengthToRegain_28 : decode qC_Pc_lengthToRegain.1 28 = .ok (.isub, 1) := by decide +kernel
theorem d_Pc_lengthToRegain_29 : decode qC_Pc_lengthToRegain.1 29 = .ok (.istore_n 3, 1) := by decide +kernel
theorem d_Pc_lengthToRegain_30 : decode qC_Pc_lengthToRegain.1 30 = .ok (.aload_n 0, 1) := by decide +kernel
theorem d_Pc_lengthToRegain_31 : decode qC_Pc_lengthToRegain.1 31 = .ok (.getfield 48, 3) := by decide +kernel
theorem d_Pc_lengthToRegain_34 : decode qC_Pc_lengthToRegain.1 34 = .ok (.iload_n 1, 1) := by decide +kernel
theorem d_Pc_lengthToRegain_35 : decode qC_Pc_lengthToRegain.1 35 = .ok (.bipush 6, 2) := by decide +kernel
theorem d_Pc_lengthToRegain_37 : decode qC_Pc_lengthToRegain.1 37 = .ok (.invokevirtual 59, 3) := by decide +kernel
theorem d_Pc_lengthToRegain_40 : decode qC_Pc_lengthToRegain.1 40 = .ok (.invokestatic 119, 3) := by decide +kernel
theorem d_Pc_lengthToRegain_43 : decode qC_Pc_lengthToRegain.1 43 = .ok (.istore 4, 2) := by decide +kernel
theorem d_Pc_lengthToRegain_45 : decode qC_Pc_lengthToRegain.1 45 = .ok (.aload_n 0, 1) := by decide +kernel
theorem d_Pc_lengthToRegain_46 : decode qC_Pc_lengthToRegain.1 46 = .ok (.getfield 48, 3) := by decide +kernel
theorem d_Pc_lengthToRegain_49 : decode qC_Pc_lengthToRegain.1 49 = .ok (.iload_n 1, 1) := by decide +kernel
theorem d_Pc_lengthToRegain_50 : decode qC_Pc_lengthToRegain.1 50 = .ok (.bipush 6, 2) := by decide +kernel
theorem d_Pc_lengthToRegain_52 : decode qC_Pc_lengthToRegain.1 52 = .ok (.invokevirtual 59, 3) := by decide +kernel
theorem d_Pc_lengthToRegain_55 : decode qC_Pc_lengthToRegain.1 55 = .ok (.invokestatic 122, 3) := by decide +kernel
theorem d_Pc_lengthToRegain_58 : decode qC_Pc_lengthToRegain.1 58 = .ok (.istore 5, 2) := by decide +kernel
theorem d_Pc_lengthToRegain_60 : decode qC_Pc_lengthToRegain.1 60 = .ok (.iload_n 2, 1) := by decide +kernel
theorem d_Pc_lengthToRegain_61 : decode qC_Pc_lengthToRegain.1 61 = .ok (.iload 4, 2) := by decide +kernel
theorem d_Pc_lengthToRegain_63 : decode qC_Pc_lengthToRegain.1 63 = .ok (.imul, 1) := by decide +kernel
theorem d_Pc_lengthToRegain_64 : decode qC_Pc_lengthToRegain.1 64 = .ok (.iload_n 3, 1) := by decide +kernel
theorem d_Pc_lengthToRegain_65 : decode qC_Pc_lengthToRegain.1 65 = .ok (.iload 5, 2) := by decide +kernel
theorem d_Pc_lengthToRegain_67 : decode qC_Pc_lengthToRegain.1 67 = .ok (.imul, 1) := by decide +kernel
theorem d_Pc_lengthToRegain_68 : decode qC_Pc_lengthToRegain.1 68 = .ok (.iadd, 1) := by decide +kernel
theorem d_Pc_lengthToRegain_69 : decode qC_Pc_lengthToRegain.1 69 = .ok (.sipush 1000, 3) := by decide +kernel
theorem d_Pc_lengthToRegain_72 : decode qC_Pc_lengthToRegain.1 72 = .ok (.idiv, 1) := by decide +kernel
theorem d_Pc_lengthToRegain_73 : decode qC_Pc_lengthToRegain.1 73 = .ok (.istore 6, 2) := by decide +kernel
theorem d_Pc_lengthToRegain_75 : decode qC_Pc_lengthToRegain.1 75 = .ok (.iload_n 2, 1) := by decide +kernel
theorem d_Pc_lengthToRegain_76 : decode qC_Pc_lengthToRegain.1 76 = .ok (.iload 5, 2) := by decide +kernel
theorem d_Pc_lengthToRegain_78 : decode qC_Pc_lengthToRegain.1 78 = .ok (.imul, 1) := by decide +kernel
theorem d_Pc_lengthToRegain_79 : decode qC_Pc_lengthToRegain.1 79 = .ok (.iload_n 3, 1) := by decide +kernel
theorem d_Pc_lengthToRegain_80 : decode qC_Pc_lengthToRegain.1 80 = .ok (.iload 4, 2) := by decide +kernel
theorem d_Pc_lengthToRegain_82 : decode qC_Pc_lengthToRegain.1 82 = .ok (.imul, 1) := by decide +kernel
theorem d_Pc_lengthToRegain_83 : decode qC_Pc_lengthToRegain.1 83 = .ok (.isub, 1) := by decide +kernel
theorem d_Pc_lengthToRegain_84 : decode qC_Pc_lengthToRegain.1 84 = .ok (.sipush 1000, 3) := by decide +kernel
theorem d_Pc_lengthToRegain_87 : decode qC_Pc_lengthToRegain.1 87 = .ok (.idiv, 1) := by decide +kernel
theorem d_Pc_lengthToRegain_88 : decode qC_Pc_lengthToRegain.1 88 = .ok (.invokestatic 101, 3) := by decide +kernel
theorem d_Pc_lengthToRegain_91 : decode qC_Pc_lengthToRegain.1 91 = .ok (.istore 7, 2) := by decide +kernel
theorem d_Pc_lengthToRegain_93 : decode qC_Pc_lengthToRegain.1 93 = .ok (.aload_n 0, 1) := by decide +kernel
theorem d_Pc_lengthToRegain_94 : decode qC_Pc_lengthToRegain.1 94 = .ok (.getfield 48, 3) := by decide +kernel
theorem d_Pc_lengthToRegain_97 : decode qC_Pc_lengthToRegain.1 97 = .ok (.iload_n 1, 1) := by decide +kernel
theorem d_Pc_lengthToRegain_98 : decode qC_Pc_lengthToRegain.1 98 = .ok (.iconst 5, 1) := by decide +kernel
theorem d_Pc_lengthToRegain_99 : decode qC_Pc_lengthToRegain.1 99 = .ok (.invokevirtual 59, 3) := by decide +kernel
theorem d_Pc_lengthToRegain_102 : decode qC_Pc_lengthToRegain.1 102 = .ok (.aload_n 0, 1) := by decide +kernel
theorem d_Pc_lengthToRegain_103 : decode qC_Pc_lengthToRegain.1 103 = .ok (.getfield 48, 3) := by decide +kernel
theorem d_Pc_lengthToRegain_106 : decode qC_Pc_lengthToRegain.1 106 = .ok (.iload_n 1, 1) := by decide +kernel
theorem d_Pc_lengthToRegain_107 : decode qC_Pc_lengthToRegain.1 107 = .ok (.bipush 15, 2) := by decide +kernel
theorem d_Pc_lengthToRegain_109 : decode qC_Pc_lengthToRegain.1 109 = .ok (.invokevirtual 59, 3) := by decide +kernel
theorem d_Pc_lengthToRegain_112 : decode qC_Pc_lengthToRegain.1 112 = .ok (.isub, 1) := by decide +kernel
theorem d_Pc_lengthToRegain_113 : decode qC_Pc_lengthToRegain.1 113 = .ok (.istore 8, 2) := by decide +kernel
theorem d_Pc_lengthToRegain_115 : decode qC_Pc_lengthToRegain.1 115 = .ok (.iload 6, 2) := by decide +kernel
theorem d_Pc_lengthToRegain_117 : decode qC_Pc_lengthToRegain.1 117 = .ok (.iconst 2, 1) := by decide +kernel
theorem d_Pc_lengthToRegain_118 : decode qC_Pc_lengthToRegain.1 118 = .ok (.iload 7, 2) := by decide +kernel
theorem d_Pc_lengthToRegain_120 : decode qC_Pc_lengthToRegain.1 120 = .ok (.imul, 1) := by decide +kernel
theorem d_Pc_lengthToRegain_121 : decode qC_Pc_lengthToRegain.1 121 = .ok (.iadd, 1) := by decide +kernel
theorem d_Pc_lengthToRegain_122 : decode qC_Pc_lengthToRegain.1 122 = .ok (.iconst 0, 1) := by decide +kernel
theorem d_Pc_lengthToRegain_123 : decode qC_Pc_lengthToRegain.1 123 = .ok (.invokestatic 134, 3) := by decide +kernel
theorem d_Pc_lengthToRegain_126 : decode qC_Pc_lengthToRegain.1 126 = .ok (.iload 8, 2) := by decide +kernel
theorem d_Pc_lengthToRegain_128 : decode qC_Pc_lengthToRegain.1 128 = .ok (.invokestatic 137, 3) := by decide +kernel
theorem d_Pc_lengthToRegain_131 : decode qC_Pc_lengthToRegain.1 131 = .ok (.ireturn, 1) := by decide +kernel
set_option maxRecDepth 100000 in
def f_Pc_lengthToRegain (σ : St) (o : Nat) (p1 : Int32) : Option (Int32) :=
  Option.bind (f_Tb_get σ (rc o 3) p1 (1 : Int32)) fun x1 =>
  Lt (((σ o 9) - x1) : Int32) fun x2 =>
  Option.bind (f_Tb_get σ (rc o 3) p1 (2 : Int32)) fun x3 =>
  Lt (((σ o 10) - x3) : Int32) fun x4 =>
  Option.bind (f_Tb_get σ (rc o 3) p1 (6 : Int32)) fun x5 =>
  Option.bind (f_Cm_east σ x5) fun x6 =>
  Option.bind (f_Tb_get σ (rc o 3) p1 (6 : Int32)) fun x7 =>
  Option.bind (f_Cm_north σ x7) fun x8 =>
  Lt ((((x2 * x6) + (x4 * x8)) / (1000 : Int32)) : Int32) fun x9 =>
  Lt ((iabs (((x2 * x8) - (x4 * x6)) / (1000 : Int32))) : Int32) fun x10 =>
  Option.bind (f_Tb_get σ (rc o 3) p1 (5 : Int32)) fun x11 =>
  Option.bind (f_Tb_get σ (rc o 3) p1 (15 : Int32)) fun x12 =>
  Lt ((x11 - x12) : Int32) fun x13 =>
  some (imin (imax (x9 + ((2 : Int32) * x10)) (0 : Int32)) x13)
set_option maxHeartbeats 4000000 in
set_option maxRecDepth 100000 in
theorem cC_Pc_lengthToRegain (l : Launch) (g : Ge) (hi : injB wC.2 g) (σ : St) (o : Nat) (ho : wC.2.2.1 o = .inr (2, 11)) (p1 : Int32) (x : Int32) (h : f_Pc_lengthToRegain σ o p1 = some x) : Ct l wC g yC_Pc_lengthToRegain qC_Pc_lengthToRegain 1 22 [.ref (g.1 o), .int p1] σ (some (.int x), σ) := by
  refine Ct.of (out := (o_r σ)) FC_Pc_lengthToRegain rfl hi rfl h (fun z hz C => ?_)
  clear h
  subst hz
  unfold f_Pc_lengthToRegain
  show Rt z qC_Pc_lengthToRegain wC g (o_r σ) 0 [(0, .ref (g.1 o)), (1, .int p1)] [] σ _
  refine q_aload_n (pc' := 1) C 0 d_Pc_lengthToRegain_0 rfl rfl ?_
  refine gC_Pc_24 (pc' := 4) C o ho d_Pc_lengthToRegain_1 rfl rfl ?_
  refine q_aload_n (pc' := 5) C 0 d_Pc_lengthToRegain_4 rfl rfl ?_
  refine gC_Pc_48 (pc' := 8) C o (rc o 3) ho (ly_2_3 ho).1 d_Pc_lengthToRegain_5 rfl rfl ?_
  refine q_iload_n (pc' := 9) C 1 d_Pc_lengthToRegain_8 rfl rfl ?_
  refine q_iconst (pc' := 10) C d_Pc_lengthToRegain_9 ki_1 rfl ?_
  refine q_callVr (fr' := 0) (lo' := 0) (pc' := 13) C FC_Tb_get lmC_Pc_59 d_Pc_lengthToRegain_10 (rc o 3) (jCo (ly_2_3 ho).2) (ly_2_3 ho).2 cC_8 [.int p1, .int (1 : Int32)] [.int (σ o 9)] rfl rfl (Nat.le_of_ble_eq_true rfl) ⟨rfl, rfl⟩ (fun x h => cC_Tb_get _ g hi σ (rc o 3) (ly_2_3 ho).2 p1 (1 : Int32) x h) rfl (fun x1 hx1 => ?_)
  refine q_isub (pc' := 14) C d_Pc_lengthToRegain_13 rfl ?_
  refine q_let (fun x2 e2 => ?_)
  refine q_topi e2 ?_
  refine q_istore_n (pc' := 15) (lv' := [(2, .int x2), (0, .ref (g.1 o)), (1, .int p1)]) C d_Pc_lengthToRegain_14 (by decide) rfl rfl ?_
  refine q_aload_n (pc' := 16) C 1 d_Pc_lengthToRegain_15 rfl rfl ?_
  refine gC_Pc_27 (pc' := 19) C o ho d_Pc_lengthToRegain_16 rfl rfl ?_
  refine q_aload_n (pc' := 20) C 1 d_Pc_lengthToRegain_19 rfl rfl ?_
  refine gC_Pc_48 (pc' := 23) C o (rc o 3) ho (ly_2_3 ho).1 d_Pc_lengthToRegain_20 rfl rfl ?_
  refine q_iload_n (pc' := 24) C 2 d_Pc_lengthToRegain_23 rfl rfl ?_
  refine q_iconst (pc' := 25) C d_Pc_lengthToRegain_24 ki_2 rfl ?_
  refine q_callVr (fr' := 0) (lo' := 0) (pc' := 28) C FC_Tb_get lmC_Pc_59 d_Pc_lengthToRegain_25 (rc o 3) (jCo (ly_2_3 ho).2) (ly_2_3 ho).2 cC_8 [.int p1, .int (2 : Int32)] [.int (σ o 10)] rfl rfl (Nat.le_of_ble_eq_true rfl) ⟨rfl, rfl⟩ (fun x h => cC_Tb_get _ g hi σ (rc o 3) (ly_2_3 ho).2 p1 (2 : Int32) x h) rfl (fun x3 hx3 => ?_)
  refine q_isub (pc' := 29) C d_Pc_lengthToRegain_28 rfl ?_
  refine q_let (fun x4 e4 => ?_)
  refine q_topi e4 ?_
  refine q_istore_n (pc' := 30) (lv' := [(3, .int x4), (2, .int x2), (0, .ref (g.1 o)), (1, .int p1)]) C d_Pc_lengthToRegain_29 (by decide) rfl rfl ?_
  refine q_aload_n (pc' := 31) C 2 d_Pc_lengthToRegain_30 rfl rfl ?_
  refine gC_Pc_48 (pc' := 34) C o (rc o 3) ho (ly_2_3 ho).1 d_Pc_lengthToRegain_31 rfl rfl ?_
  refine q_iload_n (pc' := 35) C 3 d_Pc_lengthToRegain_34 rfl rfl ?_
  refine q_bipush (pc' := 37) C d_Pc_lengthToRegain_35 kb_6 rfl ?_
  refine q_callVr (fr' := 0) (lo' := 0) (pc' := 40) C FC_Tb_get lmC_Pc_59 d_Pc_lengthToRegain_37 (rc o 3) (jCo (ly_2_3 ho).2) (ly_2_3 ho).2 cC_8 [.int p1, .int (6 : Int32)] [] rfl rfl (Nat.le_of_ble_eq_true rfl) ⟨rfl, rfl⟩ (fun x h => cC_Tb_get _ g hi σ (rc o 3) (ly_2_3 ho).2 p1 (6 : Int32) x h) rfl (fun x5 hx5 => ?_)
  refine q_callSr (fr' := 0) (lo' := 0) (pc' := 43) C FC_Cm_east lmC_Pc_119 d_Pc_lengthToRegain_40 [.int x5] [] rfl rfl (Nat.le_of_ble_eq_true rfl) ⟨rfl, rfl⟩ (fun x h => cC_Cm_east _ g hi σ x5 x h) rfl (fun x6 hx6 => ?_)
  refine q_istore (pc' := 45) (lv' := [(4, .int x6), (3, .int x4), (2, .int x2), (0, .ref (g.1 o)), (1, .int p1)]) C d_Pc_lengthToRegain_43 (by decide) rfl rfl ?_
  refine q_aload_n (pc' := 46) C 3 d_Pc_lengthToRegain_45 rfl rfl ?_
  refine gC_Pc_48 (pc' := 49) C o (rc o 3) ho (ly_2_3 ho).1 d_Pc_lengthToRegain_46 rfl rfl ?_
  refine q_iload_n (pc' := 50) C 4 d_Pc_lengthToRegain_49 rfl rfl ?_
  refine q_bipush (pc' := 52) C d_Pc_lengthToRegain_50 kb_6 rfl ?_
  refine q_callVr (fr' := 0) (lo' := 0) (pc' := 55) C FC_Tb_get lmC_Pc_59 d_Pc_lengthToRegain_52 (rc o 3) (jCo (ly_2_3 ho).2) (ly_2_3 ho).2 cC_8 [.int p1, .int (6 : Int32)] [] rfl rfl (Nat.le_of_ble_eq_true rfl) ⟨rfl, rfl⟩ (fun x h => cC_Tb_get _ g hi σ (rc o 3) (ly_2_3 ho).2 p1 (6 : Int32) x h) rfl (fun x7 hx7 => ?_)
  refine q_callSr (fr' := 0) (lo' := 0) (pc' := 58) C FC_Cm_north lmC_Pc_122 d_Pc_lengthToRegain_55 [.int x7] [] rfl rfl (Nat.le_of_ble_eq_true rfl) ⟨rfl, rfl⟩ (fun x h => cC_Cm_north _ g hi σ x7 x h) rfl (fun x8 hx8 => ?_)
  refine q_istore (pc' := 60) (lv' := [(5, .int x8), (4, .int x6), (3, .int x4), (2, .int x2), (0, .ref (g.1 o)), (1, .int p1)]) C d_Pc_lengthToRegain_58 (by decide) rfl rfl ?_
  refine q_iload_n (pc' := 61) C 3 d_Pc_lengthToRegain_60 rfl rfl ?_
  refine q_iload (pc' := 63) C 1 d_Pc_lengthToRegain_61 rfl rfl ?_
  refine q_imul (pc' := 64) C d_Pc_lengthToRegain_63 rfl ?_
  refine q_iload_n (pc' := 65) C 2 d_Pc_lengthToRegain_64 rfl rfl ?_
  refine q_iload (pc' := 67) C 0 d_Pc_lengthToRegain_65 rfl rfl ?_
  refine q_imul (pc' := 68) C d_Pc_lengthToRegain_67 rfl ?_
  refine q_iadd (pc' := 69) C d_Pc_lengthToRegain_68 rfl ?_
  refine q_sipush (pc' := 72) C d_Pc_lengthToRegain_69 ks_1000 rfl ?_
  refine q_idiv (pc' := 73) C (by decide) d_Pc_lengthToRegain_72 rfl ?_
  refine q_let (fun x9 e9 => ?_)
  refine q_topi e9 ?_
  refine q_istore (pc' := 75) (lv' := [(6, .int x9), (5, .int x8), (4, .int x6), (3, .int x4), (2, .int x2), (0, .ref (g.1 o)), (1, .int p1)]) C d_Pc_lengthToRegain_73 (by decide) rfl rfl ?_
  refine q_iload_n (pc' := 76) C 4 d_Pc_lengthToRegain_75 rfl rfl ?_
  refine q_iload (pc' := 78) C 1 d_Pc_lengthToRegain_76 rfl rfl ?_
  refine q_imul (pc' := 79) C d_Pc_lengthToRegain_78 rfl ?_
  refine q_iload_n (pc' := 80) C 3 d_Pc_lengthToRegain_79 rfl rfl ?_
  refine q_iload (pc' := 82) C 2 d_Pc_lengthToRegain_80 rfl rfl ?_
  refine q_imul (pc' := 83) C d_Pc_lengthToRegain_82 rfl ?_
  refine q_isub (pc' := 84) C d_Pc_lengthToRegain_83 rfl ?_
  refine q_sipush (pc' := 87) C d_Pc_lengthToRegain_84 ks_1000 rfl ?_
  refine q_idiv (pc' := 88) C (by decide) d_Pc_lengthToRegain_87 rfl ?_
  refine q_mabs (pc' := 91) C lj_abs_Pc_101 (Nat.le_of_ble_eq_true rfl) ⟨rfl, rfl⟩ d_Pc_lengthToRegain_88 rfl ?_
  refine q_let (fun x10 e10 => ?_)
  refine q_topi e10 ?_
  refine q_istore (pc' := 93) (lv' := [(7, .int x10), (6, .int x9), (5, .int x8), (4, .int x6), (3, .int x4), (2, .int x2), (0, .ref (g.1 o)), (1, .int p1)]) C d_Pc_lengthToRegain_91 (by decide) rfl rfl ?_
  refine q_aload_n (pc' := 94) C 6 d_Pc_lengthToRegain_93 rfl rfl ?_
  refine gC_Pc_48 (pc' := 97) C o (rc o 3) ho (ly_2_3 ho).1 d_Pc_lengthToRegain_94 rfl rfl ?_
  refine q_iload_n (pc' := 98) C 7 d_Pc_lengthToRegain_97 rfl rfl ?_
  refine q_iconst (pc' := 99) C d_Pc_lengthToRegain_98 ki_5 rfl ?_
  refine q_callVr (fr' := 0) (lo' := 0) (pc' := 102) C FC_Tb_get lmC_Pc_59 d_Pc_lengthToRegain_99 (rc o 3) (jCo (ly_2_3 ho).2) (ly_2_3 ho).2 cC_8 [.int p1, .int (5 : Int32)] [] rfl rfl (Nat.le_of_ble_eq_true rfl) ⟨rfl, rfl⟩ (fun x h => cC_Tb_get _ g hi σ (rc o 3) (ly_2_3 ho).2 p1 (5 : Int32) x h) rfl (fun x11 hx11 => ?_)
  refine q_aload_n (pc' := 103) C 6 d_Pc_lengthToRegain_102 rfl rfl ?_
  refine gC_Pc_48 (pc' := 106) C o (rc o 3) ho (ly_2_3 ho).1 d_Pc_lengthToRegain_103 rfl rfl ?_
  refine q_iload_n (pc' := 107) C 7 d_Pc_lengthToRegain_106 rfl rfl ?_
  refine q_bipush (pc' := 109) C d_Pc_lengthToRegain_107 kb_15 rfl ?_
  refine q_callVr (fr' := 0) (lo' := 0) (pc' := 112) C FC_Tb_get lmC_Pc_59 d_Pc_lengthToRegain_109 (rc o 3) (jCo (ly_2_3 ho).2) (ly_2_3 ho).2 cC_8 [.int p1, .int (15 : Int32)] [.int x11] rfl rfl (Nat.le_of_ble_eq_true rfl) ⟨rfl, rfl⟩ (fun x h => cC_Tb_get _ g hi σ (rc o 3) (ly_2_3 ho).2 p1 (15 : Int32) x h) rfl (fun x12 hx12 => ?_)
  refine q_isub (pc' := 113) C d_Pc_lengthToRegain_112 rfl ?_
  refine q_let (fun x13 e13 => ?_)
  refine q_topi e13 ?_
  refine q_istore (pc' := 115) (lv' := [(8, .int x13), (7, .int x10), (6, .int x9), (5, .int x8), (4, .int x6), (3, .int x4), (2, .int x2), (0, .ref (g.1 o)), (1, .int p1)]) C d_Pc_lengthToRegain_113 (by decide) rfl rfl ?_
  refine q_iload (pc' := 117) C 2 d_Pc_lengthToRegain_115 rfl rfl ?_
  refine q_iconst (pc' := 118) C d_Pc_lengthToRegain_117 ki_2 rfl ?_
  refine q_iload (pc' := 120) C 1 d_Pc_lengthToRegain_118 rfl rfl ?_
  refine q_imul (pc' := 121) C d_Pc_lengthToRegain_120 rfl ?_
  refine q_iadd (pc' := 122) C d_Pc_lengthToRegain_121 rfl ?_
  refine q_iconst (pc' := 123) C d_Pc_lengthToRegain_122 ki_0 rfl ?_
  refine q_mmax (pc' := 126) C lj_max_Pc_134 (Nat.le_of_ble_eq_true rfl) ⟨rfl, rfl⟩ d_Pc_lengthToRegain_123 rfl ?_
  refine q_iload (pc' := 128) C 0 d_Pc_lengthToRegain_126 rfl rfl ?_
  refine q_mmin (pc' := 131) C lj_min_Pc_137 (Nat.le_of_ble_eq_true rfl) ⟨rfl, rfl⟩ d_Pc_lengthToRegain_128 rfl ?_
  exact q_iret C rfl d_Pc_lengthToRegain_131 rfl
theorem d_Pc_onSegmentX_0 : decode qC_Pc_onSegmentX.1 0 = .ok (.aload_n 0, 1) := by decide +kernel
theorem d_Pc_onSegmentX_1 : decode qC_Pc_onSegmentX.1 1 = .ok (.getfield 48, 3) := by decide +kernel
theorem d_Pc_onSegmentX_4 : decode qC_Pc_onSegmentX.1 4 = .ok (.iload_n 1, 1) := by decide +kernel
theorem d_Pc_onSegmentX_5 : decode qC_Pc_onSegmentX.1 5 = .ok (.iconst 5, 1) := by decide +kernel
theorem d_Pc_onSegmentX_6 : decode qC_Pc_onSegmentX.1 6 = .ok (.invokevirtual 59, 3) := by decide +kernel
theorem d_Pc_onSegmentX_9 : decode qC_Pc_onSegmentX.1 9 = .ok (.istore_n 3, 1) := by decide +kernel
theorem d_Pc_onSegmentX_10 : decode qC_Pc_onSegmentX.1 10 = .ok (.aload_n 0, 1) := by decide +kernel
theorem d_Pc_onSegmentX_11 : decode qC_Pc_onSegmentX.1 11 = .ok (.getfield 48, 3) := by decide +kernel
theorem d_Pc_onSegmentX_14 : decode qC_Pc_onSegmentX.1 14 = .ok (.iload_n 1, 1) := by decide +kernel
theorem d_Pc_onSegmentX_15 : decode qC_Pc_onSegmentX.1 15 = .ok (.iconst 3, 1) := by decide +kernel
theorem d_Pc_onSegmentX_16 : decode qC_Pc_onSegmentX.1 16 = .ok (.invokevirtual 59, 3) := by decide +kernel
theorem d_Pc_onSegmentX_19 : decode qC_Pc_onSegmentX.1 19 = .ok (.aload_n 0, 1) := by decide +kernel
theorem d_Pc_onSegmentX_20 : decode qC_Pc_onSegmentX.1 20 = .ok (.getfield 48, 3) := by decide +kernel
theorem d_Pc_onSegmentX_23 : decode qC_Pc_onSegmentX.1 23 = .ok (.iload_n 1, 1) := by decide +kernel
theorem d_Pc_onSegmentX_24 : decode qC_Pc_onSegmentX.1 24 = .ok (.iconst 1, 1) := by decide +kernel
theorem d_Pc_onSegmentX_25 : decode qC_Pc_onSegmentX.1 25 = .ok (.invokevirtual 59, 3) := by decide +kernel
theorem d_Pc_onSegmentX_28 : decode qC_Pc_onSegmentX.1 28 = .ok (.iload_n 2, 1) := by decide +kernel
theorem d_Pc_onSegmentX_29 : decode qC_Pc_onSegmentX.1 29 = .ok (.iload_n 3, 1) := by decide +kernel
theorem d_Pc_onSegmentX_30 : decode qC_Pc_onSegmentX.1 30 = .ok (.invokestatic 115, 3) := by decide +kernel
theorem d_Pc_onSegmentX_33 : decode qC_Pc_onSegmentX.1 33 = .ok (.ireturn, 1) := by decide +kernel
set_option maxRecDepth 100000 in
def f_Pc_onSegmentX (σ : St) (o : Nat) (p1 : Int32) (p2 : Int32) : Option (Int32) :=
  Option.bind (f_Tb_get σ (rc o 3) p1 (5 : Int32)) fun x1 =>
  Option.bind (f_Tb_get σ (rc o 3) p1 (3 : Int32)) fun x2 =>
  Option.bind (f_Tb_get σ (rc o 3) p1 (1 : Int32)) fun x3 =>
  Option.bind (f_Cm_before x2 x3 p2 x1) fun x4 =>
  some x4
set_option maxHeartbeats 4000000 in
set_option maxRecDepth 100000 in
theorem cC_Pc_onSegmentX (l : Launch) (g : Ge) (hi : injB wC.2 g) (σ : St) (o : Nat) (ho : wC.2.2.1 o = .inr (2, 11)) (p1 : Int32) (p2 : Int32) (x : Int32) (h : f_Pc_onSegmentX σ o p1 p2 = some x) : Ct l wC g yC_Pc_onSegmentX qC_Pc_onSegmentX 1 23 [.ref (g.1 o), .int p1, .int p2] σ (some (.int x), σ) := by
  refine Ct.of (out := (o_r σ)) FC_Pc_onSegmentX rfl hi rfl h (fun z hz C => ?_)
  clear h
  subst hz
  unfold f_Pc_onSegmentX
  show Rt z qC_Pc_onSegmentX wC g (o_r σ) 0 [(0, .ref (g.1 o)), (1, .int p1), (2, .int p2)] [] σ _
  refine q_aload_n (pc' := 1) C 0 d_Pc_onSegmentX_0 rfl rfl ?_
  refine gC_Pc_48 (pc' := 4) C o (rc o 3) ho (ly_2_3 ho).1 d_Pc_onSegmentX_1 rfl rfl ?_
  refine q_iload_n (pc' := 5) C 1 d_Pc_onSegmentX_4 rfl rfl ?_
  refine q_iconst (pc' := 6) C d_Pc_onSegmentX_5 ki_5 rfl ?_
  refine q_callVr (fr' := 0) (lo' := 0) (pc' := 9) C FC_Tb_get lmC_Pc_59 d_Pc_onSegmentX_6 (rc o 3) (jCo (ly_2_3 ho).2) (ly_2_3 ho).2 cC_8 [.int p1, .int (5 : Int32)] [] rfl rfl (Nat.le_of_ble_eq_true rfl) ⟨rfl, rfl⟩ (fun x h => cC_Tb_get _ g hi σ (rc o 3) (ly_2_3 ho).2 p1 (5 : Int32) x h) rfl (fun x1 hx1 => ?_)
  refine q_istore_n (pc' := 10) (lv' := [(3, .int x1), (0, .ref (g.1 o)), (1, .int p1), (2, .int p2)]) C d_Pc_onSegmentX_9 (by decide) rfl rfl ?_
  refine q_aload_n (pc' := 11) C 1 d_Pc_onSegmentX_10 rfl rfl ?_
  refine gC_Pc_48 (pc' := 14) C o (rc o 3) ho (ly_2_3 ho).1 d_Pc_onSegmentX_11 rfl rfl ?_
  refine q_iload_n (pc' := 15) C 2 d_Pc_onSegmentX_14 rfl rfl ?_
  refine q_iconst (pc' := 16) C d_Pc_onSegmentX_15 ki_3 rfl ?_
  refine q_callVr (fr' := 0) (lo' := 0) (pc' := 19) C FC_Tb_get lmC_Pc_59 d_Pc_onSegmentX_16 (rc o 3) (jCo (ly_2_3 ho).2) (ly_2_3 ho).2 cC_8 [.int p1, .int (3 : Int32)] [] rfl rfl (Nat.le_of_ble_eq_true rfl) ⟨rfl, rfl⟩ (fun x h => cC_Tb_get _ g hi σ (rc o 3) (ly_2_3 ho).2 p1 (3 : Int32) x h) rfl (fun x2 hx2 => ?_)
  refine q_aload_n (pc' := 20) C 1 d_Pc_onSegmentX_19 rfl rfl ?_
  refine gC_Pc_48 (pc' := 23) C o (rc o 3) ho (ly_2_3 ho).1 d_Pc_onSegmentX_20 rfl rfl ?_
  refine q_iload_n (pc' := 24) C 2 d_Pc_onSegmentX_23 rfl rfl ?_
  refine q_iconst (pc' := 25) C d_Pc_onSegmentX_24 ki_1 rfl ?_
  refine q_callVr (fr' := 0) (lo' := 0) (pc' := 28) C FC_Tb_get lmC_Pc_59 d_Pc_onSegmentX_25 (rc o 3) (jCo (ly_2_3 ho).2) (ly_2_3 ho).2 cC_8 [.int p1, .int (1 : Int32)] [.int x2] rfl rfl (Nat.le_of_ble_eq_true rfl) ⟨rfl, rfl⟩ (fun x h => cC_Tb_get _ g hi σ (rc o 3) (ly_2_3 ho).2 p1 (1 : Int32) x h) rfl (fun x3 hx3 => ?_)
  refine q_iload_n (pc' := 29) C 3 d_Pc_onSegmentX_28 rfl rfl ?_
  refine q_iload_n (pc' := 30) C 0 d_Pc_onSegmentX_29 rfl rfl ?_
  refine q_callSr (fr' := 0) (lo' := 0) (pc' := 33) C FC_Cm_before lmC_Pc_115 d_Pc_onSegmentX_30 [.int x2, .int x3, .int p2, .int x1] [] rfl rfl (Nat.le_of_ble_eq_true rfl) ⟨rfl, rfl⟩ (fun x h => cC_Cm_before _ g hi σ x2 x3 p2 x1 x h) rfl (fun x4 hx4 => ?_)
  exact q_iret C rfl d_Pc_onSegmentX_33 rfl
theorem d_Pc_onSegmentY_0 : decode qC_Pc_onSegmentY.1 0 = .ok (.aload_n 0, 1) := by decide +kernel
theorem d_Pc_onSegmentY_1 : decode qC_Pc_onSegmentY.1 1 = .ok (.getfield 48, 3) := by decide +kernel
theorem d_Pc_onSegmentY_4 : decode qC_Pc_onSegmentY.1 4 = .ok (.iload_n 1, 1) := by decide +kernel
theorem d_Pc_onSegmentY_5 : decode qC_Pc_onSegmentY.1 5 = .ok (.iconst 5, 1) := by decide +kernel
theorem d_Pc_onSegmentY_6 : decode qC_Pc_onSegmentY.1 6 = .ok (.invokevirtual 59, 3) := by decide +kernel
theorem d_Pc_onSegmentY_9 : decode qC_Pc_onSegmentY.1 9 = .ok (.istore_n 3, 1) := by decide +kernel
theorem d_Pc_onSegmentY_10 : decode qC_Pc_onSegmentY.1 10 = .ok (.aload_n 0, 1) := by decide +kernel
theorem d_Pc_onSegmentY_11 : decode qC_Pc_onSegmentY.1 11 = .ok (.getfield 48, 3) := by decide +kernel
theorem d_Pc_onSegmentY_14 : decode qC_Pc_onSegmentY.1 14 = .ok (.iload_n 1, 1) := by decide +kernel
theorem d_Pc_onSegmentY_15 : decode qC_Pc_onSegmentY.1 15 = .ok (.iconst 4, 1) := by decide +kernel
theorem d_Pc_onSegmentY_16 : decode qC_Pc_onSegmentY.1 16 = .ok (.invokevirtual 59, 3) := by decide +kernel
theorem d_Pc_onSegmentY_19 : decode qC_Pc_onSegmentY.1 19 = .ok (.aload_n 0, 1) := by decide +kernel
theorem d_Pc_onSegmentY_20 : decode qC_Pc_onSegmentY.1 20 = .ok (.getfield 48, 3) := by decide +kernel
theorem d_Pc_onSegmentY_23 : decode qC_Pc_onSegmentY.1 23 = .ok (.iload_n 1, 1) := by decide +kernel
theorem d_Pc_onSegmentY_24 : decode qC_Pc_onSegmentY.1 24 = .ok (.iconst 2, 1) := by decide +kernel
theorem d_Pc_onSegmentY_25 : decode qC_Pc_onSegmentY.1 25 = .ok (.invokevirtual 59, 3) := by decide +kernel
theorem d_Pc_onSegmentY_28 : decode qC_Pc_onSegmentY.1 28 = .ok (.iload_n 2, 1) := by decide +kernel
theorem d_Pc_onSegmentY_29 : decode qC_Pc_onSegmentY.1 29 = .ok (.iload_n 3, 1) := by decide +kernel
theorem d_Pc_onSegmentY_30 : decode qC_Pc_onSegmentY.1 30 = .ok (.invokestatic 115, 3) := by decide +kernel
theorem d_Pc_onSegmentY_33 : decode qC_Pc_onSegmentY.1 33 = .ok (.ireturn, 1) := by decide +kernel
set_option maxRecDepth 100000 in
def f_Pc_onSegmentY (σ : St) (o : Nat) (p1 : Int32) (p2 : Int32) : Option (Int32) :=
  Option.bind (f_Tb_get σ (rc o 3) p1 (5 : Int32)) fun x1 =>
  Option.bind (f_Tb_get σ (rc o 3) p1 (4 : Int32)) fun x2 =>
  Option.bind (f_Tb_get σ (rc o 3) p1 (2 : Int32)) fun x3 =>
  Option.bind (f_Cm_before x2 x3 p2 x1) fun x4 =>
  some x4
set_option maxHeartbeats 4000000 in
set_option maxRecDepth 100000 in
theorem cC_Pc_onSegmentY (l : Launch) (g : Ge) (hi : injB wC.2 g) (σ : St) (o : Nat) (ho : wC.2.2.1 o = .inr (2, 11)) (p1 : Int32) (p2 : Int32) (x : Int32) (h : f_Pc_onSegmentY σ o p1 p2 = some x) : Ct l wC g yC_Pc_onSegmentY qC_Pc_onSegmentY 1 23 [.ref (g.1 o), .int p1, .int p2] σ (some (.int x), σ) := by
  refine Ct.of (out := (o_r σ)) FC_Pc_onSegmentY rfl hi rfl h (fun z hz C => ?_)
  clear h
  subst hz
  unfold f_Pc_onSegmentY
  show Rt z qC_Pc_onSegmentY wC g (o_r σ) 0 [(0, .ref (g.1 o)), (1, .int p1), (2, .int p2)] [] σ _
  refine q_aload_n (pc' := 1) C 0 d_Pc_onSegmentY_0 rfl rfl ?_
  refine gC_Pc_48 (pc' := 4) C o (rc o 3) ho (ly_2_3 ho).1 d_Pc_onSegmentY_1 rfl rfl ?_
  refine q_iload_n (pc' := 5) C 1 d_Pc_onSegmentY_4 rfl rfl ?_
  refine q_iconst (pc' := 6) C d_Pc_onSegmentY_5 ki_5 rfl ?_
  refine q_callVr (fr' := 0) (lo' := 0) (pc' := 9) C FC_Tb_get lmC_Pc_59 d_Pc_onSegmentY_6 (rc o 3) (jCo (ly_2_3 ho).2) (ly_2_3 ho).2 cC_8 [.int p1, .int (5 : Int32)] [] rfl rfl (Nat.le_of_ble_eq_true rfl) ⟨rfl, rfl⟩ (fun x h => cC_Tb_get _ g hi σ (rc o 3) (ly_2_3 ho).2 p1 (5 : Int32) x h) rfl (fun x1 hx1 => ?_)
  refine q_istore_n (pc' := 10) (lv' := [(3, .int x1), (0, .ref (g.1 o)), (1, .int p1), (2, .int p2)]) C d_Pc_onSegmentY_9 (by decide) rfl rfl ?_
  refine q_aload_n (pc' := 11) C 1 d_Pc_onSegmentY_10 rfl rfl ?_
  refine gC_Pc_48 (pc' := 14) C o (rc o 3) ho (ly_2_3 ho).1 d_Pc_onSegmentY_11 rfl rfl ?_
  refine q_iload_n (pc' := 15) C 2 d_Pc_onSegmentY_14 rfl rfl ?_
  refine q_iconst (pc' := 16) C d_Pc_onSegmentY_15 ki_4 rfl ?_
  refine q_callVr (fr' := 0) (lo' := 0) (pc' := 19) C FC_Tb_get lmC_Pc_59 d_Pc_onSegmentY_16 (rc o 3) (jCo (ly_2_3 ho).2) (ly_2_3 ho).2 cC_8 [.int p1, .int (4 : Int32)] [] rfl rfl (Nat.le_of_ble_eq_true rfl) ⟨rfl, rfl⟩ (fun x h => cC_Tb_get _ g hi σ (rc o 3) (ly_2_3 ho).2 p1 (4 : Int32) x h) rfl (fun x2 hx2 => ?_)
  refine q_aload_n (pc' := 20) C 1 d_Pc_onSegmentY_19 rfl rfl ?_
  refine gC_Pc_48 (pc' := 23) C o (rc o 3) ho (ly_2_3 ho).1 d_Pc_onSegmentY_20 rfl rfl ?_
  refine q_iload_n (pc' := 24) C 2 d_Pc_onSegmentY_23 rfl rfl ?_
  refine q_iconst (pc' := 25) C d_Pc_onSegmentY_24 ki_2 rfl ?_
  refine q_callVr (fr' := 0) (lo' := 0) (pc' := 28) C FC_Tb_get lmC_Pc_59 d_Pc_onSegmentY_25 (rc o 3) (jCo (ly_2_3 ho).2) (ly_2_3 ho).2 cC_8 [.int p1, .int (2 : Int32)] [.int x2] rfl rfl (Nat.le_of_ble_eq_true rfl) ⟨rfl, rfl⟩ (fun x h => cC_Tb_get _ g hi σ (rc o 3) (ly_2_3 ho).2 p1 (2 : Int32) x h) rfl (fun x3 hx3 => ?_)
  refine q_iload_n (pc' := 29) C 3 d_Pc_onSegmentY_28 rfl rfl ?_
  refine q_iload_n (pc' := 30) C 0 d_Pc_onSegmentY_29 rfl rfl ?_
  refine q_callSr (fr' := 0) (lo' := 0) (pc' := 33) C FC_Cm_before lmC_Pc_115 d_Pc_onSegmentY_30 [.int x2, .int x3, .int p2, .int x1] [] rfl rfl (Nat.le_of_ble_eq_true rfl) ⟨rfl, rfl⟩ (fun x h => cC_Cm_before _ g hi σ x2 x3 p2 x1 x h) rfl (fun x4 hx4 => ?_)
  exact q_iret C rfl d_Pc_onSegmentY_33 rfl
theorem d_Pc_drawRest_0 : decode qC_Pc_drawRest.1 0 = .ok (.aload_n 0, 1) := by decide +kernel
theorem d_Pc_drawRest_1 : decode qC_Pc_drawRest.1 1 = .ok (.getfield 48, 3) := by decide +kernel
theorem d_Pc_drawRest_4 : decode qC_Pc_drawRest.1 4 = .ok (.iload_n 1, 1) := by decide +kernel
theorem d_Pc_drawRest_5 : decode qC_Pc_drawRest.1 5 = .ok (.bipush 15, 2) := by decide +kernel
theorem d_Pc_drawRest_7 : decode qC_Pc_drawRest.1 7 = .ok (.invokevirtual 59, 3) := by decide +kernel
theorem d_Pc_drawRest_10 : decode qC_Pc_drawRest.1 10 = .ok (.istore_n 3, 1) := by decide +kernel
theorem d_Pc_drawRest_11 : decode qC_Pc_drawRest.1 11 = .ok (.aload_n 0, 1) := by decide +kernel
theorem d_Pc_drawRest_12 : decode qC_Pc_drawRest.1 12 = .ok (.getfield 48, 3) := by decide +kernel
theorem d_Pc_drawRest_15 : decode qC_Pc_drawRest.1 15 = .ok (.iload_n 1, 1) := by decide +kernel
theorem d_Pc_drawRest_16 : decode qC_Pc_drawRest.1 16 = .ok (.iconst 5, 1) := by decide +kernel
theorem d_Pc_drawRest_17 : decode qC_Pc_drawRest.1 17 = .ok (.invokevirtual 59, 3) := by decide +kernel
theorem d_Pc_drawRest_20 : decode qC_Pc_drawRest.1 20 = .ok (.istore 4, 2) := by decide +kernel
theorem d_Pc_drawRest_22 : decode qC_Pc_drawRest.1 22 = .ok (.aload_n 0, 1) := by decide +kernel
theorem d_Pc_drawRest_23 : decode qC_Pc_drawRest.1 23 = .ok (.getfield 48, 3) := by decide +kernel
theorem d_Pc_drawRest_26 : decode qC_Pc_drawRest.1 26 = .ok (.iload_n 1, 1) := by decide +kernel
theorem d_Pc_drawRest_27 : decode qC_Pc_drawRest.1 27 = .ok (.iconst 1, 1) := by decide +kernel
theorem d_Pc_drawRest_28 : decode qC_Pc_drawRest.1 28 = .ok (.invokevirtual 59, 3) := by decide +kernel
theorem d_Pc_drawRest_31 : decode qC_Pc_drawRest.1 31 = .ok (.aload_n 0, 1) := by decide +kernel
theorem d_Pc_drawRest_32 : decode qC_Pc_drawRest.1 32 = .ok (.getfield 48, 3) := by decide +kernel
theorem d_Pc_drawRest_35 : decode qC_Pc_drawRest.1 35 = .ok (.iload_n 1, 1) := by decide +kernel
theorem d_Pc_drawRest_36 : decode qC_Pc_drawRest.1 36 = .ok (.iconst 3, 1) := by decide +kernel
theorem d_Pc_drawRest_37 : decode qC_Pc_drawRest.1 37 = .ok (.invokevirtual 59, 3) := by decide +kernel
theorem d_Pc_drawRest_40 : decode qC_Pc_drawRest.1 40 = .ok (.iload_n 3, 1) := by decide +kernel
theorem d_Pc_drawRest_41 : decode qC_Pc_drawRest.1 41 = .ok (.iload 4, 2) := by decide +kernel
theorem d_Pc_drawRest_43 : decode qC_Pc_drawRest.1 43 = .ok (.invokestatic 115, 3) := by decide +kernel
theorem d_Pc_drawRest_46 : decode qC_Pc_drawRest.1 46 = .ok (.istore 5, 2) := by decide +kernel
theorem d_Pc_drawRest_48 : decode qC_Pc_drawRest.1 48 = .ok (.aload_n 0, 1) := by decide +kernel
theorem d_Pc_drawRest_49 : decode qC_Pc_drawRest.1 49 = .ok (.getfield 48, 3) := by decide +kernel
theorem d_Pc_drawRest_52 : decode qC_Pc_drawRest.1 52 = .ok (.iload_n 1, 1) := by decide +kernel
theorem d_Pc_drawRest_53 : decode qC_Pc_drawRest.1 53 = .ok (.iconst 2, 1) := by decide +kernel
theorem d_Pc_drawRest_54 : decode qC_Pc_drawRest.1 54 = .ok (.invokevirtual 59, 3) := by decide +kernel
theorem d_Pc_drawRest_57 : decode qC_Pc_drawRest.1 57 = .ok (.aload_n 0, 1) := by decide +kernel
theorem d_Pc_drawRest_58 : decode qC_Pc_drawRest.1 58 = .ok (.getfield 48, 3) := by decide +kernel
theorem d_Pc_drawRest_61 : decode qC_Pc_drawRest.1 61 = .ok (.iload_n 1, 1) := by decide +kernel
theorem d_Pc_drawRest_62 : decode qC_Pc_drawRest.1 62 = .ok (.iconst 4, 1) := by decide +kernel
theorem d_Pc_drawRest_63 : decode qC_Pc_drawRest.1 63 = .ok (.invokevirtual 59, 3) := by decide +kernel
theorem d_Pc_drawRest_66 : decode qC_Pc_drawRest.1 66 = .ok (.iload_n 3, 1) := by decide +kernel
theorem d_Pc_drawRest_67 : decode qC_Pc_drawRest.1 67 = .ok (.iload 4, 2) := by decide +kernel
theorem d_Pc_drawRest_69 : decode qC_Pc_drawRest.1 69 = .ok (.invokestatic 115, 3) := by decide +kernel
theorem d_Pc_drawRest_72 : decode qC_Pc_drawRest.1 72 = .ok (.istore 6, 2) := by decide +kernel
theorem d_Pc_drawRest_74 : decode qC_Pc_drawRest.1 74 = .ok (.aload_n 0, 1) := by decide +kernel
theorem d_Pc_drawRest_75 : decode qC_Pc_drawRest.1 75 = .ok (.getfield 48, 3) := by decide +kernel
theorem d_Pc_drawRest_78 : decode qC_Pc_drawRest.1 78 = .ok (.iload_n 1, 1) := by decide +kernel
theorem d_Pc_drawRest_79 : decode qC_Pc_drawRest.1 79 = .ok (.bipush 6, 2) := by decide +kernel
theorem d_Pc_drawRest_81 : decode qC_Pc_drawRest.1 81 = .ok (.invokevirtual 59, 3) := by decide +kernel
theorem d_Pc_drawRest_84 : decode qC_Pc_drawRest.1 84 = .ok (.istore 7, 2) := by decide +kernel
theorem d_Pc_drawRest_86 : decode qC_Pc_drawRest.1 86 = .ok (.aload_n 0, 1) := by decide +kernel
theorem d_Pc_drawRest_87 : decode qC_Pc_drawRest.1 87 = .ok (.aload_n 0, 1) := by decide +kernel
theorem d_Pc_drawRest_88 : decode qC_Pc_drawRest.1 88 = .ok (.getfield 48, 3) := by decide +kernel
theorem d_Pc_drawRest_91 : decode qC_Pc_drawRest.1 91 = .ok (.iload_n 1, 1) := by decide +kernel
theorem d_Pc_drawRest_92 : decode qC_Pc_drawRest.1 92 = .ok (.iconst 0, 1) := by decide +kernel
theorem d_Pc_drawRest_93 : decode qC_Pc_drawRest.1 93 = .ok (.invokevirtual 59, 3) := by decide +kernel
theorem d_Pc_drawRest_96 : decode qC_Pc_drawRest.1 96 = .ok (.iconst 0, 1) := by decide +kernel
theorem d_Pc_drawRest_97 : decode qC_Pc_drawRest.1 97 = .ok (.iload 4, 2) := by decide +kernel
theorem d_Pc_drawRest_99 : decode qC_Pc_drawRest.1 99 = .ok (.iload_n 2, 1) := by decide +kernel
theorem d_Pc_drawRest_100 : decode qC_Pc_drawRest.1 100 = .ok (.isub, 1) := by decide +kernel
theorem d_Pc_drawRest_101 : decode qC_Pc_drawRest.1 101 = .ok (.iload_n 3, 1) := by decide +kernel
theorem d_Pc_drawRest_102 : decode qC_Pc_drawRest.1 102 = .ok (.isub, 1) := by decide +kernel
theorem d_Pc_drawRest_103 : decode qC_Pc_drawRest.1 103 = .ok (.iload 7, 2) := by decide +kernel
theorem d_Pc_drawRest_105 : decode qC_Pc_drawRest.1 105 = .ok (.iload 5, 2) := by decide +kernel
theorem d_Pc_drawRest_107 : decode qC_Pc_drawRest.1 107 = .ok (.iload 6, 2) := by decide +kernel
theorem d_Pc_drawRest_109 : decode qC_Pc_drawRest.1 109 = .ok (.invokevirtual 111, 3) := by decide +kernel
theorem d_Pc_drawRest_112 : decode qC_Pc_drawRest.1 112 = .ok (.return_, 1) := by decide +kernel
set_option maxRecDepth 100000 in
def f_Pc_drawRest (σ : St) (o : Nat) (p1 : Int32) (p2 : Int32) : Option (St) :=
  Option.bind (f_Tb_get σ (rc o 3) p1 (15 : Int32)) fun x1 =>
  Option.bind (f_Tb_get σ (rc o 3) p1 (5 : Int32)) fun x2 =>
  Option.bind (f_Tb_get σ (rc o 3) p1 (1 : Int32)) fun x3 =>
  Option.bind (f_Tb_get σ (rc o 3) p1 (3 : Int32)) fun x4 =>
  Option.bind (f_Cm_before x3 x4 x1 x2) fun x5 =>
  Option.bind (f_Tb_get σ (rc o 3) p1 (2 : Int32)) fun x6 =>
  Option.bind (f_Tb_get σ (rc o 3) p1 (4 : Int32)) fun x7 =>
  Option.bind (f_Cm_before x6 x7 x1 x2) fun x8 =>
  Option.bind (f_Tb_get σ (rc o 3) p1 (6 : Int32)) fun x9 =>
  Option.bind (f_Tb_get σ (rc o 3) p1 (0 : Int32)) fun x10 =>
  Option.bind (f_Pc_addPiece σ o x10 (0 : Int32) ((x2 - p2) - x1) x9 x5 x8) fun x11 =>
  some x11
set_option maxHeartbeats 4000000 in
set_option maxRecDepth 100000 in
theorem cC_Pc_drawRest (l : Launch) (g : Ge) (hi : injB wC.2 g) (σ : St) (o : Nat) (ho : wC.2.2.1 o = .inr (2, 11)) (p1 : Int32) (p2 : Int32) (x : St) (h : f_Pc_drawRest σ o p1 p2 = some x) : Ct l wC g yC_Pc_drawRest qC_Pc_drawRest 2 49 [.ref (g.1 o), .int p1, .int p2] σ (none, x) := by
  refine Ct.of (out := o_v) FC_Pc_drawRest rfl hi rfl h (fun z hz C => ?_)
  clear h
  subst hz
  unfold f_Pc_drawRest
  show Rt z qC_Pc_drawRest wC g o_v 0 [(0, .ref (g.1 o)), (1, .int p1), (2, .int p2)] [] σ _
  refine q_aload_n (pc' := 1) C 0 d_Pc_drawRest_0 rfl rfl ?_
  refine gC_Pc_48 (pc' := 4) C o (rc o 3) ho (ly_2_3 ho).1 d_Pc_drawRest_1 rfl rfl ?_
  refine q_iload_n (pc' := 5) C 1 d_Pc_drawRest_4 rfl rfl ?_
  refine q_bipush (pc' := 7) C d_Pc_drawRest_5 kb_15 rfl ?_
  refine q_callVr (fr' := 0) (lo' := 0) (pc' := 10) C FC_Tb_get lmC_Pc_59 d_Pc_drawRest_7 (rc o 3) (jCo (ly_2_3 ho).2) (ly_2_3 ho).2 cC_8 [.int p1, .int (15 : Int32)] [] rfl rfl (Nat.le_of_ble_eq_true rfl) ⟨rfl, rfl⟩ (fun x h => cC_Tb_get _ g hi σ (rc o 3) (ly_2_3 ho).2 p1 (15 : Int32) x h) rfl (fun x1 hx1 => ?_)
  refine q_istore_n (pc' := 11) (lv' := [(3, .int x1), (0, .ref (g.1 o)), (1, .int p1), (2, .int p2)]) C d_Pc_drawRest_10 (by decide) rfl rfl ?_
  refine q_aload_n (pc' := 12) C 1 d_Pc_drawRest_11 rfl rfl ?_
  refine gC_Pc_48 (pc' := 15) C o (rc o 3) ho (ly_2_3 ho).1 d_Pc_drawRest_12 rfl rfl ?_
  refine q_iload_n (pc' := 16) C 2 d_Pc_drawRest_15 rfl rfl ?_
  refine q_iconst (pc' := 17) C d_Pc_drawRest_16 ki_5 rfl ?_
  refine q_callVr (fr' := 0) (lo' := 0) (pc' := 20) C FC_Tb_get lmC_Pc_59 d_Pc_drawRest_17 (rc o 3) (jCo (ly_2_3 ho).2) (ly_2_3 ho).2 cC_8 [.int p1, .int (5 : Int32)] [] rfl rfl (Nat.le_of_ble_eq_true rfl) ⟨rfl, rfl⟩ (fun x h => cC_Tb_get _ g hi σ (rc o 3) (ly_2_3 ho).2 p1 (5 : Int32) x h) rfl (fun x2 hx2 => ?_)
  refine q_istore (pc' := 22) (lv' := [(4, .int x2), (3, .int x1), (0, .ref (g.1 o)), (1, .int p1), (2, .int p2)]) C d_Pc_drawRest_20 (by decide) rfl rfl ?_
  refine q_aload_n (pc' := 23) C 2 d_Pc_drawRest_22 rfl rfl ?_
  refine gC_Pc_48 (pc' := 26) C o (rc o 3) ho (ly_2_3 ho).1 d_Pc_drawRest_23 rfl rfl ?_
  refine q_iload_n (pc' := 27) C 3 d_Pc_drawRest_26 rfl rfl ?_
  refine q_iconst (pc' := 28) C d_Pc_drawRest_27 ki_1 rfl ?_
  refine q_callVr (fr' := 0) (lo' := 0) (pc' := 31) C FC_Tb_get lmC_Pc_59 d_Pc_drawRest_28 (rc o 3) (jCo (ly_2_3 ho).2) (ly_2_3 ho).2 cC_8 [.int p1, .int (1 : Int32)] [] rfl rfl (Nat.le_of_ble_eq_true rfl) ⟨rfl, rfl⟩ (fun x h => cC_Tb_get _ g hi σ (rc o 3) (ly_2_3 ho).2 p1 (1 : Int32) x h) rfl (fun x3 hx3 => ?_)
  refine q_aload_n (pc' := 32) C 2 d_Pc_drawRest_31 rfl rfl ?_
  refine gC_Pc_48 (pc' := 35) C o (rc o 3) ho (ly_2_3 ho).1 d_Pc_drawRest_32 rfl rfl ?_
  refine q_iload_n (pc' := 36) C 3 d_Pc_drawRest_35 rfl rfl ?_
  refine q_iconst (pc' := 37) C d_Pc_drawRest_36 ki_3 rfl ?_
  refine q_callVr (fr' := 0) (lo' := 0) (pc' := 40) C FC_Tb_get lmC_Pc_59 d_Pc_drawRest_37 (rc o 3) (jCo (ly_2_3 ho).2) (ly_2_3 ho).2 cC_8 [.int p1, .int (3 : Int32)] [.int x3] rfl rfl (Nat.le_of_ble_eq_true rfl) ⟨rfl, rfl⟩ (fun x h => cC_Tb_get _ g hi σ (rc o 3) (ly_2_3 ho).2 p1 (3 : Int32) x h) rfl (fun x4 hx4 => ?_)
  refine q_iload_n (pc' := 41) C 1 d_Pc_drawRest_40 rfl rfl ?_
  refine q_iload (pc' := 43) C 0 d_Pc_drawRest_41 rfl rfl ?_
  refine q_callSr (fr' := 0) (lo' := 0) (pc' := 46) C FC_Cm_before lmC_Pc_115 d_Pc_drawRest_43 [.int x3, .int x4, .int x1, .int x2] [] rfl rfl (Nat.le_of_ble_eq_true rfl) ⟨rfl, rfl⟩ (fun x h => cC_Cm_before _ g hi σ x3 x4 x1 x2 x h) rfl (fun x5 hx5 => ?_)
  refine q_istore (pc' := 48) (lv' := [(5, .int x5), (4, .int x2), (3, .int x1), (0, .ref (g.1 o)), (1, .int p1), (2, .int p2)]) C d_Pc_drawRest_46 (by decide) rfl rfl ?_
  refine q_aload_n (pc' := 49) C 3 d_Pc_drawRest_48 rfl rfl ?_
  refine gC_Pc_48 (pc' := 52) C o (rc o 3) ho (ly_2_3 ho).1 d_Pc_drawRest_49 rfl rfl ?_
  refine q_iload_n (pc' := 53) C 4 d_Pc_drawRest_52 rfl rfl ?_
  refine q_iconst (pc' := 54) C d_Pc_drawRest_53 ki_2 rfl ?_
  refine q_callVr (fr' := 0) (lo' := 0) (pc' := 57) C FC_Tb_get lmC_Pc_59 d_Pc_drawRest_54 (rc o 3) (jCo (ly_2_3 ho).2) (ly_2_3 ho).2 cC_8 [.int p1, .int (2 : Int32)] [] rfl rfl (Nat.le_of_ble_eq_true rfl) ⟨rfl, rfl⟩ (fun x h => cC_Tb_get _ g hi σ (rc o 3) (ly_2_3 ho).2 p1 (2 : Int32) x h) rfl (fun x6 hx6 => ?_)
  refine q_aload_n (pc' := 58) C 3 d_Pc_drawRest_57 rfl rfl ?_
  refine gC_Pc_48 (pc' := 61) C o (rc o 3) ho (ly_2_3 ho).1 d_Pc_drawRest_58 rfl rfl ?_
  refine q_iload_n (pc' := 62) C 4 d_Pc_drawRest_61 rfl rfl ?_
  refine q_iconst (pc' := 63) C d_Pc_drawRest_62 ki_4 rfl ?_
  refine q_callVr (fr' := 0) (lo' := 0) (pc' := 66) C FC_Tb_get lmC_Pc_59 d_Pc_drawRest_63 (rc o 3) (jCo (ly_2_3 ho).2) (ly_2_3 ho).2 cC_8 [.int p1, .int (4 : Int32)] [.int x6] rfl rfl (Nat.le_of_ble_eq_true rfl) ⟨rfl, rfl⟩ (fun x h => cC_Tb_get _ g hi σ (rc o 3) (ly_2_3 ho).2 p1 (4 : Int32) x h) rfl (fun x7 hx7 => ?_)
  refine q_iload_n (pc' := 67) C 2 d_Pc_drawRest_66 rfl rfl ?_
  refine q_iload (pc' := 69) C 1 d_Pc_drawRest_67 rfl rfl ?_
  refine q_callSr (fr' := 0) (lo' := 0) (pc' := 72) C FC_Cm_before lmC_Pc_115 d_Pc_drawRest_69 [.int x6, .int x7, .int x1, .int x2] [] rfl rfl (Nat.le_of_ble_eq_true rfl) ⟨rfl, rfl⟩ (fun x h => cC_Cm_before _ g hi σ x6 x7 x1 x2 x h) rfl (fun x8 hx8 => ?_)
  refine q_istore (pc' := 74) (lv' := [(6, .int x8), (5, .int x5), (4, .int x2), (3, .int x1), (0, .ref (g.1 o)), (1, .int p1), (2, .int p2)]) C d_Pc_drawRest_72 (by decide) rfl rfl ?_
  refine q_aload_n (pc' := 75) C 4 d_Pc_drawRest_74 rfl rfl ?_
  refine gC_Pc_48 (pc' := 78) C o (rc o 3) ho (ly_2_3 ho).1 d_Pc_drawRest_75 rfl rfl ?_
  refine q_iload_n (pc' := 79) C 5 d_Pc_drawRest_78 rfl rfl ?_
  refine q_bipush (pc' := 81) C d_Pc_drawRest_79 kb_6 rfl ?_
  refine q_callVr (fr' := 0) (lo' := 0) (pc' := 84) C FC_Tb_get lmC_Pc_59 d_Pc_drawRest_81 (rc o 3) (jCo (ly_2_3 ho).2) (ly_2_3 ho).2 cC_8 [.int p1, .int (6 : Int32)] [] rfl rfl (Nat.le_of_ble_eq_true rfl) ⟨rfl, rfl⟩ (fun x h => cC_Tb_get _ g hi σ (rc o 3) (ly_2_3 ho).2 p1 (6 : Int32) x h) rfl (fun x9 hx9 => ?_)
  refine q_istore (pc' := 86) (lv' := [(7, .int x9), (6, .int x8), (5, .int x5), (4, .int x2), (3, .int x1), (0, .ref (g.1 o)), (1, .int p1), (2, .int p2)]) C d_Pc_drawRest_84 (by decide) rfl rfl ?_
  refine q_aload_n (pc' := 87) C 5 d_Pc_drawRest_86 rfl rfl ?_
  refine q_aload_n (pc' := 88) C 5 d_Pc_drawRest_87 rfl rfl ?_
  refine gC_Pc_48 (pc' := 91) C o (rc o 3) ho (ly_2_3 ho).1 d_Pc_drawRest_88 rfl rfl ?_
  refine q_iload_n (pc' := 92) C 6 d_Pc_drawRest_91 rfl rfl ?_
  refine q_iconst (pc' := 93) C d_Pc_drawRest_92 ki_0 rfl ?_
  refine q_callVr (fr' := 0) (lo' := 0) (pc' := 96) C FC_Tb_get lmC_Pc_59 d_Pc_drawRest_93 (rc o 3) (jCo (ly_2_3 ho).2) (ly_2_3 ho).2 cC_8 [.int p1, .int (0 : Int32)] [.ref (g.1 o)] rfl rfl (Nat.le_of_ble_eq_true rfl) ⟨rfl, rfl⟩ (fun x h => cC_Tb_get _ g hi σ (rc o 3) (ly_2_3 ho).2 p1 (0 : Int32) x h) rfl (fun x10 hx10 => ?_)
  refine q_iconst (pc' := 97) C d_Pc_drawRest_96 ki_0 rfl ?_
  refine q_iload (pc' := 99) C 3 d_Pc_drawRest_97 rfl rfl ?_
  refine q_iload_n (pc' := 100) C 7 d_Pc_drawRest_99 rfl rfl ?_
  refine q_isub (pc' := 101) C d_Pc_drawRest_100 rfl ?_
  refine q_iload_n (pc' := 102) C 4 d_Pc_drawRest_101 rfl rfl ?_
  refine q_isub (pc' := 103) C d_Pc_drawRest_102 rfl ?_
  refine q_iload (pc' := 105) C 0 d_Pc_drawRest_103 rfl rfl ?_
  refine q_iload (pc' := 107) C 2 d_Pc_drawRest_105 rfl rfl ?_
  refine q_iload (pc' := 109) C 1 d_Pc_drawRest_107 rfl rfl ?_
  refine q_callVv (fr' := 1) (lo' := 23) (pc' := 112) C FC_Pc_addPiece lmC_Pc_111 d_Pc_drawRest_109 o (jCo ho) ho cC_2 [.int x10, .int (0 : Int32), .int ((x2 - p2) - x1), .int x9, .int x5, .int x8] [] rfl rfl (Nat.le_of_ble_eq_true rfl) ⟨rfl, rfl⟩ (fun x h => cC_Pc_addPiece _ g hi σ o ho x10 (0 : Int32) ((x2 - p2) - x1) x9 x5 x8 x h) rfl (fun x11 hx11 => ?_)
  exact q_vret C rfl d_Pc_drawRest_112 rfl
theorem d_Pc_drawRegaining_0 : decode qC_Pc_drawRegaining.1 0 = .ok (.aload_n 0, 1) := by decide +kernel
theorem d_Pc_drawRegaining_1 : decode qC_Pc_drawRegaining.1 1 = .ok (.iload_n 1, 1) := by decide +kernel
theorem d_Pc_drawRegaining_2 : decode qC_Pc_drawRegaining.1 2 = .ok (.invokevirtual 131, 3) := by decide +kernel
theorem d_Pc_drawRegaining_5 : decode qC_Pc_drawRegaining.1 5 = .ok (.istore_n 2, 1) := by decide +kernel
theorem d_Pc_drawRegaining_6 : decode qC_Pc_drawRegaining.1 6 = .ok (.aload_n 0, 1) := by decide +kernel
theorem d_Pc_drawRegaining_7 : decode qC_Pc_drawRegaining.1 7 = .ok (.iload_n 1, 1) := by decide +kernel
theorem d_Pc_drawRegaining_8 : decode qC_Pc_drawRegaining.1 8 = .ok (.iload_n 2, 1) := by decide +kernel
theorem d_Pc_drawRegaining_9 : decode qC_Pc_drawRegaining.1 9 = .ok (.invokevirtual 79, 3) := by decide +kernel
theorem d_Pc_drawRegaining_12 : decode qC_Pc_drawRegaining.1 12 = .ok (.istore_n 3, 1) := by decide +kernel
theorem d_Pc_drawRegaining_13 : decode qC_Pc_drawRegaining.1 13 = .ok (.aload_n 0, 1) := by decide +kernel
theorem d_Pc_drawRegaining_14 : decode qC_Pc_drawRegaining.1 14 = .ok (.iload_n 1, 1) := by decide +kernel
theorem d_Pc_drawRegaining_15 : decode qC_Pc_drawRegaining.1 15 = .ok (.iload_n 2, 1) := by decide +kernel
theorem d_Pc_drawRegaining_16 : decode qC_Pc_drawRegaining.1 16 = .ok (.invokevirtual 82, 3) := by decide +kernel
theorem d_Pc_drawRegaining_19 : decode qC_Pc_drawRegaining.1 19 = .ok (.istore 4, 2) := by decide +kernel
theorem d_Pc_drawRegaining_21 : decode qC_Pc_drawRegaining.1 21 = .ok (.aload_n 0, 1) := by decide +kernel
theorem d_Pc_drawRegaining_22 : decode qC_Pc_drawRegaining.1 22 = .ok (.getfield 24, 3) := by decide +kernel
theorem d_Pc_drawRegaining_25 : decode qC_Pc_drawRegaining.1 25 = .ok (.aload_n 0, 1) := by decide +kernel
theorem d_Pc_drawRegaining_26 : decode qC_Pc_drawRegaining.1 26 = .ok (.getfield 27, 3) := by decide +kernel
theorem d_Pc_drawRegaining_29 : decode qC_Pc_drawRegaining.1 29 = .ok (.iload_n 3, 1) := by decide +kernel
theorem d_Pc_drawRegaining_30 : decode qC_Pc_drawRegaining.1 30 = .ok (.iload 4, 2) := by decide +kernel
theorem d_Pc_drawRegaining_32 : decode qC_Pc_drawRegaining.1 32 = .ok (.invokestatic 125, 3) := by decide +kernel
theorem d_Pc_drawRegaining_35 : decode qC_Pc_drawRegaining.1 35 = .ok (.istore 5, 2) := by decide +kernel
theorem d_Pc_drawRegaining_37 : decode qC_Pc_drawRegaining.1 37 = .ok (.aload_n 0, 1) := by decide +kernel
theorem d_Pc_drawRegaining_38 : decode qC_Pc_drawRegaining.1 38 = .ok (.getfield 24, 3) := by decide +kernel
theorem d_Pc_drawRegaining_41 : decode qC_Pc_drawRegaining.1 41 = .ok (.aload_n 0, 1) := by decide +kernel
theorem d_Pc_drawRegaining_42 : decode qC_Pc_drawRegaining.1 42 = .ok (.getfield 27, 3) := by decide +kernel
theorem d_Pc_drawRegaining_45 : decode qC_Pc_drawRegaining.1 45 = .ok (.iload_n 3, 1) := by decide +kernel
theorem d_Pc_drawRegaining_46 : decode qC_Pc_drawRegaining.1 46 = .ok (.iload 4, 2) := by decide +kernel
theorem d_Pc_drawRegaining_48 : decode qC_Pc_drawRegaining.1 48 = .ok (.invokestatic 128, 3) := by decide +kernel
theorem d_Pc_drawRegaining_51 : decode qC_Pc_drawRegaining.1 51 = .ok (.istore 6, 2) := by decide +kernel
theorem d_Pc_drawRegaining_53 : decode qC_Pc_drawRegaining.1 53 = .ok (.aload_n 0, 1) := by decide +kernel
theorem d_Pc_drawRegaining_54 : decode qC_Pc_drawRegaining.1 54 = .ok (.aload_n 0, 1) := by decide +kernel
theorem d_Pc_drawRegaining_55 : decode qC_Pc_drawRegaining.1 55 = .ok (.getfield 48, 3) := by decide +kernel
theorem d_Pc_drawRegaining_58 : decode qC_Pc_drawRegaining.1 58 = .ok (.iload_n 1, 1) := by decide +kernel
theorem d_Pc_drawRegaining_59 : decode qC_Pc_drawRegaining.1 59 = .ok (.iconst 0, 1) := by decide +kernel
theorem d_Pc_drawRegaining_60 : decode qC_Pc_drawRegaining.1 60 = .ok (.invokevirtual 59, 3) := by decide +kernel
theorem d_Pc_drawRegaining_63 : decode qC_Pc_drawRegaining.1 63 = .ok (.iconst 0, 1) := by decide +kernel
theorem d_Pc_drawRegaining_64 : decode qC_Pc_drawRegaining.1 64 = .ok (.iload 5, 2) := by decide +kernel
theorem d_Pc_drawRegaining_66 : decode qC_Pc_drawRegaining.1 66 = .ok (.iload 6, 2) := by decide +kernel
theorem d_Pc_drawRegaining_68 : decode qC_Pc_drawRegaining.1 68 = .ok (.iload_n 3, 1) := by decide +kernel
theorem d_Pc_drawRegaining_69 : decode qC_Pc_drawRegaining.1 69 = .ok (.iload 4, 2) := by decide +kernel
theorem d_Pc_drawRegaining_71 : decode qC_Pc_drawRegaining.1 71 = .ok (.invokevirtual 111, 3) := by decide +kernel
theorem d_Pc_drawRegaining_74 : decode qC_Pc_drawRegaining.1 74 = .ok (.aload_n 0, 1) := by decide +kernel
theorem d_Pc_drawRegaining_75 : decode qC_Pc_drawRegaining.1 75 = .ok (.iload_n 1, 1) := by decide +kernel
theorem d_Pc_drawRegaining_76 : decode qC_Pc_drawRegaining.1 76 = .ok (.iload_n 2, 1) := by decide +kernel
theorem d_Pc_drawRegaining_77 : decode qC_Pc_drawRegaining.1 77 = .ok (.invokevirtual 89, 3) := by decide +kernel
theorem d_Pc_drawRegaining_80 : decode qC_Pc_drawRegaining.1 80 = .ok (.return_, 1) := by decide +kernel
set_option maxRecDepth 100000 in
def f_Pc_drawRegaining (σ : St) (o : Nat) (p1 : Int32) : Option (St) :=
  Option.bind (f_Pc_lengthToRegain σ o p1) fun x1 =>
  Option.bind (f_Pc_onSegmentX σ o p1 x1) fun x2 =>
  Option.bind (f_Pc_onSegmentY σ o p1 x1) fun x3 =>
  Option.bind (f_Cm_distance (σ o 9) (σ o 10) x2 x3) fun x4 =>
  Option.bind (f_Cm_courseBetween σ (σ o 9) (σ o 10) x2 x3) fun x5 =>
  Option.bind (f_Tb_get σ (rc o 3) p1 (0 : Int32)) fun x6 =>
  Option.bind (f_Pc_addPiece σ o x6 (0 : Int32) x4 x5 x2 x3) fun x7 =>
  Option.bind (f_Pc_drawRest x7 o p1 x1) fun x8 =>
  some x8
set_option maxHeartbeats 4000000 in
set_option maxRecDepth 100000 in
theorem cC_Pc_drawRegaining (l : Launch) (g : Ge) (hi : injB wC.2 g) (σ : St) (o : Nat) (ho : wC.2.2.1 o = .inr (2, 11)) (p1 : Int32) (x : St) (h : f_Pc_drawRegaining σ o p1 = some x) : Ct l wC g yC_Pc_drawRegaining qC_Pc_drawRegaining 3 76 [.ref (g.1 o), .int p1] σ (none, x) := by
  refine Ct.of (out := o_v) FC_Pc_drawRegaining rfl hi rfl h (fun z hz C => ?_)
  clear h
  subst hz
  unfold f_Pc_drawRegaining
  show Rt z qC_Pc_drawRegaining wC g o_v 0 [(0, .ref (g.1 o)), (1, .int p1)] [] σ _
  refine q_aload_n (pc' := 1) C 0 d_Pc_drawRegaining_0 rfl rfl ?_
  refine q_iload_n (pc' := 2) C 1 d_Pc_drawRegaining_1 rfl rfl ?_
  refine q_callVr (fr' := 1) (lo' := 22) (pc' := 5) C FC_Pc_lengthToRegain lmC_Pc_131 d_Pc_drawRegaining_2 o (jCo ho) ho cC_2 [.int p1] [] rfl rfl (Nat.le_of_ble_eq_true rfl) ⟨rfl, rfl⟩ (fun x h => cC_Pc_lengthToRegain _ g hi σ o ho p1 x h) rfl (fun x1 hx1 => ?_)
  refine q_istore_n (pc' := 6) (lv' := [(2, .int x1), (0, .ref (g.1 o)), (1, .int p1)]) C d_Pc_drawRegaining_5 (by decide) rfl rfl ?_
  refine q_aload_n (pc' := 7) C 1 d_Pc_drawRegaining_6 rfl rfl ?_
  refine q_iload_n (pc' := 8) C 2 d_Pc_drawRegaining_7 rfl rfl ?_
  refine q_iload_n (pc' := 9) C 0 d_Pc_drawRegaining_8 rfl rfl ?_
  refine q_callVr (fr' := 1) (lo' := 23) (pc' := 12) C FC_Pc_onSegmentX lmC_Pc_79 d_Pc_drawRegaining_9 o (jCo ho) ho cC_2 [.int p1, .int x1] [] rfl rfl (Nat.le_of_ble_eq_true rfl) ⟨rfl, rfl⟩ (fun x h => cC_Pc_onSegmentX _ g hi σ o ho p1 x1 x h) rfl (fun x2 hx2 => ?_)
  refine q_istore_n (pc' := 13) (lv' := [(3, .int x2), (2, .int x1), (0, .ref (g.1 o)), (1, .int p1)]) C d_Pc_drawRegaining_12 (by decide) rfl rfl ?_
  refine q_aload_n (pc' := 14) C 2 d_Pc_drawRegaining_13 rfl rfl ?_
  refine q_iload_n (pc' := 15) C 3 d_Pc_drawRegaining_14 rfl rfl ?_
  refine q_iload_n (pc' := 16) C 1 d_Pc_drawRegaining_15 rfl rfl ?_
  refine q_callVr (fr' := 1) (lo' := 23) (pc' := 19) C FC_Pc_onSegmentY lmC_Pc_82 d_Pc_drawRegaining_16 o (jCo ho) ho cC_2 [.int p1, .int x1] [] rfl rfl (Nat.le_of_ble_eq_true rfl) ⟨rfl, rfl⟩ (fun x h => cC_Pc_onSegmentY _ g hi σ o ho p1 x1 x h) rfl (fun x3 hx3 => ?_)
  refine q_istore (pc' := 21) (lv' := [(4, .int x3), (3, .int x2), (2, .int x1), (0, .ref (g.1 o)), (1, .int p1)]) C d_Pc_drawRegaining_19 (by decide) rfl rfl ?_
  refine q_aload_n (pc' := 22) C 3 d_Pc_drawRegaining_21 rfl rfl ?_
  refine gC_Pc_24 (pc' := 25) C o ho d_Pc_drawRegaining_22 rfl rfl ?_
  refine q_aload_n (pc' := 26) C 3 d_Pc_drawRegaining_25 rfl rfl ?_
  refine gC_Pc_27 (pc' := 29) C o ho d_Pc_drawRegaining_26 rfl rfl ?_
  refine q_iload_n (pc' := 30) C 1 d_Pc_drawRegaining_29 rfl rfl ?_
  refine q_iload (pc' := 32) C 0 d_Pc_drawRegaining_30 rfl rfl ?_
  refine q_callSr (fr' := 1) (lo' := 27) (pc' := 35) C FC_Cm_distance lmC_Pc_125 d_Pc_drawRegaining_32 [.int (σ o 9), .int (σ o 10), .int x2, .int x3] [] rfl rfl (Nat.le_of_ble_eq_true rfl) ⟨rfl, rfl⟩ (fun x h => cC_Cm_distance _ g hi σ (σ o 9) (σ o 10) x2 x3 x h) rfl (fun x4 hx4 => ?_)
  refine q_istore (pc' := 37) (lv' := [(5, .int x4), (4, .int x3), (3, .int x2), (2, .int x1), (0, .ref (g.1 o)), (1, .int p1)]) C d_Pc_drawRegaining_35 (by decide) rfl rfl ?_
  refine q_aload_n (pc' := 38) C 4 d_Pc_drawRegaining_37 rfl rfl ?_
  refine gC_Pc_24 (pc' := 41) C o ho d_Pc_drawRegaining_38 rfl rfl ?_
  refine q_aload_n (pc' := 42) C 4 d_Pc_drawRegaining_41 rfl rfl ?_
  refine gC_Pc_27 (pc' := 45) C o ho d_Pc_drawRegaining_42 rfl rfl ?_
  refine q_iload_n (pc' := 46) C 2 d_Pc_drawRegaining_45 rfl rfl ?_
  refine q_iload (pc' := 48) C 1 d_Pc_drawRegaining_46 rfl rfl ?_
  refine q_callSr (fr' := 1) (lo' := 20) (pc' := 51) C FC_Cm_courseBetween lmC_Pc_128 d_Pc_drawRegaining_48 [.int (σ o 9), .int (σ o 10), .int x2, .int x3] [] rfl rfl (Nat.le_of_ble_eq_true rfl) ⟨rfl, rfl⟩ (fun x h => cC_Cm_courseBetween _ g hi σ (σ o 9) (σ o 10) x2 x3 x h) rfl (fun x5 hx5 => ?_)
  refine q_istore (pc' := 53) (lv' := [(6, .int x5), (5, .int x4), (4, .int x3), (3, .int x2), (2, .int x1), (0, .ref (g.1 o)), (1, .int p1)]) C d_Pc_drawRegaining_51 (by decide) rfl rfl ?_
  refine q_aload_n (pc' := 54) C 5 d_Pc_drawRegaining_53 rfl rfl ?_
  refine q_aload_n (pc' := 55) C 5 d_Pc_drawRegaining_54 rfl rfl ?_
  refine gC_Pc_48 (pc' := 58) C o (rc o 3) ho (ly_2_3 ho).1 d_Pc_drawRegaining_55 rfl rfl ?_
  refine q_iload_n (pc' := 59) C 6 d_Pc_drawRegaining_58 rfl rfl ?_
  refine q_iconst (pc' := 60) C d_Pc_drawRegaining_59 ki_0 rfl ?_
  refine q_callVr (fr' := 0) (lo' := 0) (pc' := 63) C FC_Tb_get lmC_Pc_59 d_Pc_drawRegaining_60 (rc o 3) (jCo (ly_2_3 ho).2) (ly_2_3 ho).2 cC_8 [.int p1, .int (0 : Int32)] [.ref (g.1 o)] rfl rfl (Nat.le_of_ble_eq_true rfl) ⟨rfl, rfl⟩ (fun x h => cC_Tb_get _ g hi σ (rc o 3) (ly_2_3 ho).2 p1 (0 : Int32) x h) rfl (fun x6 hx6 => ?_)
  refine q_iconst (pc' := 64) C d_Pc_drawRegaining_63 ki_0 rfl ?_
  refine q_iload (pc' := 66) C 1 d_Pc_drawRegaining_64 rfl rfl ?_
  refine q_iload (pc' := 68) C 0 d_Pc_drawRegaining_66 rfl rfl ?_
  refine q_iload_n (pc' := 69) C 3 d_Pc_drawRegaining_68 rfl rfl ?_
  refine q_iload (pc' := 71) C 2 d_Pc_drawRegaining_69 rfl rfl ?_
  refine q_callVv (fr' := 1) (lo' := 23) (pc' := 74) C FC_Pc_addPiece lmC_Pc_111 d_Pc_drawRegaining_71 o (jCo ho) ho cC_2 [.int x6, .int (0 : Int32), .int x4, .int x5, .int x2, .int x3] [] rfl rfl (Nat.le_of_ble_eq_true rfl) ⟨rfl, rfl⟩ (fun x h => cC_Pc_addPiece _ g hi σ o ho x6 (0 : Int32) x4 x5 x2 x3 x h) rfl (fun x7 hx7 => ?_)
  refine q_aload_n (pc' := 75) C 5 d_Pc_drawRegaining_74 rfl rfl ?_
  refine q_iload_n (pc' := 76) C 6 d_Pc_drawRegaining_75 rfl rfl ?_
  refine q_iload_n (pc' := 77) C 4 d_Pc_drawRegaining_76 rfl rfl ?_
  refine q_callVv (fr' := 2) (lo' := 49) (pc' := 80) C FC_Pc_drawRest lmC_Pc_89 d_Pc_drawRegaining_77 o (jCo ho) ho cC_2 [.int p1, .int x1] [] rfl rfl (Nat.le_of_ble_eq_true rfl) ⟨rfl, rfl⟩ (fun x h => cC_Pc_drawRest _ g hi x7 o ho p1 x1 x h) rfl (fun x8 hx8 => ?_)
  exact q_vret C rfl d_Pc_drawRegaining_80 rfl
theorem d_Pc_drawSegment_0 : decode qC_Pc_drawSegment.1 0 = .ok (.aload_n 0, 1) := by decide +kernel
theorem d_Pc_drawSegment_1 : decode qC_Pc_drawSegment.1 1 = .ok (.getfield 48, 3) := by decide +kernel
theorem d_Pc_drawSegment_4 : decode qC_Pc_drawSegment.1 4 = .ok (.iload_n 1, 1) := by decide +kernel
theorem d_Pc_drawSegment_5 : decode qC_Pc_drawSegment.1 5 = .ok (.bipush 11, 2) := by decide +kernel
theorem d_Pc_drawSegment_7 : decode qC_Pc_drawSegment.1 7 = .ok (.invokevirtual 59, 3) := by decide +kernel
theorem d_Pc_drawSegment_10 : decode qC_Pc_drawSegment.1 10 = .ok (.istore_n 2, 1) := by decide +kernel
theorem d_Pc_drawSegment_11 : decode qC_Pc_drawSegment.1 11 = .ok (.iload_n 2, 1) := by decide +kernel
theorem d_Pc_drawSegment_12 : decode qC_Pc_drawSegment.1 12 = .ok (.iconst 2, 1) := by decide +kernel
theorem d_Pc_drawSegment_13 : decode qC_Pc_drawSegment.1 13 = .ok (.if_icmp .ne 50, 3) := by decide +kernel
theorem d_Pc_drawSegment_16 : decode qC_Pc_drawSegment.1 16 = .ok (.aload_n 0, 1) := by decide +kernel
theorem d_Pc_drawSegment_17 : decode qC_Pc_drawSegment.1 17 = .ok (.iload_n 1, 1) := by decide +kernel
theorem d_Pc_drawSegment_18 : decode qC_Pc_drawSegment.1 18 = .ok (.invokevirtual 63, 3) := by decide +kernel
theorem d_Pc_drawSegment_21 : decode qC_Pc_drawSegment.1 21 = .ok (.aload_n 0, 1) := by decide +kernel
theorem d_Pc_drawSegment_22 : decode qC_Pc_drawSegment.1 22 = .ok (.getfield 30, 3) := by decide +kernel
theorem d_Pc_drawSegment_25 : decode qC_Pc_drawSegment.1 25 = .ok (.aload_n 0, 1) := by decide +kernel
theorem d_Pc_drawSegment_26 : decode qC_Pc_drawSegment.1 26 = .ok (.getfield 48, 3) := by decide +kernel
theorem d_Pc_drawSegment_29 : decode qC_Pc_drawSegment.1 29 = .ok (.iload_n 1, 1) := by decide +kernel
theorem d_Pc_drawSegment_30 : decode qC_Pc_drawSegment.1 30 = .ok (.iconst 0, 1) := by decide +kernel
theorem d_Pc_drawSegment_31 : decode qC_Pc_drawSegment.1 31 = .ok (.invokevirtual 59, 3) := by decide +kernel
theorem d_Pc_drawSegment_34 : decode qC_Pc_drawSegment.1 34 = .ok (.invokevirtual 67, 3) := by decide +kernel
theorem d_Pc_drawSegment_37 : decode qC_Pc_drawSegment.1 37 = .ok (.istore_n 3, 1) := by decide +kernel
theorem d_Pc_drawSegment_38 : decode qC_Pc_drawSegment.1 38 = .ok (.iload_n 3, 1) := by decide +kernel
theorem d_Pc_drawSegment_39 : decode qC_Pc_drawSegment.1 39 = .ok (.iconst 2, 1) := by decide +kernel
theorem d_Pc_drawSegment_40 : decode qC_Pc_drawSegment.1 40 = .ok (.if_icmp .eq 9, 3) := by decide +kernel
theorem d_Pc_drawSegment_43 : decode qC_Pc_drawSegment.1 43 = .ok (.iload_n 3, 1) := by decide +kernel
theorem d_Pc_drawSegment_44 : decode qC_Pc_drawSegment.1 44 = .ok (.bipush 7, 2) := by decide +kernel
theorem d_Pc_drawSegment_46 : decode qC_Pc_drawSegment.1 46 = .ok (.if_icmp .ne 11, 3) := by decide +kernel
theorem d_Pc_drawSegment_49 : decode qC_Pc_drawSegment.1 49 = .ok (.aload_n 0, 1) := by decide +kernel
theorem d_Pc_drawSegment_50 : decode qC_Pc_drawSegment.1 50 = .ok (.iload_n 1, 1) := by decide +kernel
theorem d_Pc_drawSegment_51 : decode qC_Pc_drawSegment.1 51 = .ok (.invokevirtual 73, 3) := by decide +kernel
theorem d_Pc_drawSegment_54 : decode qC_Pc_drawSegment.1 54 = .ok (.goto 8, 3) := by decide +kernel
theorem d_Pc_drawSegment_57 : decode qC_Pc_drawSegment.1 57 = .ok (.aload_n 0, 1) := by decide +kernel
theorem d_Pc_drawSegment_58 : decode qC_Pc_drawSegment.1 58 = .ok (.iload_n 1, 1) := by decide +kernel
theorem d_Pc_drawSegment_59 : decode qC_Pc_drawSegment.1 59 = .ok (.invokevirtual 76, 3) := by decide +kernel
theorem d_Pc_drawSegment_62 : decode qC_Pc_drawSegment.1 62 = .ok (.return_, 1) := by decide +kernel
theorem d_Pc_drawSegment_63 : decode qC_Pc_drawSegment.1 63 = .ok (.aload_n 0, 1) := by decide +kernel
theorem d_Pc_drawSegment_64 : decode qC_Pc_drawSegment.1 64 = .ok (.getfield 48, 3) := by decide +kernel
theorem d_Pc_drawSegment_67 : decode qC_Pc_drawSegment.1 67 = .ok (.iload_n 1, 1) := by decide +kernel
theorem d_Pc_drawSegment_68 : decode qC_Pc_drawSegment.1 68 = .ok (.bipush 14, 2) := by decide +kernel
theorem d_Pc_drawSegment_70 : decode qC_Pc_drawSegment.1 70 = .ok (.invokevirtual 59, 3) := by decide +kernel
theorem d_Pc_drawSegment_73 : decode qC_Pc_drawSegment.1 73 = .ok (.istore_n 3, 1) := by decide +kernel
theorem d_Pc_drawSegment_74 : decode qC_Pc_drawSegment.1 74 = .ok (.iload_n 2, 1) := by decide +kernel
theorem d_Pc_drawSegment_75 : decode qC_Pc_drawSegment.1 75 = .ok (.iconst 1, 1) := by decide +kernel
theorem d_Pc_drawSegment_76 : decode qC_Pc_drawSegment.1 76 = .ok (.if_icmp .ne 20, 3) := by decide +kernel
theorem d_Pc_drawSegment_79 : decode qC_Pc_drawSegment.1 79 = .ok (.aload_n 0, 1) := by decide +kernel
theorem d_Pc_drawSegment_80 : decode qC_Pc_drawSegment.1 80 = .ok (.iload_n 1, 1) := by decide +kernel
theorem d_Pc_drawSegment_81 : decode qC_Pc_drawSegment.1 81 = .ok (.aload_n 0, 1) := by decide +kernel
theorem d_Pc_drawSegment_82 : decode qC_Pc_drawSegment.1 82 = .ok (.iload_n 1, 1) := by decide +kernel
theorem d_Pc_drawSegment_83 : decode qC_Pc_drawSegment.1 83 = .ok (.iload_n 3, 1) := by decide +kernel
theorem d_Pc_drawSegment_84 : decode qC_Pc_drawSegment.1 84 = .ok (.invokevirtual 79, 3) := by decide +kernel
theorem d_Pc_drawSegment_87 : decode qC_Pc_drawSegment.1 87 = .ok (.aload_n 0, 1) := by decide +kernel
theorem d_Pc_drawSegment_88 : decode qC_Pc_drawSegment.1 88 = .ok (.iload_n 1, 1) := by decide +kernel
theorem d_Pc_drawSegment_89 : decode qC_Pc_drawSegment.1 89 = .ok (.iload_n 3, 1) := by decide +kernel
theorem d_Pc_drawSegment_90 : decode qC_Pc_drawSegment.1 90 = .ok (.invokevirtual 82, 3) := by decide +kernel
theorem d_Pc_drawSegment_93 : decode qC_Pc_drawSegment.1 93 = .ok (.invokevirtual 85, 3) := by decide +kernel
theorem d_Pc_drawSegment_96 : decode qC_Pc_drawSegment.1 96 = .ok (.aload_n 0, 1) := by decide +kernel
theorem d_Pc_drawSegment_97 : decode qC_Pc_drawSegment.1 97 = .ok (.iload_n 1, 1) := by decide +kernel
theorem d_Pc_drawSegment_98 : decode qC_Pc_drawSegment.1 98 = .ok (.iload_n 3, 1) := by decide +kernel
theorem d_Pc_drawSegment_99 : decode qC_Pc_drawSegment.1 99 = .ok (.invokevirtual 89, 3) := by decide +kernel
theorem d_Pc_drawSegment_102 : decode qC_Pc_drawSegment.1 102 = .ok (.return_, 1) := by decide +kernel
set_option maxRecDepth 100000 in
def f_Pc_drawSegment (σ : St) (o : Nat) (p1 : Int32) : Option (St) :=
  Option.bind (f_Tb_get σ (rc o 3) p1 (11 : Int32)) fun x1 =>
  if (x1 : Int32) = (2 : Int32) then (
  Option.bind (f_Pc_drawArcOver σ o p1) fun x9 =>
  Option.bind (f_Tb_get x9 (rc o 3) p1 (0 : Int32)) fun x10 =>
  Option.bind (f_Pl_kind x9 (rc o 0) x10) fun x11 =>
  Jn (fun (σ12 : St) =>
  some σ12
  ) fun J13 =>
  Jn (fun (_ : Unit) =>
  Option.bind (f_Pc_drawDirect x9 o p1) fun x15 =>
  J13 x15
  ) fun J14 =>
  if (x11 : Int32) = (2 : Int32) then (
  J14 ()
  ) else (
  if (x11 : Int32) = (7 : Int32) then (
  J14 ()
  ) else (
  Option.bind (f_Pc_drawRegaining x9 o p1) fun x16 =>
  J13 x16
  )
  )
  ) else (
  Option.bind (f_Tb_get σ (rc o 3) p1 (14 : Int32)) fun x2 =>
  Jn (fun (σ3 : St) =>
  Option.bind (f_Pc_drawRest σ3 o p1 x2) fun x5 =>
  some x5
  ) fun J4 =>
  if (x1 : Int32) = (1 : Int32) then (
  Option.bind (f_Pc_onSegmentX σ o p1 x2) fun x6 =>
  Option.bind (f_Pc_onSegmentY σ o p1 x2) fun x7 =>
  Option.bind (f_Pc_drawArc σ o p1 x6 x7) fun x8 =>
  J4 x8
  ) else (
  J4 σ
  )
  )
set_option maxHeartbeats 4000000 in
set_option maxRecDepth 100000 in
theorem cC_Pc_drawSegment (l : Launch) (g : Ge) (hi : injB wC.2 g) (σ : St) (o : Nat) (ho : wC.2.2.1 o = .inr (2, 11)) (p1 : Int32) (x : St) (h : f_Pc_drawSegment σ o p1 = some x) : Ct l wC g yC_Pc_drawSegment qC_Pc_drawSegment 4 102 [.ref (g.1 o), .int p1] σ (none, x) := by
  refine Ct.of (out := o_v) FC_Pc_drawSegment rfl hi rfl h (fun z hz C => ?_)
  clear h
  subst hz
  unfold f_Pc_drawSegment
  show Rt z qC_Pc_drawSegment wC g o_v 0 [(0, .ref (g.1 o)), (1, .int p1)] [] σ _
  refine q_aload_n (pc' := 1) C 0 d_Pc_drawSegment_0 rfl rfl ?_
  refine gC_Pc_48 (pc' := 4) C o (rc o 3) ho (ly_2_3 ho).1 d_Pc_drawSegment_1 rfl rfl ?_
  refine q_iload_n (pc' := 5) C 1 d_Pc_drawSegment_4 rfl rfl ?_
  refine q_bipush (pc' := 7) C d_Pc_drawSegment_5 kb_11 rfl ?_
  refine q_callVr (fr' := 0) (lo' := 0) (pc' := 10) C FC_Tb_get lmC_Pc_59 d_Pc_drawSegment_7 (rc o 3) (jCo (ly_2_3 ho).2) (ly_2_3 ho).2 cC_8 [.int p1, .int (11 : Int32)] [] rfl rfl (Nat.le_of_ble_eq_true rfl) ⟨rfl, rfl⟩ (fun x h => cC_Tb_get _ g hi σ (rc o 3) (ly_2_3 ho).2 p1 (11 : Int32) x h) rfl (fun x1 hx1 => ?_)
  refine q_istore_n (pc' := 11) (lv' := [(2, .int x1), (0, .ref (g.1 o)), (1, .int p1)]) C d_Pc_drawSegment_10 (by decide) rfl rfl ?_
  refine q_iload_n (pc' := 12) C 0 d_Pc_drawSegment_11 rfl rfl ?_
  refine q_iconst (pc' := 13) C d_Pc_drawSegment_12 ki_2 rfl ?_
  refine q_icmp_ne (tgt := 63) (pc' := 16) C d_Pc_drawSegment_13 rfl rfl ?_ ?_
  · refine q_aload_n (pc' := 64) C 1 d_Pc_drawSegment_63 rfl rfl ?_
    refine gC_Pc_48 (pc' := 67) C o (rc o 3) ho (ly_2_3 ho).1 d_Pc_drawSegment_64 rfl rfl ?_
    refine q_iload_n (pc' := 68) C 2 d_Pc_drawSegment_67 rfl rfl ?_
    refine q_bipush (pc' := 70) C d_Pc_drawSegment_68 kb_14 rfl ?_
    refine q_callVr (fr' := 0) (lo' := 0) (pc' := 73) C FC_Tb_get lmC_Pc_59 d_Pc_drawSegment_70 (rc o 3) (jCo (ly_2_3 ho).2) (ly_2_3 ho).2 cC_8 [.int p1, .int (14 : Int32)] [] rfl rfl (Nat.le_of_ble_eq_true rfl) ⟨rfl, rfl⟩ (fun x h => cC_Tb_get _ g hi σ (rc o 3) (ly_2_3 ho).2 p1 (14 : Int32) x h) rfl (fun x2 hx2 => ?_)
    refine q_istore_n (pc' := 74) (lv' := [(3, .int x2), (2, .int x1), (0, .ref (g.1 o)), (1, .int p1)]) C d_Pc_drawSegment_73 (by decide) rfl rfl ?_
    refine q_iload_n (pc' := 75) C 1 d_Pc_drawSegment_74 rfl rfl ?_
    refine q_iconst (pc' := 76) C d_Pc_drawSegment_75 ki_1 rfl ?_
    refine q_join (fun J4 : St → Option (St) => ∀ (σ3 : St), Rt z qC_Pc_drawSegment wC g o_v 96 [(0, .ref (g.1 o)), (1, .int p1), (3, .int x2)] [] σ3 (J4 σ3)) (fun σ3 => ?_) (fun J4 hJ4 => ?_)
    · refine q_aload_n (pc' := 97) C 0 d_Pc_drawSegment_96 rfl rfl ?_
      refine q_iload_n (pc' := 98) C 1 d_Pc_drawSegment_97 rfl rfl ?_
      refine q_iload_n (pc' := 99) C 2 d_Pc_drawSegment_98 rfl rfl ?_
      refine q_callVv (fr' := 2) (lo' := 49) (pc' := 102) C FC_Pc_drawRest lmC_Pc_89 d_Pc_drawSegment_99 o (jCo ho) ho cC_2 [.int p1, .int x2] [] rfl rfl (Nat.le_of_ble_eq_true rfl) ⟨rfl, rfl⟩ (fun x h => cC_Pc_drawRest _ g hi σ3 o ho p1 x2 x h) rfl (fun x5 hx5 => ?_)
      exact q_vret C rfl d_Pc_drawSegment_102 rfl
    refine q_icmp_ne (tgt := 96) (pc' := 79) C d_Pc_drawSegment_76 rfl rfl ?_ ?_
    · exact Rt.sub [2, 3, 0] rfl (hJ4 σ)
    · refine q_aload_n (pc' := 80) C 2 d_Pc_drawSegment_79 rfl rfl ?_
      refine q_iload_n (pc' := 81) C 3 d_Pc_drawSegment_80 rfl rfl ?_
      refine q_aload_n (pc' := 82) C 2 d_Pc_drawSegment_81 rfl rfl ?_
      refine q_iload_n (pc' := 83) C 3 d_Pc_drawSegment_82 rfl rfl ?_
      refine q_iload_n (pc' := 84) C 0 d_Pc_drawSegment_83 rfl rfl ?_
      refine q_callVr (fr' := 1) (lo' := 23) (pc' := 87) C FC_Pc_onSegmentX lmC_Pc_79 d_Pc_drawSegment_84 o (jCo ho) ho cC_2 [.int p1, .int x2] [.int p1, .ref (g.1 o)] rfl rfl (Nat.le_of_ble_eq_true rfl) ⟨rfl, rfl⟩ (fun x h => cC_Pc_onSegmentX _ g hi σ o ho p1 x2 x h) rfl (fun x6 hx6 => ?_)
      refine q_aload_n (pc' := 88) C 2 d_Pc_drawSegment_87 rfl rfl ?_
      refine q_iload_n (pc' := 89) C 3 d_Pc_drawSegment_88 rfl rfl ?_
      refine q_iload_n (pc' := 90) C 0 d_Pc_drawSegment_89 rfl rfl ?_
      refine q_callVr (fr' := 1) (lo' := 23) (pc' := 93) C FC_Pc_onSegmentY lmC_Pc_82 d_Pc_drawSegment_90 o (jCo ho) ho cC_2 [.int p1, .int x2] [.int x6, .int p1, .ref (g.1 o)] rfl rfl (Nat.le_of_ble_eq_true rfl) ⟨rfl, rfl⟩ (fun x h => cC_Pc_onSegmentY _ g hi σ o ho p1 x2 x h) rfl (fun x7 hx7 => ?_)
      refine q_callVv (fr' := 2) (lo' := 49) (pc' := 96) C FC_Pc_drawArc lmC_Pc_85 d_Pc_drawSegment_93 o (jCo ho) ho cC_2 [.int p1, .int x6, .int x7] [] rfl rfl (Nat.le_of_ble_eq_true rfl) ⟨rfl, rfl⟩ (fun x h => cC_Pc_drawArc _ g hi σ o ho p1 x6 x7 x h) rfl (fun x8 hx8 => ?_)
      exact Rt.sub [2, 3, 0] rfl (hJ4 x8)
  · refine q_aload_n (pc' := 17) C 1 d_Pc_drawSegment_16 rfl rfl ?_
    refine q_iload_n (pc' := 18) C 2 d_Pc_drawSegment_17 rfl rfl ?_
    refine q_callVv (fr' := 3) (lo' := 74) (pc' := 21) C FC_Pc_drawArcOver lmC_Pc_63 d_Pc_drawSegment_18 o (jCo ho) ho cC_2 [.int p1] [] rfl rfl (Nat.le_of_ble_eq_true rfl) ⟨rfl, rfl⟩ (fun x h => cC_Pc_drawArcOver _ g hi σ o ho p1 x h) rfl (fun x9 hx9 => ?_)
    refine q_aload_n (pc' := 22) C 1 d_Pc_drawSegment_21 rfl rfl ?_
    refine gC_Pc_30 (pc' := 25) C o (rc o 0) ho (ly_2_0 ho).1 d_Pc_drawSegment_22 rfl rfl ?_
    refine q_aload_n (pc' := 26) C 1 d_Pc_drawSegment_25 rfl rfl ?_
    refine gC_Pc_48 (pc' := 29) C o (rc o 3) ho (ly_2_3 ho).1 d_Pc_drawSegment_26 rfl rfl ?_
    refine q_iload_n (pc' := 30) C 2 d_Pc_drawSegment_29 rfl rfl ?_
    refine q_iconst (pc' := 31) C d_Pc_drawSegment_30 ki_0 rfl ?_
    refine q_callVr (fr' := 0) (lo' := 0) (pc' := 34) C FC_Tb_get lmC_Pc_59 d_Pc_drawSegment_31 (rc o 3) (jCo (ly_2_3 ho).2) (ly_2_3 ho).2 cC_8 [.int p1, .int (0 : Int32)] [.ref (g.1 (rc o 0))] rfl rfl (Nat.le_of_ble_eq_true rfl) ⟨rfl, rfl⟩ (fun x h => cC_Tb_get _ g hi x9 (rc o 3) (ly_2_3 ho).2 p1 (0 : Int32) x h) rfl (fun x10 hx10 => ?_)
    refine q_callVr (fr' := 1) (lo' := 22) (pc' := 37) C FC_Pl_kind lmC_Pc_67 d_Pc_drawSegment_34 (rc o 0) (jCo (ly_2_0 ho).2) (ly_2_0 ho).2 cC_3 [.int x10] [] rfl rfl (Nat.le_of_ble_eq_true rfl) ⟨rfl, rfl⟩ (fun x h => cC_Pl_kind _ g hi x9 (rc o 0) (ly_2_0 ho).2 x10 x h) rfl (fun x11 hx11 => ?_)
    refine q_istore_n (pc' := 38) (lv' := [(3, .int x11), (2, .int x1), (0, .ref (g.1 o)), (1, .int p1)]) C d_Pc_drawSegment_37 (by decide) rfl rfl ?_
    refine q_iload_n (pc' := 39) C 0 d_Pc_drawSegment_38 rfl rfl ?_
    refine q_iconst (pc' := 40) C d_Pc_drawSegment_39 ki_2 rfl ?_
    refine q_join (fun J13 : St → Option (St) => ∀ (σ12 : St), Rt z qC_Pc_drawSegment wC g o_v 62 [] [] σ12 (J13 σ12)) (fun σ12 => ?_) (fun J13 hJ13 => ?_)
    · exact q_vret C rfl d_Pc_drawSegment_62 rfl
    refine q_join (fun J14 : Unit → Option (St) => ∀ (_ : Unit), Rt z qC_Pc_drawSegment wC g o_v 49 [(0, .ref (g.1 o)), (1, .int p1)] [] x9 (J14 ())) (fun _ => ?_) (fun J14 hJ14 => ?_)
    · refine q_aload_n (pc' := 50) C 0 d_Pc_drawSegment_49 rfl rfl ?_
      refine q_iload_n (pc' := 51) C 1 d_Pc_drawSegment_50 rfl rfl ?_
      refine q_callVv (fr' := 2) (lo' := 54) (pc' := 54) C FC_Pc_drawDirect lmC_Pc_73 d_Pc_drawSegment_51 o (jCo ho) ho cC_2 [.int p1] [] rfl rfl (Nat.le_of_ble_eq_true rfl) ⟨rfl, rfl⟩ (fun x h => cC_Pc_drawDirect _ g hi x9 o ho p1 x h) rfl (fun x15 hx15 => ?_)
      refine q_goto (tgt := 62) C d_Pc_drawSegment_54 rfl ?_
      exact Rt.sub [] rfl (hJ13 x15)
    refine q_icmp_eq (tgt := 49) (pc' := 43) C d_Pc_drawSegment_40 rfl rfl ?_ ?_
    · exact Rt.sub [2, 3] rfl (hJ14 ())
    · refine q_iload_n (pc' := 44) C 0 d_Pc_drawSegment_43 rfl rfl ?_
      refine q_bipush (pc' := 46) C d_Pc_drawSegment_44 kb_7 rfl ?_
      refine q_icmp_ne (tgt := 57) (pc' := 49) C d_Pc_drawSegment_46 rfl rfl ?_ ?_
      · refine q_aload_n (pc' := 58) C 2 d_Pc_drawSegment_57 rfl rfl ?_
        refine q_iload_n (pc' := 59) C 3 d_Pc_drawSegment_58 rfl rfl ?_
        refine q_callVv (fr' := 3) (lo' := 76) (pc' := 62) C FC_Pc_drawRegaining lmC_Pc_76 d_Pc_drawSegment_59 o (jCo ho) ho cC_2 [.int p1] [] rfl rfl (Nat.le_of_ble_eq_true rfl) ⟨rfl, rfl⟩ (fun x h => cC_Pc_drawRegaining _ g hi x9 o ho p1 x h) rfl (fun x16 hx16 => ?_)
        exact Rt.sub [] rfl (hJ13 x16)
      · exact Rt.sub [2, 3] rfl (hJ14 ())
theorem d_Pc_drawPattern_0 : decode qC_Pc_drawPattern.1 0 = .ok (.aload_n 0, 1) := by decide +kernel
theorem d_Pc_drawPattern_1 : decode qC_Pc_drawPattern.1 1 = .ok (.getfield 30, 3) := by decide +kernel
theorem d_Pc_drawPattern_4 : decode qC_Pc_drawPattern.1 4 = .ok (.getfield 140, 3) := by decide +kernel
theorem d_Pc_drawPattern_7 : decode qC_Pc_drawPattern.1 7 = .ok (.iload_n 1, 1) := by decide +kernel
theorem d_Pc_drawPattern_8 : decode qC_Pc_drawPattern.1 8 = .ok (.iconst 5, 1) := by decide +kernel
theorem d_Pc_drawPattern_9 : decode qC_Pc_drawPattern.1 9 = .ok (.invokevirtual 59, 3) := by decide +kernel
theorem d_Pc_drawPattern_12 : decode qC_Pc_drawPattern.1 12 = .ok (.istore_n 2, 1) := by decide +kernel
theorem d_Pc_drawPattern_13 : decode qC_Pc_drawPattern.1 13 = .ok (.aload_n 0, 1) := by decide +kernel
theorem d_Pc_drawPattern_14 : decode qC_Pc_drawPattern.1 14 = .ok (.getfield 34, 3) := by decide +kernel
theorem d_Pc_drawPattern_17 : decode qC_Pc_drawPattern.1 17 = .ok (.aload_n 0, 1) := by decide +kernel
theorem d_Pc_drawPattern_18 : decode qC_Pc_drawPattern.1 18 = .ok (.getfield 30, 3) := by decide +kernel
theorem d_Pc_drawPattern_21 : decode qC_Pc_drawPattern.1 21 = .ok (.getfield 140, 3) := by decide +kernel
theorem d_Pc_drawPattern_24 : decode qC_Pc_drawPattern.1 24 = .ok (.iload_n 1, 1) := by decide +kernel
theorem d_Pc_drawPattern_25 : decode qC_Pc_drawPattern.1 25 = .ok (.bipush 11, 2) := by decide +kernel
theorem d_Pc_drawPattern_27 : decode qC_Pc_drawPattern.1 27 = .ok (.invokevirtual 59, 3) := by decide +kernel
theorem d_Pc_drawPattern_30 : decode qC_Pc_drawPattern.1 30 = .ok (.invokevirtual 141, 3) := by decide +kernel
theorem d_Pc_drawPattern_33 : decode qC_Pc_drawPattern.1 33 = .ok (.invokestatic 146, 3) := by decide +kernel
theorem d_Pc_drawPattern_36 : decode qC_Pc_drawPattern.1 36 = .ok (.istore_n 3, 1) := by decide +kernel
theorem d_Pc_drawPattern_37 : decode qC_Pc_drawPattern.1 37 = .ok (.aload_n 0, 1) := by decide +kernel
theorem d_Pc_drawPattern_38 : decode qC_Pc_drawPattern.1 38 = .ok (.getfield 44, 3) := by decide +kernel
theorem d_Pc_drawPattern_41 : decode qC_Pc_drawPattern.1 41 = .ok (.iload_n 1, 1) := by decide +kernel
theorem d_Pc_drawPattern_42 : decode qC_Pc_drawPattern.1 42 = .ok (.bipush 8, 2) := by decide +kernel
theorem d_Pc_drawPattern_44 : decode qC_Pc_drawPattern.1 44 = .ok (.invokevirtual 59, 3) := by decide +kernel
theorem d_Pc_drawPattern_47 : decode qC_Pc_drawPattern.1 47 = .ok (.istore 4, 2) := by decide +kernel
theorem d_Pc_drawPattern_49 : decode qC_Pc_drawPattern.1 49 = .ok (.iconst 0, 1) := by decide +kernel
theorem d_Pc_drawPattern_50 : decode qC_Pc_drawPattern.1 50 = .ok (.istore 5, 2) := by decide +kernel
theorem d_Pc_drawPattern_52 : decode qC_Pc_drawPattern.1 52 = .ok (.iload 4, 2) := by decide +kernel
theorem d_Pc_drawPattern_54 : decode qC_Pc_drawPattern.1 54 = .ok (.ifCond .eq 24, 3) := by decide +kernel
theorem d_Pc_drawPattern_57 : decode qC_Pc_drawPattern.1 57 = .ok (.iload_n 2, 1) := by decide +kernel
theorem d_Pc_drawPattern_58 : decode qC_Pc_drawPattern.1 58 = .ok (.iload_n 3, 1) := by decide +kernel
theorem d_Pc_drawPattern_59 : decode qC_Pc_drawPattern.1 59 = .ok (.iload 4, 2) := by decide +kernel
theorem d_Pc_drawPattern_61 : decode qC_Pc_drawPattern.1 61 = .ok (.iconst 1, 1) := by decide +kernel
theorem d_Pc_drawPattern_62 : decode qC_Pc_drawPattern.1 62 = .ok (.if_icmp .ne 8, 3) := by decide +kernel
theorem d_Pc_drawPattern_65 : decode qC_Pc_drawPattern.1 65 = .ok (.bipush 14, 2) := by decide +kernel
theorem d_Pc_drawPattern_67 : decode qC_Pc_drawPattern.1 67 = .ok (.goto 5, 3) := by decide +kernel
theorem d_Pc_drawPattern_70 : decode qC_Pc_drawPattern.1 70 = .ok (.bipush 18, 2) := by decide +kernel
theorem d_Pc_drawPattern_72 : decode qC_Pc_drawPattern.1 72 = .ok (.invokestatic 106, 3) := by decide +kernel
theorem d_Pc_drawPattern_75 : decode qC_Pc_drawPattern.1 75 = .ok (.iadd, 1) := by decide +kernel
theorem d_Pc_drawPattern_76 : decode qC_Pc_drawPattern.1 76 = .ok (.istore 5, 2) := by decide +kernel
theorem d_Pc_drawPattern_78 : decode qC_Pc_drawPattern.1 78 = .ok (.aload_n 0, 1) := by decide +kernel
theorem d_Pc_drawPattern_79 : decode qC_Pc_drawPattern.1 79 = .ok (.getfield 30, 3) := by decide +kernel
theorem d_Pc_drawPattern_82 : decode qC_Pc_drawPattern.1 82 = .ok (.getfield 140, 3) := by decide +kernel
theorem d_Pc_drawPattern_85 : decode qC_Pc_drawPattern.1 85 = .ok (.iload_n 1, 1) := by decide +kernel
theorem d_Pc_drawPattern_86 : decode qC_Pc_drawPattern.1 86 = .ok (.bipush 6, 2) := by decide +kernel
theorem d_Pc_drawPattern_88 : decode qC_Pc_drawPattern.1 88 = .ok (.invokevirtual 59, 3) := by decide +kernel
theorem d_Pc_drawPattern_91 : decode qC_Pc_drawPattern.1 91 = .ok (.iconst 2, 1) := by decide +kernel
theorem d_Pc_drawPattern_92 : decode qC_Pc_drawPattern.1 92 = .ok (.iload_n 2, 1) := by decide +kernel
theorem d_Pc_drawPattern_93 : decode qC_Pc_drawPattern.1 93 = .ok (.imul, 1) := by decide +kernel
theorem d_Pc_drawPattern_94 : decode qC_Pc_drawPattern.1 94 = .ok (.iload_n 3, 1) := by decide +kernel
theorem d_Pc_drawPattern_95 : decode qC_Pc_drawPattern.1 95 = .ok (.bipush 24, 2) := by decide +kernel
theorem d_Pc_drawPattern_97 : decode qC_Pc_drawPattern.1 97 = .ok (.invokestatic 106, 3) := by decide +kernel
theorem d_Pc_drawPattern_100 : decode qC_Pc_drawPattern.1 100 = .ok (.iadd, 1) := by decide +kernel
theorem d_Pc_drawPattern_101 : decode qC_Pc_drawPattern.1 101 = .ok (.imul, 1) := by decide +kernel
theorem d_Pc_drawPattern_102 : decode qC_Pc_drawPattern.1 102 = .ok (.istore 6, 2) := by decide +kernel
theorem d_Pc_drawPattern_104 : decode qC_Pc_drawPattern.1 104 = .ok (.aload_n 0, 1) := by decide +kernel
theorem d_Pc_drawPattern_105 : decode qC_Pc_drawPattern.1 105 = .ok (.getfield 30, 3) := by decide +kernel
theorem d_Pc_drawPattern_108 : decode qC_Pc_drawPattern.1 108 = .ok (.getfield 140, 3) := by decide +kernel
theorem d_Pc_drawPattern_111 : decode qC_Pc_drawPattern.1 111 = .ok (.iload_n 1, 1) := by decide +kernel
theorem d_Pc_drawPattern_112 : decode qC_Pc_drawPattern.1 112 = .ok (.iconst 2, 1) := by decide +kernel
theorem d_Pc_drawPattern_113 : decode qC_Pc_drawPattern.1 113 = .ok (.invokevirtual 59, 3) := by decide +kernel
theorem d_Pc_drawPattern_116 : decode qC_Pc_drawPattern.1 116 = .ok (.istore 7, 2) := by decide +kernel
theorem d_Pc_drawPattern_118 : decode qC_Pc_drawPattern.1 118 = .ok (.aload_n 0, 1) := by decide +kernel
theorem d_Pc_drawPattern_119 : decode qC_Pc_drawPattern.1 119 = .ok (.getfield 30, 3) := by decide +kernel
theorem d_Pc_drawPattern_122 : decode qC_Pc_drawPattern.1 122 = .ok (.getfield 140, 3) := by decide +kernel
theorem d_Pc_drawPattern_125 : decode qC_Pc_drawPattern.1 125 = .ok (.iload_n 1, 1) := by decide +kernel
theorem d_Pc_drawPattern_126 : decode qC_Pc_drawPattern.1 126 = .ok (.bipush 7, 2) := by decide +kernel
theorem d_Pc_drawPattern_128 : decode qC_Pc_drawPattern.1 128 = .ok (.invokevirtual 59, 3) := by decide +kernel
theorem d_Pc_drawPattern_131 : decode qC_Pc_drawPattern.1 131 = .ok (.istore 8, 2) := by decide +kernel
theorem d_Pc_drawPattern_133 : decode qC_Pc_drawPattern.1 133 = .ok (.aload_n 0, 1) := by decide +kernel
theorem d_Pc_drawPattern_134 : decode qC_Pc_drawPattern.1 134 = .ok (.getfield 30, 3) := by decide +kernel
theorem d_Pc_drawPattern_137 : decode qC_Pc_drawPattern.1 137 = .ok (.getfield 140, 3) := by decide +kernel
theorem d_Pc_drawPattern_140 : decode qC_Pc_drawPattern.1 140 = .ok (.iload_n 1, 1) := by decide +kernel
theorem d_Pc_drawPattern_141 : decode qC_Pc_drawPattern.1 141 = .ok (.bipush 8, 2) := by decide +kernel
theorem d_Pc_drawPattern_143 : decode qC_Pc_drawPattern.1 143 = .ok (.invokevirtual 59, 3) := by decide +kernel
theorem d_Pc_drawPattern_146 : decode qC_Pc_drawPattern.1 146 = .ok (.istore 9, 2) := by decide +kernel
theorem d_Pc_drawPattern_148 : decode qC_Pc_drawPattern.1 148 = .ok (.aload_n 0, 1) := by decide +kernel
theorem d_Pc_drawPattern_149 : decode qC_Pc_drawPattern.1 149 = .ok (.iload_n 1, 1) := by decide +kernel
theorem d_Pc_drawPattern_150 : decode qC_Pc_drawPattern.1 150 = .ok (.iconst 2, 1) := by decide +kernel
theorem d_Pc_drawPattern_151 : decode qC_Pc_drawPattern.1 151 = .ok (.iload 5, 2) := by decide +kernel
theorem d_Pc_drawPattern_153 : decode qC_Pc_drawPattern.1 153 = .ok (.iload 7, 2) := by decide +kernel
theorem d_Pc_drawPattern_155 : decode qC_Pc_drawPattern.1 155 = .ok (.iload 8, 2) := by decide +kernel
theorem d_Pc_drawPattern_157 : decode qC_Pc_drawPattern.1 157 = .ok (.iload 9, 2) := by decide +kernel
theorem d_Pc_drawPattern_159 : decode qC_Pc_drawPattern.1 159 = .ok (.invokevirtual 111, 3) := by decide +kernel
theorem d_Pc_drawPattern_162 : decode qC_Pc_drawPattern.1 162 = .ok (.aload_n 0, 1) := by decide +kernel
theorem d_Pc_drawPattern_163 : decode qC_Pc_drawPattern.1 163 = .ok (.iload_n 1, 1) := by decide +kernel
theorem d_Pc_drawPattern_164 : decode qC_Pc_drawPattern.1 164 = .ok (.iconst 2, 1) := by decide +kernel
theorem d_Pc_drawPattern_165 : decode qC_Pc_drawPattern.1 165 = .ok (.iload 6, 2) := by decide +kernel
theorem d_Pc_drawPattern_167 : decode qC_Pc_drawPattern.1 167 = .ok (.iload 7, 2) := by decide +kernel
theorem d_Pc_drawPattern_169 : decode qC_Pc_drawPattern.1 169 = .ok (.iload 8, 2) := by decide +kernel
theorem d_Pc_drawPattern_171 : decode qC_Pc_drawPattern.1 171 = .ok (.iload 9, 2) := by decide +kernel
theorem d_Pc_drawPattern_173 : decode qC_Pc_drawPattern.1 173 = .ok (.invokevirtual 111, 3) := by decide +kernel
theorem d_Pc_drawPattern_176 : decode qC_Pc_drawPattern.1 176 = .ok (.return_, 1) := by decide +kernel
set_option maxRecDepth 100000 in
def f_Pc_drawPattern (σ : St) (o : Nat) (p1 : Int32) : Option (St) :=
  Option.bind (f_Tb_get σ (rc (rc o 0) 0) p1 (5 : Int32)) fun x1 =>
  Option.bind (f_Tb_get σ (rc (rc o 0) 0) p1 (11 : Int32)) fun x2 =>
  Option.bind (f_Sg_airSpeed σ (rc o 1) x2) fun x3 =>
  Option.bind (f_Cm_turnRadiusAt x3) fun x4 =>
  Option.bind (f_Tb_get σ (rc o 2) p1 (8 : Int32)) fun x5 =>
  Jn (fun (x6 : Int32) =>
  Option.bind (f_Tb_get σ (rc (rc o 0) 0) p1 (6 : Int32)) fun x8 =>
  Option.bind (f_Cm_arcLength x4 (24 : Int32)) fun x9 =>
  Lt ((x8 * (((2 : Int32) * x1) + x9)) : Int32) fun x10 =>
  Option.bind (f_Tb_get σ (rc (rc o 0) 0) p1 (2 : Int32)) fun x11 =>
  Option.bind (f_Tb_get σ (rc (rc o 0) 0) p1 (7 : Int32)) fun x12 =>
  Option.bind (f_Tb_get σ (rc (rc o 0) 0) p1 (8 : Int32)) fun x13 =>
  Option.bind (f_Pc_addPiece σ o p1 (2 : Int32) x6 x11 x12 x13) fun x14 =>
  Option.bind (f_Pc_addPiece x14 o p1 (2 : Int32) x10 x11 x12 x13) fun x15 =>
  some x15
  ) fun J7 =>
  if (x5 : Int32) = 0 then (
  J7 (0 : Int32)
  ) else (
  Jn (fun (x16 : Int32) =>
  Option.bind (f_Cm_arcLength x4 x16) fun x18 =>
  Lt ((x1 + x18) : Int32) fun x19 =>
  J7 x19
  ) fun J17 =>
  if (x5 : Int32) = (1 : Int32) then (
  J17 (14 : Int32)
  ) else (
  J17 (18 : Int32)
  )
  )
set_option maxHeartbeats 4000000 in
set_option maxRecDepth 100000 in
theorem cC_Pc_drawPattern (l : Launch) (g : Ge) (hi : injB wC.2 g) (σ : St) (o : Nat) (ho : wC.2.2.1 o = .inr (2, 11)) (p1 : Int32) (x : St) (h : f_Pc_drawPattern σ o p1 = some x) : Ct l wC g yC_Pc_drawPattern qC_Pc_drawPattern 2 49 [.ref (g.1 o), .int p1] σ (none, x) := by
  refine Ct.of (out := o_v) FC_Pc_drawPattern rfl hi rfl h (fun z hz C => ?_)
  clear h
  subst hz
  unfold f_Pc_drawPattern
  show Rt z qC_Pc_drawPattern wC g o_v 0 [(0, .ref (g.1 o)), (1, .int p1)] [] σ _
  refine q_aload_n (pc' := 1) C 0 d_Pc_drawPattern_0 rfl rfl ?_
  refine gC_Pc_30 (pc' := 4) C o (rc o 0) ho (ly_2_0 ho).1 d_Pc_drawPattern_1 rfl rfl ?_
  refine gC_Pc_140 (pc' := 7) C (rc o 0) (rc (rc o 0) 0) (ly_2_0 ho).2 (ly_3_0 (ly_2_0 ho).2).1 d_Pc_drawPattern_4 rfl rfl ?_
  refine q_iload_n (pc' := 8) C 1 d_Pc_drawPattern_7 rfl rfl ?_
  refine q_iconst (pc' := 9) C d_Pc_drawPattern_8 ki_5 rfl ?_
  refine q_callVr (fr' := 0) (lo' := 0) (pc' := 12) C FC_Tb_get lmC_Pc_59 d_Pc_drawPattern_9 (rc (rc o 0) 0) (jCo (ly_3_0 (ly_2_0 ho).2).2) (ly_3_0 (ly_2_0 ho).2).2 cC_8 [.int p1, .int (5 : Int32)] [] rfl rfl (Nat.le_of_ble_eq_true rfl) ⟨rfl, rfl⟩ (fun x h => cC_Tb_get _ g hi σ (rc (rc o 0) 0) (ly_3_0 (ly_2_0 ho).2).2 p1 (5 : Int32) x h) rfl (fun x1 hx1 => ?_)
  refine q_istore_n (pc' := 13) (lv' := [(2, .int x1), (0, .ref (g.1 o)), (1, .int p1)]) C d_Pc_drawPattern_12 (by decide) rfl rfl ?_
  refine q_aload_n (pc' := 14) C 1 d_Pc_drawPattern_13 rfl rfl ?_
  refine gC_Pc_34 (pc' := 17) C o (rc o 1) ho (ly_2_1 ho).1 d_Pc_drawPattern_14 rfl rfl ?_
  refine q_aload_n (pc' := 18) C 1 d_Pc_drawPattern_17 rfl rfl ?_
  refine gC_Pc_30 (pc' := 21) C o (rc o 0) ho (ly_2_0 ho).1 d_Pc_drawPattern_18 rfl rfl ?_
  refine gC_Pc_140 (pc' := 24) C (rc o 0) (rc (rc o 0) 0) (ly_2_0 ho).2 (ly_3_0 (ly_2_0 ho).2).1 d_Pc_drawPattern_21 rfl rfl ?_
  refine q_iload_n (pc' := 25) C 2 d_Pc_drawPattern_24 rfl rfl ?_
  refine q_bipush (pc' := 27) C d_Pc_drawPattern_25 kb_11 rfl ?_
  refine q_callVr (fr' := 0) (lo' := 0) (pc' := 30) C FC_Tb_get lmC_Pc_59 d_Pc_drawPattern_27 (rc (rc o 0) 0) (jCo (ly_3_0 (ly_2_0 ho).2).2) (ly_3_0 (ly_2_0 ho).2).2 cC_8 [.int p1, .int (11 : Int32)] [.ref (g.1 (rc o 1))] rfl rfl (Nat.le_of_ble_eq_true rfl) ⟨rfl, rfl⟩ (fun x h => cC_Tb_get _ g hi σ (rc (rc o 0) 0) (ly_3_0 (ly_2_0 ho).2).2 p1 (11 : Int32) x h) rfl (fun x2 hx2 => ?_)
  refine q_callVr (fr' := 1) (lo' := 21) (pc' := 33) C FC_Sg_airSpeed lmC_Pc_141 d_Pc_drawPattern_30 (rc o 1) (jCo (ly_2_1 ho).2) (ly_2_1 ho).2 cC_7 [.int x2] [] rfl rfl (Nat.le_of_ble_eq_true rfl) ⟨rfl, rfl⟩ (fun x h => cC_Sg_airSpeed _ g hi σ (rc o 1) (ly_2_1 ho).2 x2 x h) rfl (fun x3 hx3 => ?_)
  refine q_callSr (fr' := 1) (lo' := 21) (pc' := 36) C FC_Cm_turnRadiusAt lmC_Pc_146 d_Pc_drawPattern_33 [.int x3] [] rfl rfl (Nat.le_of_ble_eq_true rfl) ⟨rfl, rfl⟩ (fun x h => cC_Cm_turnRadiusAt _ g hi σ x3 x h) rfl (fun x4 hx4 => ?_)
  refine q_istore_n (pc' := 37) (lv' := [(3, .int x4), (2, .int x1), (0, .ref (g.1 o)), (1, .int p1)]) C d_Pc_drawPattern_36 (by decide) rfl rfl ?_
  refine q_aload_n (pc' := 38) C 2 d_Pc_drawPattern_37 rfl rfl ?_
  refine gC_Pc_44 (pc' := 41) C o (rc o 2) ho (ly_2_2 ho).1 d_Pc_drawPattern_38 rfl rfl ?_
  refine q_iload_n (pc' := 42) C 3 d_Pc_drawPattern_41 rfl rfl ?_
  refine q_bipush (pc' := 44) C d_Pc_drawPattern_42 kb_8 rfl ?_
  refine q_callVr (fr' := 0) (lo' := 0) (pc' := 47) C FC_Tb_get lmC_Pc_59 d_Pc_drawPattern_44 (rc o 2) (jCo (ly_2_2 ho).2) (ly_2_2 ho).2 cC_8 [.int p1, .int (8 : Int32)] [] rfl rfl (Nat.le_of_ble_eq_true rfl) ⟨rfl, rfl⟩ (fun x h => cC_Tb_get _ g hi σ (rc o 2) (ly_2_2 ho).2 p1 (8 : Int32) x h) rfl (fun x5 hx5 => ?_)
  refine q_istore (pc' := 49) (lv' := [(4, .int x5), (3, .int x4), (2, .int x1), (0, .ref (g.1 o)), (1, .int p1)]) C d_Pc_drawPattern_47 (by decide) rfl rfl ?_
  refine q_iconst (pc' := 50) C d_Pc_drawPattern_49 ki_0 rfl ?_
  refine q_istore (pc' := 52) (lv' := [(5, .int (0 : Int32)), (4, .int x5), (3, .int x4), (2, .int x1), (0, .ref (g.1 o)), (1, .int p1)]) C d_Pc_drawPattern_50 (by decide) rfl rfl ?_
  refine q_iload (pc' := 54) C 1 d_Pc_drawPattern_52 rfl rfl ?_
  refine q_join (fun J7 : Int32 → Option (St) => ∀ (x6 : Int32), Rt z qC_Pc_drawPattern wC g o_v 78 [(0, .ref (g.1 o)), (1, .int p1), (2, .int x1), (3, .int x4), (5, .int x6)] [] σ (J7 x6)) (fun x6 => ?_) (fun J7 hJ7 => ?_)
  · refine q_aload_n (pc' := 79) C 0 d_Pc_drawPattern_78 rfl rfl ?_
    refine gC_Pc_30 (pc' := 82) C o (rc o 0) ho (ly_2_0 ho).1 d_Pc_drawPattern_79 rfl rfl ?_
    refine gC_Pc_140 (pc' := 85) C (rc o 0) (rc (rc o 0) 0) (ly_2_0 ho).2 (ly_3_0 (ly_2_0 ho).2).1 d_Pc_drawPattern_82 rfl rfl ?_
    refine q_iload_n (pc' := 86) C 1 d_Pc_drawPattern_85 rfl rfl ?_
    refine q_bipush (pc' := 88) C d_Pc_drawPattern_86 kb_6 rfl ?_
    refine q_callVr (fr' := 0) (lo' := 0) (pc' := 91) C FC_Tb_get lmC_Pc_59 d_Pc_drawPattern_88 (rc (rc o 0) 0) (jCo (ly_3_0 (ly_2_0 ho).2).2) (ly_3_0 (ly_2_0 ho).2).2 cC_8 [.int p1, .int (6 : Int32)] [] rfl rfl (Nat.le_of_ble_eq_true rfl) ⟨rfl, rfl⟩ (fun x h => cC_Tb_get _ g hi σ (rc (rc o 0) 0) (ly_3_0 (ly_2_0 ho).2).2 p1 (6 : Int32) x h) rfl (fun x8 hx8 => ?_)
    refine q_iconst (pc' := 92) C d_Pc_drawPattern_91 ki_2 rfl ?_
    refine q_iload_n (pc' := 93) C 2 d_Pc_drawPattern_92 rfl rfl ?_
    refine q_imul (pc' := 94) C d_Pc_drawPattern_93 rfl ?_
    refine q_iload_n (pc' := 95) C 3 d_Pc_drawPattern_94 rfl rfl ?_
    refine q_bipush (pc' := 97) C d_Pc_drawPattern_95 kb_24 rfl ?_
    refine q_callSr (fr' := 0) (lo' := 0) (pc' := 100) C FC_Cm_arcLength lmC_Pc_106 d_Pc_drawPattern_97 [.int x4, .int (24 : Int32)] [.int ((2 : Int32) * x1), .int x8] rfl rfl (Nat.le_of_ble_eq_true rfl) ⟨rfl, rfl⟩ (fun x h => cC_Cm_arcLength _ g hi σ x4 (24 : Int32) x h) rfl (fun x9 hx9 => ?_)
    refine q_iadd (pc' := 101) C d_Pc_drawPattern_100 rfl ?_
    refine q_imul (pc' := 102) C d_Pc_drawPattern_101 rfl ?_
    refine q_let (fun x10 e10 => ?_)
    refine q_topi e10 ?_
    refine q_istore (pc' := 104) (lv' := [(6, .int x10), (0, .ref (g.1 o)), (1, .int p1), (2, .int x1), (3, .int x4), (5, .int x6)]) C d_Pc_drawPattern_102 (by decide) rfl rfl ?_
    refine q_aload_n (pc' := 105) C 1 d_Pc_drawPattern_104 rfl rfl ?_
    refine gC_Pc_30 (pc' := 108) C o (rc o 0) ho (ly_2_0 ho).1 d_Pc_drawPattern_105 rfl rfl ?_
    refine gC_Pc_140 (pc' := 111) C (rc o 0) (rc (rc o 0) 0) (ly_2_0 ho).2 (ly_3_0 (ly_2_0 ho).2).1 d_Pc_drawPattern_108 rfl rfl ?_
    refine q_iload_n (pc' := 112) C 2 d_Pc_drawPattern_111 rfl rfl ?_
    refine q_iconst (pc' := 113) C d_Pc_drawPattern_112 ki_2 rfl ?_
    refine q_callVr (fr' := 0) (lo' := 0) (pc' := 116) C FC_Tb_get lmC_Pc_59 d_Pc_drawPattern_113 (rc (rc o 0) 0) (jCo (ly_3_0 (ly_2_0 ho).2).2) (ly_3_0 (ly_2_0 ho).2).2 cC_8 [.int p1, .int (2 : Int32)] [] rfl rfl (Nat.le_of_ble_eq_true rfl) ⟨rfl, rfl⟩ (fun x h => cC_Tb_get _ g hi σ (rc (rc o 0) 0) (ly_3_0 (ly_2_0 ho).2).2 p1 (2 : Int32) x h) rfl (fun x11 hx11 => ?_)
    refine q_istore (pc' := 118) (lv' := [(7, .int x11), (6, .int x10), (0, .ref (g.1 o)), (1, .int p1), (2, .int x1), (3, .int x4), (5, .int x6)]) C d_Pc_drawPattern_116 (by decide) rfl rfl ?_
    refine q_aload_n (pc' := 119) C 2 d_Pc_drawPattern_118 rfl rfl ?_
    refine gC_Pc_30 (pc' := 122) C o (rc o 0) ho (ly_2_0 ho).1 d_Pc_drawPattern_119 rfl rfl ?_
    refine gC_Pc_140 (pc' := 125) C (rc o 0) (rc (rc o 0) 0) (ly_2_0 ho).2 (ly_3_0 (ly_2_0 ho).2).1 d_Pc_drawPattern_122 rfl rfl ?_
    refine q_iload_n (pc' := 126) C 3 d_Pc_drawPattern_125 rfl rfl ?_
    refine q_bipush (pc' := 128) C d_Pc_drawPattern_126 kb_7 rfl ?_
    refine q_callVr (fr' := 0) (lo' := 0) (pc' := 131) C FC_Tb_get lmC_Pc_59 d_Pc_drawPattern_128 (rc (rc o 0) 0) (jCo (ly_3_0 (ly_2_0 ho).2).2) (ly_3_0 (ly_2_0 ho).2).2 cC_8 [.int p1, .int (7 : Int32)] [] rfl rfl (Nat.le_of_ble_eq_true rfl) ⟨rfl, rfl⟩ (fun x h => cC_Tb_get _ g hi σ (rc (rc o 0) 0) (ly_3_0 (ly_2_0 ho).2).2 p1 (7 : Int32) x h) rfl (fun x12 hx12 => ?_)
    refine q_istore (pc' := 133) (lv' := [(8, .int x12), (7, .int x11), (6, .int x10), (0, .ref (g.1 o)), (1, .int p1), (2, .int x1), (3, .int x4), (5, .int x6)]) C d_Pc_drawPattern_131 (by decide) rfl rfl ?_
    refine q_aload_n (pc' := 134) C 3 d_Pc_drawPattern_133 rfl rfl ?_
    refine gC_Pc_30 (pc' := 137) C o (rc o 0) ho (ly_2_0 ho).1 d_Pc_drawPattern_134 rfl rfl ?_
    refine gC_Pc_140 (pc' := 140) C (rc o 0) (rc (rc o 0) 0) (ly_2_0 ho).2 (ly_3_0 (ly_2_0 ho).2).1 d_Pc_drawPattern_137 rfl rfl ?_
    refine q_iload_n (pc' := 141) C 4 d_Pc_drawPattern_140 rfl rfl ?_
    refine q_bipush (pc' := 143) C d_Pc_drawPattern_141 kb_8 rfl ?_
    refine q_callVr (fr' := 0) (lo' := 0) (pc' := 146) C FC_Tb_get lmC_Pc_59 d_Pc_drawPattern_143 (rc (rc o 0) 0) (jCo (ly_3_0 (ly_2_0 ho).2).2) (ly_3_0 (ly_2_0 ho).2).2 cC_8 [.int p1, .int (8 : Int32)] [] rfl rfl (Nat.le_of_ble_eq_true rfl) ⟨rfl, rfl⟩ (fun x h => cC_Tb_get _ g hi σ (rc (rc o 0) 0) (ly_3_0 (ly_2_0 ho).2).2 p1 (8 : Int32) x h) rfl (fun x13 hx13 => ?_)
    refine q_istore (pc' := 148) (lv' := [(9, .int x13), (8, .int x12), (7, .int x11), (6, .int x10), (0, .ref (g.1 o)), (1, .int p1), (2, .int x1), (3, .int x4), (5, .int x6)]) C d_Pc_drawPattern_146 (by decide) rfl rfl ?_
    refine q_aload_n (pc' := 149) C 4 d_Pc_drawPattern_148 rfl rfl ?_
    refine q_iload_n (pc' := 150) C 5 d_Pc_drawPattern_149 rfl rfl ?_
    refine q_iconst (pc' := 151) C d_Pc_drawPattern_150 ki_2 rfl ?_
    refine q_iload (pc' := 153) C 8 d_Pc_drawPattern_151 rfl rfl ?_
    refine q_iload (pc' := 155) C 2 d_Pc_drawPattern_153 rfl rfl ?_
    refine q_iload (pc' := 157) C 1 d_Pc_drawPattern_155 rfl rfl ?_
    refine q_iload (pc' := 159) C 0 d_Pc_drawPattern_157 rfl rfl ?_
    refine q_callVv (fr' := 1) (lo' := 23) (pc' := 162) C FC_Pc_addPiece lmC_Pc_111 d_Pc_drawPattern_159 o (jCo ho) ho cC_2 [.int p1, .int (2 : Int32), .int x6, .int x11, .int x12, .int x13] [] rfl rfl (Nat.le_of_ble_eq_true rfl) ⟨rfl, rfl⟩ (fun x h => cC_Pc_addPiece _ g hi σ o ho p1 (2 : Int32) x6 x11 x12 x13 x h) rfl (fun x14 hx14 => ?_)
    refine q_aload_n (pc' := 163) C 4 d_Pc_drawPattern_162 rfl rfl ?_
    refine q_iload_n (pc' := 164) C 5 d_Pc_drawPattern_163 rfl rfl ?_
    refine q_iconst (pc' := 165) C d_Pc_drawPattern_164 ki_2 rfl ?_
    refine q_iload (pc' := 167) C 3 d_Pc_drawPattern_165 rfl rfl ?_
    refine q_iload (pc' := 169) C 2 d_Pc_drawPattern_167 rfl rfl ?_
    refine q_iload (pc' := 171) C 1 d_Pc_drawPattern_169 rfl rfl ?_
    refine q_iload (pc' := 173) C 0 d_Pc_drawPattern_171 rfl rfl ?_
    refine q_callVv (fr' := 1) (lo' := 23) (pc' := 176) C FC_Pc_addPiece lmC_Pc_111 d_Pc_drawPattern_173 o (jCo ho) ho cC_2 [.int p1, .int (2 : Int32), .int x10, .int x11, .int x12, .int x13] [] rfl rfl (Nat.le_of_ble_eq_true rfl) ⟨rfl, rfl⟩ (fun x h => cC_Pc_addPiece _ g hi x14 o ho p1 (2 : Int32) x10 x11 x12 x13 x h) rfl (fun x15 hx15 => ?_)
    exact q_vret C rfl d_Pc_drawPattern_176 rfl
  refine q_if_eq (tgt := 78) (pc' := 57) C d_Pc_drawPattern_54 rfl rfl ?_ ?_
  · exact Rt.sub [4, 5, 3, 2, 0] rfl (hJ7 (0 : Int32))
  · refine q_iload_n (pc' := 58) C 3 d_Pc_drawPattern_57 rfl rfl ?_
    refine q_iload_n (pc' := 59) C 2 d_Pc_drawPattern_58 rfl rfl ?_
    refine q_iload (pc' := 61) C 1 d_Pc_drawPattern_59 rfl rfl ?_
    refine q_iconst (pc' := 62) C d_Pc_drawPattern_61 ki_1 rfl ?_
    refine q_join (fun J17 : Int32 → Option (St) => ∀ (x16 : Int32), Rt z qC_Pc_drawPattern wC g o_v 72 [(0, .ref (g.1 o)), (1, .int p1), (2, .int x1), (3, .int x4)] [.int x16, .int x4, .int x1] σ (J17 x16)) (fun x16 => ?_) (fun J17 hJ17 => ?_)
    · refine q_callSr (fr' := 0) (lo' := 0) (pc' := 75) C FC_Cm_arcLength lmC_Pc_106 d_Pc_drawPattern_72 [.int x4, .int x16] [.int x1] rfl rfl (Nat.le_of_ble_eq_true rfl) ⟨rfl, rfl⟩ (fun x h => cC_Cm_arcLength _ g hi σ x4 x16 x h) rfl (fun x18 hx18 => ?_)
      refine q_iadd (pc' := 76) C d_Pc_drawPattern_75 rfl ?_
      refine q_let (fun x19 e19 => ?_)
      refine q_topi e19 ?_
      refine q_istore (pc' := 78) (lv' := [(5, .int x19), (0, .ref (g.1 o)), (1, .int p1), (2, .int x1), (3, .int x4)]) C d_Pc_drawPattern_76 (by decide) rfl rfl ?_
      exact Rt.sub [1, 2, 3, 4, 0] rfl (hJ7 x19)
    refine q_icmp_ne (tgt := 70) (pc' := 65) C d_Pc_drawPattern_62 rfl rfl ?_ ?_
    · refine q_bipush (pc' := 72) C d_Pc_drawPattern_70 kb_18 rfl ?_
      exact Rt.sub [4, 5, 3, 2] rfl (hJ17 (18 : Int32))
    · refine q_bipush (pc' := 67) C d_Pc_drawPattern_65 kb_14 rfl ?_
      refine q_goto (tgt := 72) C d_Pc_drawPattern_67 rfl ?_
      exact Rt.sub [4, 5, 3, 2] rfl (hJ17 (14 : Int32))
theorem d_Pc_addToLeg_0 : decode qC_Pc_addToLeg.1 0 = .ok (.aload_n 0, 1) := by decide +kernel
theorem d_Pc_addToLeg_1 : decode qC_Pc_addToLeg.1 1 = .ok (.getfield 54, 3) := by decide +kernel
theorem d_Pc_addToLeg_4 : decode qC_Pc_addToLeg.1 4 = .ok (.iload_n 2, 1) := by decide +kernel
theorem d_Pc_addToLeg_5 : decode qC_Pc_addToLeg.1 5 = .ok (.iconst 2, 1) := by decide +kernel
theorem d_Pc_addToLeg_6 : decode qC_Pc_addToLeg.1 6 = .ok (.invokevirtual 59, 3) := by decide +kernel
theorem d_Pc_addToLeg_9 : decode qC_Pc_addToLeg.1 9 = .ok (.istore_n 3, 1) := by decide +kernel
theorem d_Pc_addToLeg_10 : decode qC_Pc_addToLeg.1 10 = .ok (.aload_n 0, 1) := by decide +kernel
theorem d_Pc_addToLeg_11 : decode qC_Pc_addToLeg.1 11 = .ok (.getfield 54, 3) := by decide +kernel
theorem d_Pc_addToLeg_14 : decode qC_Pc_addToLeg.1 14 = .ok (.iload_n 2, 1) := by decide +kernel
theorem d_Pc_addToLeg_15 : decode qC_Pc_addToLeg.1 15 = .ok (.iconst 3, 1) := by decide +kernel
theorem d_Pc_addToLeg_16 : decode qC_Pc_addToLeg.1 16 = .ok (.invokevirtual 59, 3) := by decide +kernel
theorem d_Pc_addToLeg_19 : decode qC_Pc_addToLeg.1 19 = .ok (.istore 4, 2) := by decide +kernel
theorem d_Pc_addToLeg_21 : decode qC_Pc_addToLeg.1 21 = .ok (.aload_n 0, 1) := by decide +kernel
theorem d_Pc_addToLeg_22 : decode qC_Pc_addToLeg.1 22 = .ok (.getfield 30, 3) := by decide +kernel
theorem d_Pc_addToLeg_25 : decode qC_Pc_addToLeg.1 25 = .ok (.getfield 140, 3) := by decide +kernel
theorem d_Pc_addToLeg_28 : decode qC_Pc_addToLeg.1 28 = .ok (.iload_n 1, 1) := by decide +kernel
theorem d_Pc_addToLeg_29 : decode qC_Pc_addToLeg.1 29 = .ok (.bipush 11, 2) := by decide +kernel
theorem d_Pc_addToLeg_31 : decode qC_Pc_addToLeg.1 31 = .ok (.invokevirtual 59, 3) := by decide +kernel
theorem d_Pc_addToLeg_34 : decode qC_Pc_addToLeg.1 34 = .ok (.istore 5, 2) := by decide +kernel
theorem d_Pc_addToLeg_36 : decode qC_Pc_addToLeg.1 36 = .ok (.aload_n 0, 1) := by decide +kernel
theorem d_Pc_addToLeg_37 : decode qC_Pc_addToLeg.1 37 = .ok (.getfield 54, 3) := by decide +kernel
theorem d_Pc_addToLeg_40 : decode qC_Pc_addToLeg.1 40 = .ok (.iload_n 2, 1) := by decide +kernel
theorem d_Pc_addToLeg_41 : decode qC_Pc_addToLeg.1 41 = .ok (.iconst 1, 1) := by decide +kernel
theorem d_Pc_addToLeg_42 : decode qC_Pc_addToLeg.1 42 = .ok (.invokevirtual 59, 3) := by decide +kernel
theorem d_Pc_addToLeg_45 : decode qC_Pc_addToLeg.1 45 = .ok (.iconst 2, 1) := by decide +kernel
theorem d_Pc_addToLeg_46 : decode qC_Pc_addToLeg.1 46 = .ok (.if_icmp .ne 7, 3) := by decide +kernel
theorem d_Pc_addToLeg_49 : decode qC_Pc_addToLeg.1 49 = .ok (.iconst 1, 1) := by decide +kernel
theorem d_Pc_addToLeg_50 : decode qC_Pc_addToLeg.1 50 = .ok (.goto 4, 3) := by decide +kernel
theorem d_Pc_addToLeg_53 : decode qC_Pc_addToLeg.1 53 = .ok (.iconst 0, 1) := by decide +kernel
theorem d_Pc_addToLeg_54 : decode qC_Pc_addToLeg.1 54 = .ok (.istore 6, 2) := by decide +kernel
theorem d_Pc_addToLeg_56 : decode qC_Pc_addToLeg.1 56 = .ok (.iconst 1, 1) := by decide +kernel
theorem d_Pc_addToLeg_57 : decode qC_Pc_addToLeg.1 57 = .ok (.iload 6, 2) := by decide +kernel
theorem d_Pc_addToLeg_59 : decode qC_Pc_addToLeg.1 59 = .ok (.ifCond .eq 15, 3) := by decide +kernel
theorem d_Pc_addToLeg_62 : decode qC_Pc_addToLeg.1 62 = .ok (.aload_n 0, 1) := by decide +kernel
theorem d_Pc_addToLeg_63 : decode qC_Pc_addToLeg.1 63 = .ok (.getfield 34, 3) := by decide +kernel
theorem d_Pc_addToLeg_66 : decode qC_Pc_addToLeg.1 66 = .ok (.iload 5, 2) := by decide +kernel
theorem d_Pc_addToLeg_68 : decode qC_Pc_addToLeg.1 68 = .ok (.invokevirtual 141, 3) := by decide +kernel
theorem d_Pc_addToLeg_71 : decode qC_Pc_addToLeg.1 71 = .ok (.goto 14, 3) := by decide +kernel
theorem d_Pc_addToLeg_74 : decode qC_Pc_addToLeg.1 74 = .ok (.aload_n 0, 1) := by decide +kernel
theorem d_Pc_addToLeg_75 : decode qC_Pc_addToLeg.1 75 = .ok (.getfield 34, 3) := by decide +kernel
theorem d_Pc_addToLeg_78 : decode qC_Pc_addToLeg.1 78 = .ok (.iload 5, 2) := by decide +kernel
theorem d_Pc_addToLeg_80 : decode qC_Pc_addToLeg.1 80 = .ok (.iload 4, 2) := by decide +kernel
theorem d_Pc_addToLeg_82 : decode qC_Pc_addToLeg.1 82 = .ok (.invokevirtual 149, 3) := by decide +kernel
theorem d_Pc_addToLeg_85 : decode qC_Pc_addToLeg.1 85 = .ok (.invokestatic 134, 3) := by decide +kernel
theorem d_Pc_addToLeg_88 : decode qC_Pc_addToLeg.1 88 = .ok (.istore 7, 2) := by decide +kernel
theorem d_Pc_addToLeg_90 : decode qC_Pc_addToLeg.1 90 = .ok (.aload_n 0, 1) := by decide +kernel
theorem d_Pc_addToLeg_91 : decode qC_Pc_addToLeg.1 91 = .ok (.getfield 44, 3) := by decide +kernel
theorem d_Pc_addToLeg_94 : decode qC_Pc_addToLeg.1 94 = .ok (.iload_n 1, 1) := by decide +kernel
theorem d_Pc_addToLeg_95 : decode qC_Pc_addToLeg.1 95 = .ok (.bipush 9, 2) := by decide +kernel
theorem d_Pc_addToLeg_97 : decode qC_Pc_addToLeg.1 97 = .ok (.aload_n 0, 1) := by decide +kernel
theorem d_Pc_addToLeg_98 : decode qC_Pc_addToLeg.1 98 = .ok (.getfield 44, 3) := by decide +kernel
theorem d_Pc_addToLeg_101 : decode qC_Pc_addToLeg.1 101 = .ok (.iload_n 1, 1) := by decide +kernel
theorem d_Pc_addToLeg_102 : decode qC_Pc_addToLeg.1 102 = .ok (.bipush 9, 2) := by decide +kernel
theorem d_Pc_addToLeg_104 : decode qC_Pc_addToLeg.1 104 = .ok (.invokevirtual 59, 3) := by decide +kernel
theorem d_Pc_addToLeg_107 : decode qC_Pc_addToLeg.1 107 = .ok (.iload_n 3, 1) := by decide +kernel
theorem d_Pc_addToLeg_108 : decode qC_Pc_addToLeg.1 108 = .ok (.iadd, 1) := by decide +kernel
theorem d_Pc_addToLeg_109 : decode qC_Pc_addToLeg.1 109 = .ok (.invokevirtual 98, 3) := by decide +kernel
theorem d_Pc_addToLeg_112 : decode qC_Pc_addToLeg.1 112 = .ok (.aload_n 0, 1) := by decide +kernel
theorem d_Pc_addToLeg_113 : decode qC_Pc_addToLeg.1 113 = .ok (.getfield 44, 3) := by decide +kernel
theorem d_Pc_addToLeg_116 : decode qC_Pc_addToLeg.1 116 = .ok (.iload_n 1, 1) := by decide +kernel
theorem d_Pc_addToLeg_117 : decode qC_Pc_addToLeg.1 117 = .ok (.bipush 10, 2) := by decide +kernel
theorem d_Pc_addToLeg_119 : decode qC_Pc_addToLeg.1 119 = .ok (.aload_n 0, 1) := by decide +kernel
theorem d_Pc_addToLeg_120 : decode qC_Pc_addToLeg.1 120 = .ok (.getfield 44, 3) := by decide +kernel
theorem d_Pc_addToLeg_123 : decode qC_Pc_addToLeg.1 123 = .ok (.iload_n 1, 1) := by decide +kernel
theorem d_Pc_addToLeg_124 : decode qC_Pc_addToLeg.1 124 = .ok (.bipush 10, 2) := by decide +kernel
theorem d_Pc_addToLeg_126 : decode qC_Pc_addToLeg.1 126 = .ok (.invokevirtual 59, 3) := by decide +kernel
theorem d_Pc_addToLeg_129 : decode qC_Pc_addToLeg.1 129 = .ok (.iload_n 3, 1) := by decide +kernel
theorem d_Pc_addToLeg_130 : decode qC_Pc_addToLeg.1 130 = .ok (.sipush 360, 3) := by decide +kernel
theorem d_Pc_addToLeg_133 : decode qC_Pc_addToLeg.1 133 = .ok (.imul, 1) := by decide +kernel
theorem d_Pc_addToLeg_134 : decode qC_Pc_addToLeg.1 134 = .ok (.iload 7, 2) := by decide +kernel
theorem d_Pc_addToLeg_136 : decode qC_Pc_addToLeg.1 136 = .ok (.idiv, 1) := by decide +kernel
theorem d_Pc_addToLeg_137 : decode qC_Pc_addToLeg.1 137 = .ok (.iadd, 1) := by decide +kernel
theorem d_Pc_addToLeg_138 : decode qC_Pc_addToLeg.1 138 = .ok (.invokevirtual 98, 3) := by decide +kernel
theorem d_Pc_addToLeg_141 : decode qC_Pc_addToLeg.1 141 = .ok (.aload_n 0, 1) := by decide +kernel
theorem d_Pc_addToLeg_142 : decode qC_Pc_addToLeg.1 142 = .ok (.getfield 44, 3) := by decide +kernel
theorem d_Pc_addToLeg_145 : decode qC_Pc_addToLeg.1 145 = .ok (.iload_n 1, 1) := by decide +kernel
theorem d_Pc_addToLeg_146 : decode qC_Pc_addToLeg.1 146 = .ok (.bipush 11, 2) := by decide +kernel
theorem d_Pc_addToLeg_148 : decode qC_Pc_addToLeg.1 148 = .ok (.iload 4, 2) := by decide +kernel
theorem d_Pc_addToLeg_150 : decode qC_Pc_addToLeg.1 150 = .ok (.invokevirtual 98, 3) := by decide +kernel
theorem d_Pc_addToLeg_153 : decode qC_Pc_addToLeg.1 153 = .ok (.return_, 1) := by decide +kernel
set_option maxRecDepth 100000 in
def f_Pc_addToLeg (σ : St) (o : Nat) (p1 : Int32) (p2 : Int32) : Option (St) :=
  Option.bind (f_Tb_get σ (rc o 4) p2 (2 : Int32)) fun x1 =>
  Option.bind (f_Tb_get σ (rc o 4) p2 (3 : Int32)) fun x2 =>
  Option.bind (f_Tb_get σ (rc (rc o 0) 0) p1 (11 : Int32)) fun x3 =>
  Option.bind (f_Tb_get σ (rc o 4) p2 (1 : Int32)) fun x4 =>
  Jn (fun (x5 : Int32) =>
  Jn (fun (x7 : Int32) =>
  Lt ((imax (1 : Int32) x7) : Int32) fun x9 =>
  Option.bind (f_Tb_get σ (rc o 2) p1 (9 : Int32)) fun x10 =>
  Option.bind (f_Tb_put σ (rc o 2) p1 (9 : Int32) (x10 + x1)) fun x11 =>
  Option.bind (f_Tb_get x11 (rc o 2) p1 (10 : Int32)) fun x12 =>
  Gd (¬ (x9 : Int32) = 0) <|
  Option.bind (f_Tb_put x11 (rc o 2) p1 (10 : Int32) (x12 + ((x1 * (360 : Int32)) / x9))) fun x14 =>
  Option.bind (f_Tb_put x14 (rc o 2) p1 (11 : Int32) x2) fun x15 =>
  some x15
  ) fun J8 =>
  if (x5 : Int32) = 0 then (
  Option.bind (f_Sg_groundSpeed σ (rc o 1) x3 x2) fun x16 =>
  J8 x16
  ) else (
  Option.bind (f_Sg_airSpeed σ (rc o 1) x3) fun x17 =>
  J8 x17
  )
  ) fun J6 =>
  if (x4 : Int32) = (2 : Int32) then (
  J6 (1 : Int32)
  ) else (
  J6 (0 : Int32)
  )
set_option maxHeartbeats 4000000 in
set_option maxRecDepth 100000 in
theorem cC_Pc_addToLeg (l : Launch) (g : Ge) (hi : injB wC.2 g) (σ : St) (o : Nat) (ho : wC.2.2.1 o = .inr (2, 11)) (p1 : Int32) (p2 : Int32) (x : St) (h : f_Pc_addToLeg σ o p1 p2 = some x) : Ct l wC g yC_Pc_addToLeg qC_Pc_addToLeg 3 65 [.ref (g.1 o), .int p1, .int p2] σ (none, x) := by
  refine Ct.of (out := o_v) FC_Pc_addToLeg rfl hi rfl h (fun z hz C => ?_)
  clear h
  subst hz
  unfold f_Pc_addToLeg
  show Rt z qC_Pc_addToLeg wC g o_v 0 [(0, .ref (g.1 o)), (1, .int p1), (2, .int p2)] [] σ _
  refine q_aload_n (pc' := 1) C 0 d_Pc_addToLeg_0 rfl rfl ?_
  refine gC_Pc_54 (pc' := 4) C o (rc o 4) ho (ly_2_4 ho).1 d_Pc_addToLeg_1 rfl rfl ?_
  refine q_iload_n (pc' := 5) C 2 d_Pc_addToLeg_4 rfl rfl ?_
  refine q_iconst (pc' := 6) C d_Pc_addToLeg_5 ki_2 rfl ?_
  refine q_callVr (fr' := 0) (lo' := 0) (pc' := 9) C FC_Tb_get lmC_Pc_59 d_Pc_addToLeg_6 (rc o 4) (jCo (ly_2_4 ho).2) (ly_2_4 ho).2 cC_8 [.int p2, .int (2 : Int32)] [] rfl rfl (Nat.le_of_ble_eq_true rfl) ⟨rfl, rfl⟩ (fun x h => cC_Tb_get _ g hi σ (rc o 4) (ly_2_4 ho).2 p2 (2 : Int32) x h) rfl (fun x1 hx1 => ?_)
  refine q_istore_n (pc' := 10) (lv' := [(3, .int x1), (0, .ref (g.1 o)), (1, .int p1), (2, .int p2)]) C d_Pc_addToLeg_9 (by decide) rfl rfl ?_
  refine q_aload_n (pc' := 11) C 1 d_Pc_addToLeg_10 rfl rfl ?_
  refine gC_Pc_54 (pc' := 14) C o (rc o 4) ho (ly_2_4 ho).1 d_Pc_addToLeg_11 rfl rfl ?_
  refine q_iload_n (pc' := 15) C 3 d_Pc_addToLeg_14 rfl rfl ?_
  refine q_iconst (pc' := 16) C d_Pc_addToLeg_15 ki_3 rfl ?_
  refine q_callVr (fr' := 0) (lo' := 0) (pc' := 19) C FC_Tb_get lmC_Pc_59 d_Pc_addToLeg_16 (rc o 4) (jCo (ly_2_4 ho).2) (ly_2_4 ho).2 cC_8 [.int p2, .int (3 : Int32)] [] rfl rfl (Nat.le_of_ble_eq_true rfl) ⟨rfl, rfl⟩ (fun x h => cC_Tb_get _ g hi σ (rc o 4) (ly_2_4 ho).2 p2 (3 : Int32) x h) rfl (fun x2 hx2 => ?_)
  refine q_istore (pc' := 21) (lv' := [(4, .int x2), (3, .int x1), (0, .ref (g.1 o)), (1, .int p1), (2, .int p2)]) C d_Pc_addToLeg_19 (by decide) rfl rfl ?_
  refine q_aload_n (pc' := 22) C 2 d_Pc_addToLeg_21 rfl rfl ?_
  refine gC_Pc_30 (pc' := 25) C o (rc o 0) ho (ly_2_0 ho).1 d_Pc_addToLeg_22 rfl rfl ?_
  refine gC_Pc_140 (pc' := 28) C (rc o 0) (rc (rc o 0) 0) (ly_2_0 ho).2 (ly_3_0 (ly_2_0 ho).2).1 d_Pc_addToLeg_25 rfl rfl ?_
  refine q_iload_n (pc' := 29) C 3 d_Pc_addToLeg_28 rfl rfl ?_
  refine q_bipush (pc' := 31) C d_Pc_addToLeg_29 kb_11 rfl ?_
  refine q_callVr (fr' := 0) (lo' := 0) (pc' := 34) C FC_Tb_get lmC_Pc_59 d_Pc_addToLeg_31 (rc (rc o 0) 0) (jCo (ly_3_0 (ly_2_0 ho).2).2) (ly_3_0 (ly_2_0 ho).2).2 cC_8 [.int p1, .int (11 : Int32)] [] rfl rfl (Nat.le_of_ble_eq_true rfl) ⟨rfl, rfl⟩ (fun x h => cC_Tb_get _ g hi σ (rc (rc o 0) 0) (ly_3_0 (ly_2_0 ho).2).2 p1 (11 : Int32) x h) rfl (fun x3 hx3 => ?_)
  refine q_istore (pc' := 36) (lv' := [(5, .int x3), (4, .int x2), (3, .int x1), (0, .ref (g.1 o)), (1, .int p1), (2, .int p2)]) C d_Pc_addToLeg_34 (by decide) rfl rfl ?_
  refine q_aload_n (pc' := 37) C 3 d_Pc_addToLeg_36 rfl rfl ?_
  refine gC_Pc_54 (pc' := 40) C o (rc o 4) ho (ly_2_4 ho).1 d_Pc_addToLeg_37 rfl rfl ?_
  refine q_iload_n (pc' := 41) C 5 d_Pc_addToLeg_40 rfl rfl ?_
  refine q_iconst (pc' := 42) C d_Pc_addToLeg_41 ki_1 rfl ?_
  refine q_callVr (fr' := 0) (lo' := 0) (pc' := 45) C FC_Tb_get lmC_Pc_59 d_Pc_addToLeg_42 (rc o 4) (jCo (ly_2_4 ho).2) (ly_2_4 ho).2 cC_8 [.int p2, .int (1 : Int32)] [] rfl rfl (Nat.le_of_ble_eq_true rfl) ⟨rfl, rfl⟩ (fun x h => cC_Tb_get _ g hi σ (rc o 4) (ly_2_4 ho).2 p2 (1 : Int32) x h) rfl (fun x4 hx4 => ?_)
  refine q_iconst (pc' := 46) C d_Pc_addToLeg_45 ki_2 rfl ?_
  refine q_join (fun J6 : Int32 → Option (St) => ∀ (x5 : Int32), Rt z qC_Pc_addToLeg wC g o_v 54 [(0, .ref (g.1 o)), (1, .int p1), (3, .int x1), (4, .int x2), (5, .int x3)] [.int x5] σ (J6 x5)) (fun x5 => ?_) (fun J6 hJ6 => ?_)
  · refine q_istore (pc' := 56) (lv' := [(6, .int x5), (0, .ref (g.1 o)), (1, .int p1), (3, .int x1), (4, .int x2), (5, .int x3)]) C d_Pc_addToLeg_54 (by decide) rfl rfl ?_
    refine q_iconst (pc' := 57) C d_Pc_addToLeg_56 ki_1 rfl ?_
    refine q_iload (pc' := 59) C 0 d_Pc_addToLeg_57 rfl rfl ?_
    refine q_join (fun J8 : Int32 → Option (St) => ∀ (x7 : Int32), Rt z qC_Pc_addToLeg wC g o_v 85 [(0, .ref (g.1 o)), (1, .int p1), (3, .int x1), (4, .int x2)] [.int x7, .int (1 : Int32)] σ (J8 x7)) (fun x7 => ?_) (fun J8 hJ8 => ?_)
    · refine q_mmax (pc' := 88) C lj_max_Pc_134 (Nat.le_of_ble_eq_true rfl) ⟨rfl, rfl⟩ d_Pc_addToLeg_85 rfl ?_
      refine q_let (fun x9 e9 => ?_)
      refine q_topi e9 ?_
      refine q_istore (pc' := 90) (lv' := [(7, .int x9), (0, .ref (g.1 o)), (1, .int p1), (3, .int x1), (4, .int x2)]) C d_Pc_addToLeg_88 (by decide) rfl rfl ?_
      refine q_aload_n (pc' := 91) C 1 d_Pc_addToLeg_90 rfl rfl ?_
      refine gC_Pc_44 (pc' := 94) C o (rc o 2) ho (ly_2_2 ho).1 d_Pc_addToLeg_91 rfl rfl ?_
      refine q_iload_n (pc' := 95) C 2 d_Pc_addToLeg_94 rfl rfl ?_
      refine q_bipush (pc' := 97) C d_Pc_addToLeg_95 kb_9 rfl ?_
      refine q_aload_n (pc' := 98) C 1 d_Pc_addToLeg_97 rfl rfl ?_
      refine gC_Pc_44 (pc' := 101) C o (rc o 2) ho (ly_2_2 ho).1 d_Pc_addToLeg_98 rfl rfl ?_
      refine q_iload_n (pc' := 102) C 2 d_Pc_addToLeg_101 rfl rfl ?_
      refine q_bipush (pc' := 104) C d_Pc_addToLeg_102 kb_9 rfl ?_
      refine q_callVr (fr' := 0) (lo' := 0) (pc' := 107) C FC_Tb_get lmC_Pc_59 d_Pc_addToLeg_104 (rc o 2) (jCo (ly_2_2 ho).2) (ly_2_2 ho).2 cC_8 [.int p1, .int (9 : Int32)] [.int (9 : Int32), .int p1, .ref (g.1 (rc o 2))] rfl rfl (Nat.le_of_ble_eq_true rfl) ⟨rfl, rfl⟩ (fun x h => cC_Tb_get _ g hi σ (rc o 2) (ly_2_2 ho).2 p1 (9 : Int32) x h) rfl (fun x10 hx10 => ?_)
      refine q_iload_n (pc' := 108) C 3 d_Pc_addToLeg_107 rfl rfl ?_
      refine q_iadd (pc' := 109) C d_Pc_addToLeg_108 rfl ?_
      refine q_callVv (fr' := 0) (lo' := 0) (pc' := 112) C FC_Tb_put lmC_Pc_98 d_Pc_addToLeg_109 (rc o 2) (jCo (ly_2_2 ho).2) (ly_2_2 ho).2 cC_8 [.int p1, .int (9 : Int32), .int (x10 + x1)] [] rfl rfl (Nat.le_of_ble_eq_true rfl) ⟨rfl, rfl⟩ (fun x h => cC_Tb_put _ g hi σ (rc o 2) (ly_2_2 ho).2 p1 (9 : Int32) (x10 + x1) x h) rfl (fun x11 hx11 => ?_)
      refine q_aload_n (pc' := 113) C 1 d_Pc_addToLeg_112 rfl rfl ?_
      refine gC_Pc_44 (pc' := 116) C o (rc o 2) ho (ly_2_2 ho).1 d_Pc_addToLeg_113 rfl rfl ?_
      refine q_iload_n (pc' := 117) C 2 d_Pc_addToLeg_116 rfl rfl ?_
      refine q_bipush (pc' := 119) C d_Pc_addToLeg_117 kb_10 rfl ?_
      refine q_aload_n (pc' := 120) C 1 d_Pc_addToLeg_119 rfl rfl ?_
      refine gC_Pc_44 (pc' := 123) C o (rc o 2) ho (ly_2_2 ho).1 d_Pc_addToLeg_120 rfl rfl ?_
      refine q_iload_n (pc' := 124) C 2 d_Pc_addToLeg_123 rfl rfl ?_
      refine q_bipush (pc' := 126) C d_Pc_addToLeg_124 kb_10 rfl ?_
      refine q_callVr (fr' := 0) (lo' := 0) (pc' := 129) C FC_Tb_get lmC_Pc_59 d_Pc_addToLeg_126 (rc o 2) (jCo (ly_2_2 ho).2) (ly_2_2 ho).2 cC_8 [.int p1, .int (10 : Int32)] [.int (10 : Int32), .int p1, .ref (g.1 (rc o 2))] rfl rfl (Nat.le_of_ble_eq_true rfl) ⟨rfl, rfl⟩ (fun x h => cC_Tb_get _ g hi x11 (rc o 2) (ly_2_2 ho).2 p1 (10 : Int32) x h) rfl (fun x12 hx12 => ?_)
      refine q_iload_n (pc' := 130) C 3 d_Pc_addToLeg_129 rfl rfl ?_
      refine q_sipush (pc' := 133) C d_Pc_addToLeg_130 ks_360 rfl ?_
      refine q_imul (pc' := 134) C d_Pc_addToLeg_133 rfl ?_
      refine q_iload (pc' := 136) C 0 d_Pc_addToLeg_134 rfl rfl ?_
      refine q_guard (fun gx13 => ?_)
      refine q_idiv (pc' := 137) C gx13 d_Pc_addToLeg_136 rfl ?_
      refine q_iadd (pc' := 138) C d_Pc_addToLeg_137 rfl ?_
      refine q_callVv (fr' := 0) (lo' := 0) (pc' := 141) C FC_Tb_put lmC_Pc_98 d_Pc_addToLeg_138 (rc o 2) (jCo (ly_2_2 ho).2) (ly_2_2 ho).2 cC_8 [.int p1, .int (10 : Int32), .int (x12 + ((x1 * (360 : Int32)) / x9))] [] rfl rfl (Nat.le_of_ble_eq_true rfl) ⟨rfl, rfl⟩ (fun x h => cC_Tb_put _ g hi x11 (rc o 2) (ly_2_2 ho).2 p1 (10 : Int32) (x12 + ((x1 * (360 : Int32)) / x9)) x h) rfl (fun x14 hx14 => ?_)
      refine q_aload_n (pc' := 142) C 1 d_Pc_addToLeg_141 rfl rfl ?_
      refine gC_Pc_44 (pc' := 145) C o (rc o 2) ho (ly_2_2 ho).1 d_Pc_addToLeg_142 rfl rfl ?_
      refine q_iload_n (pc' := 146) C 2 d_Pc_addToLeg_145 rfl rfl ?_
      refine q_bipush (pc' := 148) C d_Pc_addToLeg_146 kb_11 rfl ?_
      refine q_iload (pc' := 150) C 4 d_Pc_addToLeg_148 rfl rfl ?_
      refine q_callVv (fr' := 0) (lo' := 0) (pc' := 153) C FC_Tb_put lmC_Pc_98 d_Pc_addToLeg_150 (rc o 2) (jCo (ly_2_2 ho).2) (ly_2_2 ho).2 cC_8 [.int p1, .int (11 : Int32), .int x2] [] rfl rfl (Nat.le_of_ble_eq_true rfl) ⟨rfl, rfl⟩ (fun x h => cC_Tb_put _ g hi x14 (rc o 2) (ly_2_2 ho).2 p1 (11 : Int32) x2 x h) rfl (fun x15 hx15 => ?_)
      exact q_vret C rfl d_Pc_addToLeg_153 rfl
    refine q_if_eq (tgt := 74) (pc' := 62) C d_Pc_addToLeg_59 rfl rfl ?_ ?_
    · refine q_aload_n (pc' := 75) C 1 d_Pc_addToLeg_74 rfl rfl ?_
      refine gC_Pc_34 (pc' := 78) C o (rc o 1) ho (ly_2_1 ho).1 d_Pc_addToLeg_75 rfl rfl ?_
      refine q_iload (pc' := 80) C 5 d_Pc_addToLeg_78 rfl rfl ?_
      refine q_iload (pc' := 82) C 4 d_Pc_addToLeg_80 rfl rfl ?_
      refine q_callVr (fr' := 2) (lo' := 42) (pc' := 85) C FC_Sg_groundSpeed lmC_Pc_149 d_Pc_addToLeg_82 (rc o 1) (jCo (ly_2_1 ho).2) (ly_2_1 ho).2 cC_7 [.int x3, .int x2] [.int (1 : Int32)] rfl rfl (Nat.le_of_ble_eq_true rfl) ⟨rfl, rfl⟩ (fun x h => cC_Sg_groundSpeed _ g hi σ (rc o 1) (ly_2_1 ho).2 x3 x2 x h) rfl (fun x16 hx16 => ?_)
      exact Rt.sub [1, 2, 3, 4] rfl (hJ8 x16)
    · refine q_aload_n (pc' := 63) C 1 d_Pc_addToLeg_62 rfl rfl ?_
      refine gC_Pc_34 (pc' := 66) C o (rc o 1) ho (ly_2_1 ho).1 d_Pc_addToLeg_63 rfl rfl ?_
      refine q_iload (pc' := 68) C 5 d_Pc_addToLeg_66 rfl rfl ?_
      refine q_callVr (fr' := 1) (lo' := 21) (pc' := 71) C FC_Sg_airSpeed lmC_Pc_141 d_Pc_addToLeg_68 (rc o 1) (jCo (ly_2_1 ho).2) (ly_2_1 ho).2 cC_7 [.int x3] [.int (1 : Int32)] rfl rfl (Nat.le_of_ble_eq_true rfl) ⟨rfl, rfl⟩ (fun x h => cC_Sg_airSpeed _ g hi σ (rc o 1) (ly_2_1 ho).2 x3 x h) rfl (fun x17 hx17 => ?_)
      refine q_goto (tgt := 85) C d_Pc_addToLeg_71 rfl ?_
      exact Rt.sub [1, 2, 3, 4] rfl (hJ8 x17)
  refine q_icmp_ne (tgt := 53) (pc' := 49) C d_Pc_addToLeg_46 rfl rfl ?_ ?_
  · refine q_iconst (pc' := 54) C d_Pc_addToLeg_53 ki_0 rfl ?_
    exact Rt.sub [3, 4, 2, 1, 0] rfl (hJ6 (0 : Int32))
  · refine q_iconst (pc' := 50) C d_Pc_addToLeg_49 ki_1 rfl ?_
    refine q_goto (tgt := 54) C d_Pc_addToLeg_50 rfl ?_
    exact Rt.sub [3, 4, 2, 1, 0] rfl (hJ6 (1 : Int32))
