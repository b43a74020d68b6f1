/-! the methods of the program, 2 -/
theorem d_Tk_layLeg_0 : decode qC_Tk_layLeg.1 0 = .ok (.aload_n 0, 1) := by decide +kernel
theorem d_Tk_layLeg_1 : decode qC_Tk_layLeg.1 1 = .ok (.getfield 45, 3) := by decide +kernel
theorem d_Tk_layLeg_4 : decode qC_Tk_layLeg.1 4 = .ok (.iload_n 1, 1) := by decide +kernel
theorem d_Tk_layLeg_5 : decode qC_Tk_layLeg.1 5 = .ok (.iconst 2, 1) := by decide +kernel
theorem d_Tk_layLeg_6 : decode qC_Tk_layLeg.1 6 = .ok (.ldc 67, 2) := by decide +kernel
theorem d_Tk_layLeg_8 : decode qC_Tk_layLeg.1 8 = .ok (.invokevirtual 68, 3) := by decide +kernel
theorem d_Tk_layLeg_11 : decode qC_Tk_layLeg.1 11 = .ok (.aload_n 0, 1) := by decide +kernel
theorem d_Tk_layLeg_12 : decode qC_Tk_layLeg.1 12 = .ok (.getfield 45, 3) := by decide +kernel
theorem d_Tk_layLeg_15 : decode qC_Tk_layLeg.1 15 = .ok (.iload_n 1, 1) := by decide +kernel
theorem d_Tk_layLeg_16 : decode qC_Tk_layLeg.1 16 = .ok (.iconst 3, 1) := by decide +kernel
theorem d_Tk_layLeg_17 : decode qC_Tk_layLeg.1 17 = .ok (.ldc 67, 2) := by decide +kernel
theorem d_Tk_layLeg_19 : decode qC_Tk_layLeg.1 19 = .ok (.invokevirtual 68, 3) := by decide +kernel
theorem d_Tk_layLeg_22 : decode qC_Tk_layLeg.1 22 = .ok (.aload_n 0, 1) := by decide +kernel
theorem d_Tk_layLeg_23 : decode qC_Tk_layLeg.1 23 = .ok (.getfield 45, 3) := by decide +kernel
theorem d_Tk_layLeg_26 : decode qC_Tk_layLeg.1 26 = .ok (.iload_n 1, 1) := by decide +kernel
theorem d_Tk_layLeg_27 : decode qC_Tk_layLeg.1 27 = .ok (.bipush 11, 2) := by decide +kernel
theorem d_Tk_layLeg_29 : decode qC_Tk_layLeg.1 29 = .ok (.ldc 67, 2) := by decide +kernel
theorem d_Tk_layLeg_31 : decode qC_Tk_layLeg.1 31 = .ok (.invokevirtual 68, 3) := by decide +kernel
theorem d_Tk_layLeg_34 : decode qC_Tk_layLeg.1 34 = .ok (.aload_n 0, 1) := by decide +kernel
theorem d_Tk_layLeg_35 : decode qC_Tk_layLeg.1 35 = .ok (.getfield 45, 3) := by decide +kernel
theorem d_Tk_layLeg_38 : decode qC_Tk_layLeg.1 38 = .ok (.iload_n 1, 1) := by decide +kernel
theorem d_Tk_layLeg_39 : decode qC_Tk_layLeg.1 39 = .ok (.bipush 8, 2) := by decide +kernel
theorem d_Tk_layLeg_41 : decode qC_Tk_layLeg.1 41 = .ok (.ldc 67, 2) := by decide +kernel
theorem d_Tk_layLeg_43 : decode qC_Tk_layLeg.1 43 = .ok (.invokevirtual 68, 3) := by decide +kernel
theorem d_Tk_layLeg_46 : decode qC_Tk_layLeg.1 46 = .ok (.aload_n 0, 1) := by decide +kernel
theorem d_Tk_layLeg_47 : decode qC_Tk_layLeg.1 47 = .ok (.getfield 37, 3) := by decide +kernel
theorem d_Tk_layLeg_50 : decode qC_Tk_layLeg.1 50 = .ok (.iload_n 1, 1) := by decide +kernel
theorem d_Tk_layLeg_51 : decode qC_Tk_layLeg.1 51 = .ok (.invokevirtual 72, 3) := by decide +kernel
theorem d_Tk_layLeg_54 : decode qC_Tk_layLeg.1 54 = .ok (.istore_n 2, 1) := by decide +kernel
theorem d_Tk_layLeg_55 : decode qC_Tk_layLeg.1 55 = .ok (.aload_n 0, 1) := by decide +kernel
theorem d_Tk_layLeg_56 : decode qC_Tk_layLeg.1 56 = .ok (.iload_n 1, 1) := by decide +kernel
theorem d_Tk_layLeg_57 : decode qC_Tk_layLeg.1 57 = .ok (.invokevirtual 78, 3) := by decide +kernel
theorem d_Tk_layLeg_60 : decode qC_Tk_layLeg.1 60 = .ok (.ifCond .eq 11, 3) := by decide +kernel
theorem d_Tk_layLeg_63 : decode qC_Tk_layLeg.1 63 = .ok (.aload_n 0, 1) := by decide +kernel
theorem d_Tk_layLeg_64 : decode qC_Tk_layLeg.1 64 = .ok (.iload_n 1, 1) := by decide +kernel
theorem d_Tk_layLeg_65 : decode qC_Tk_layLeg.1 65 = .ok (.invokevirtual 82, 3) := by decide +kernel
theorem d_Tk_layLeg_68 : decode qC_Tk_layLeg.1 68 = .ok (.goto 94, 3) := by decide +kernel
theorem d_Tk_layLeg_71 : decode qC_Tk_layLeg.1 71 = .ok (.iload_n 2, 1) := by decide +kernel
theorem d_Tk_layLeg_72 : decode qC_Tk_layLeg.1 72 = .ok (.iconst 3, 1) := by decide +kernel
theorem d_Tk_layLeg_73 : decode qC_Tk_layLeg.1 73 = .ok (.if_icmp .ne 11, 3) := by decide +kernel
theorem d_Tk_layLeg_76 : decode qC_Tk_layLeg.1 76 = .ok (.aload_n 0, 1) := by decide +kernel
theorem d_Tk_layLeg_77 : decode qC_Tk_layLeg.1 77 = .ok (.iload_n 1, 1) := by decide +kernel
theorem d_Tk_layLeg_78 : decode qC_Tk_layLeg.1 78 = .ok (.invokevirtual 86, 3) := by decide +kernel
theorem d_Tk_layLeg_81 : decode qC_Tk_layLeg.1 81 = .ok (.goto 81, 3) := by decide +kernel
theorem d_Tk_layLeg_84 : decode qC_Tk_layLeg.1 84 = .ok (.iload_n 2, 1) := by decide +kernel
theorem d_Tk_layLeg_85 : decode qC_Tk_layLeg.1 85 = .ok (.iconst 4, 1) := by decide +kernel
theorem d_Tk_layLeg_86 : decode qC_Tk_layLeg.1 86 = .ok (.if_icmp .ne 11, 3) := by decide +kernel
theorem d_Tk_layLeg_89 : decode qC_Tk_layLeg.1 89 = .ok (.aload_n 0, 1) := by decide +kernel
theorem d_Tk_layLeg_90 : decode qC_Tk_layLeg.1 90 = .ok (.iload_n 1, 1) := by decide +kernel
theorem d_Tk_layLeg_91 : decode qC_Tk_layLeg.1 91 = .ok (.invokevirtual 89, 3) := by decide +kernel
theorem d_Tk_layLeg_94 : decode qC_Tk_layLeg.1 94 = .ok (.goto 68, 3) := by decide +kernel
theorem d_Tk_layLeg_97 : decode qC_Tk_layLeg.1 97 = .ok (.iload_n 2, 1) := by decide +kernel
theorem d_Tk_layLeg_98 : decode qC_Tk_layLeg.1 98 = .ok (.iconst 5, 1) := by decide +kernel
theorem d_Tk_layLeg_99 : decode qC_Tk_layLeg.1 99 = .ok (.if_icmp .ne 11, 3) := by decide +kernel
theorem d_Tk_layLeg_102 : decode qC_Tk_layLeg.1 102 = .ok (.aload_n 0, 1) := by decide +kernel
theorem d_Tk_layLeg_103 : decode qC_Tk_layLeg.1 103 = .ok (.iload_n 1, 1) := by decide +kernel
theorem d_Tk_layLeg_104 : decode qC_Tk_layLeg.1 104 = .ok (.invokevirtual 92, 3) := by decide +kernel
theorem d_Tk_layLeg_107 : decode qC_Tk_layLeg.1 107 = .ok (.goto 55, 3) := by decide +kernel
theorem d_Tk_layLeg_110 : decode qC_Tk_layLeg.1 110 = .ok (.iload_n 2, 1) := by decide +kernel
theorem d_Tk_layLeg_111 : decode qC_Tk_layLeg.1 111 = .ok (.bipush 6, 2) := by decide +kernel
theorem d_Tk_layLeg_113 : decode qC_Tk_layLeg.1 113 = .ok (.if_icmp .ne 13, 3) := by decide +kernel
theorem d_Tk_layLeg_116 : decode qC_Tk_layLeg.1 116 = .ok (.aload_n 0, 1) := by decide +kernel
theorem d_Tk_layLeg_117 : decode qC_Tk_layLeg.1 117 = .ok (.iload_n 1, 1) := by decide +kernel
theorem d_Tk_layLeg_118 : decode qC_Tk_layLeg.1 118 = .ok (.bipush 100, 2) := by decide +kernel
theorem d_Tk_layLeg_120 : decode qC_Tk_layLeg.1 120 = .ok (.invokevirtual 95, 3) := by decide +kernel
theorem d_Tk_layLeg_123 : decode qC_Tk_layLeg.1 123 = .ok (.goto 39, 3) := by decide +kernel
theorem d_Tk_layLeg_126 : decode qC_Tk_layLeg.1 126 = .ok (.aload_n 0, 1) := by decide +kernel
theorem d_Tk_layLeg_127 : decode qC_Tk_layLeg.1 127 = .ok (.iload_n 1, 1) := by decide +kernel
theorem d_Tk_layLeg_128 : decode qC_Tk_layLeg.1 128 = .ok (.aload_n 0, 1) := by decide +kernel
theorem d_Tk_layLeg_129 : decode qC_Tk_layLeg.1 129 = .ok (.getfield 37, 3) := by decide +kernel
theorem d_Tk_layLeg_132 : decode qC_Tk_layLeg.1 132 = .ok (.getfield 98, 3) := by decide +kernel
theorem d_Tk_layLeg_135 : decode qC_Tk_layLeg.1 135 = .ok (.iload_n 1, 1) := by decide +kernel
theorem d_Tk_layLeg_136 : decode qC_Tk_layLeg.1 136 = .ok (.bipush 7, 2) := by decide +kernel
theorem d_Tk_layLeg_138 : decode qC_Tk_layLeg.1 138 = .ok (.invokevirtual 99, 3) := by decide +kernel
theorem d_Tk_layLeg_141 : decode qC_Tk_layLeg.1 141 = .ok (.aload_n 0, 1) := by decide +kernel
theorem d_Tk_layLeg_142 : decode qC_Tk_layLeg.1 142 = .ok (.getfield 37, 3) := by decide +kernel
theorem d_Tk_layLeg_145 : decode qC_Tk_layLeg.1 145 = .ok (.getfield 98, 3) := by decide +kernel
theorem d_Tk_layLeg_148 : decode qC_Tk_layLeg.1 148 = .ok (.iload_n 1, 1) := by decide +kernel
theorem d_Tk_layLeg_149 : decode qC_Tk_layLeg.1 149 = .ok (.bipush 8, 2) := by decide +kernel
theorem d_Tk_layLeg_151 : decode qC_Tk_layLeg.1 151 = .ok (.invokevirtual 99, 3) := by decide +kernel
theorem d_Tk_layLeg_154 : decode qC_Tk_layLeg.1 154 = .ok (.invokevirtual 103, 3) := by decide +kernel
theorem d_Tk_layLeg_157 : decode qC_Tk_layLeg.1 157 = .ok (.aload_n 0, 1) := by decide +kernel
theorem d_Tk_layLeg_158 : decode qC_Tk_layLeg.1 158 = .ok (.iload_n 1, 1) := by decide +kernel
theorem d_Tk_layLeg_159 : decode qC_Tk_layLeg.1 159 = .ok (.invokevirtual 106, 3) := by decide +kernel
theorem d_Tk_layLeg_162 : decode qC_Tk_layLeg.1 162 = .ok (.iload_n 2, 1) := by decide +kernel
theorem d_Tk_layLeg_163 : decode qC_Tk_layLeg.1 163 = .ok (.bipush 7, 2) := by decide +kernel
theorem d_Tk_layLeg_165 : decode qC_Tk_layLeg.1 165 = .ok (.if_icmp .ne 11, 3) := by decide +kernel
theorem d_Tk_layLeg_168 : decode qC_Tk_layLeg.1 168 = .ok (.aload_n 0, 1) := by decide +kernel
theorem d_Tk_layLeg_169 : decode qC_Tk_layLeg.1 169 = .ok (.iload_n 1, 1) := by decide +kernel
theorem d_Tk_layLeg_170 : decode qC_Tk_layLeg.1 170 = .ok (.invokevirtual 109, 3) := by decide +kernel
theorem d_Tk_layLeg_173 : decode qC_Tk_layLeg.1 173 = .ok (.goto 24, 3) := by decide +kernel
theorem d_Tk_layLeg_176 : decode qC_Tk_layLeg.1 176 = .ok (.iload_n 2, 1) := by decide +kernel
theorem d_Tk_layLeg_177 : decode qC_Tk_layLeg.1 177 = .ok (.iconst 4, 1) := by decide +kernel
theorem d_Tk_layLeg_178 : decode qC_Tk_layLeg.1 178 = .ok (.if_icmp .ne 19, 3) := by decide +kernel
theorem d_Tk_layLeg_181 : decode qC_Tk_layLeg.1 181 = .ok (.aload_n 0, 1) := by decide +kernel
theorem d_Tk_layLeg_182 : decode qC_Tk_layLeg.1 182 = .ok (.aload_n 0, 1) := by decide +kernel
theorem d_Tk_layLeg_183 : decode qC_Tk_layLeg.1 183 = .ok (.getfield 37, 3) := by decide +kernel
theorem d_Tk_layLeg_186 : decode qC_Tk_layLeg.1 186 = .ok (.getfield 98, 3) := by decide +kernel
theorem d_Tk_layLeg_189 : decode qC_Tk_layLeg.1 189 = .ok (.iload_n 1, 1) := by decide +kernel
theorem d_Tk_layLeg_190 : decode qC_Tk_layLeg.1 190 = .ok (.iconst 3, 1) := by decide +kernel
theorem d_Tk_layLeg_191 : decode qC_Tk_layLeg.1 191 = .ok (.invokevirtual 99, 3) := by decide +kernel
theorem d_Tk_layLeg_194 : decode qC_Tk_layLeg.1 194 = .ok (.putfield 34, 3) := by decide +kernel
theorem d_Tk_layLeg_197 : decode qC_Tk_layLeg.1 197 = .ok (.return_, 1) := by decide +kernel
set_option maxRecDepth 100000 in
def f_Tk_layLeg (σ : St) (o : Nat) (p1 : Int32) : Option (St) :=
  Option.bind (f_Tb_put σ (rc o 2) p1 (2 : Int32) (-1000000 : Int32)) fun x1 =>
  Option.bind (f_Tb_put x1 (rc o 2) p1 (3 : Int32) (-1000000 : Int32)) fun x2 =>
  Option.bind (f_Tb_put x2 (rc o 2) p1 (11 : Int32) (-1000000 : Int32)) fun x3 =>
  Option.bind (f_Tb_put x3 (rc o 2) p1 (8 : Int32) (-1000000 : Int32)) fun x4 =>
  Option.bind (f_Pl_kind x4 (rc o 0) p1) fun x5 =>
  Option.bind (f_Tk_startsAnew x4 o p1) fun x6 =>
  Jn (fun (σ7 : St) =>
  Jn (fun (σ9 : St) =>
  some σ9
  ) fun J10 =>
  if (x5 : Int32) = (7 : Int32) then (
  Option.bind (f_Tk_hold σ7 o p1) fun x13 =>
  J10 x13
  ) else (
  if (x5 : Int32) = (4 : Int32) then (
  Option.bind (f_Tb_get σ7 (rc (rc o 0) 0) p1 (3 : Int32)) fun x11 =>
  Lt (s2 σ7 o 11 x11) fun σ12 =>
  J10 σ12
  ) else (
  J10 σ7
  )
  )
  ) fun J8 =>
  if (x6 : Int32) = 0 then (
  if (x5 : Int32) = (3 : Int32) then (
  Option.bind (f_Tk_followCourseToFix x4 o p1) fun x21 =>
  J8 x21
  ) else (
  if (x5 : Int32) = (4 : Int32) then (
  Option.bind (f_Tk_climbOnCourse x4 o p1) fun x20 =>
  J8 x20
  ) else (
  if (x5 : Int32) = (5 : Int32) then (
  Option.bind (f_Tk_followToInterception x4 o p1) fun x19 =>
  J8 x19
  ) else (
  if (x5 : Int32) = (6 : Int32) then (
  Option.bind (f_Tk_runOn x4 o p1 (100 : Int32)) fun x18 =>
  J8 x18
  ) else (
  Option.bind (f_Tb_get x4 (rc (rc o 0) 0) p1 (7 : Int32)) fun x14 =>
  Option.bind (f_Tb_get x4 (rc (rc o 0) 0) p1 (8 : Int32)) fun x15 =>
  Option.bind (f_Tk_runTo x4 o p1 x14 x15) fun x16 =>
  Option.bind (f_Tk_endHere x16 o p1) fun x17 =>
  J8 x17
  )
  )
  )
  )
  ) else (
  Option.bind (f_Tk_beginAnew x4 o p1) fun x22 =>
  J8 x22
  )
set_option maxHeartbeats 4000000 in
set_option maxRecDepth 100000 in
theorem cC_Tk_layLeg (l : Launch) (g : Ge) (hi : injB wC.2 g) (σ : St) (o : Nat) (ho : wC.2.2.1 o = .inr (9, 12)) (p1 : Int32) (x : St) (h : f_Tk_layLeg σ o p1 = some x) : Ct l wC g yC_Tk_layLeg qC_Tk_layLeg 4 107 [.ref (g.1 o), .int p1] σ (none, x) := by
  refine Ct.of (out := o_v) FC_Tk_layLeg rfl hi rfl h (fun z hz C => ?_)
  clear h
  subst hz
  unfold f_Tk_layLeg
  show Rt z qC_Tk_layLeg wC g o_v 0 [(0, .ref (g.1 o)), (1, .int p1)] [] σ _
  refine q_aload_n (pc' := 1) C 0 d_Tk_layLeg_0 rfl rfl ?_
  refine gC_Tk_45 (pc' := 4) C o (rc o 2) ho (ly_9_2 ho).1 d_Tk_layLeg_1 rfl rfl ?_
  refine q_iload_n (pc' := 5) C 1 d_Tk_layLeg_4 rfl rfl ?_
  refine q_iconst (pc' := 6) C d_Tk_layLeg_5 ki_2 rfl ?_
  refine q_ldc (pc' := 8) C lcC_Tk_67 d_Tk_layLeg_6 rfl ?_
  refine q_callVv (fr' := 0) (lo' := 0) (pc' := 11) C FC_Tb_put lmC_Tk_68 d_Tk_layLeg_8 (rc o 2) (jCo (ly_9_2 ho).2) (ly_9_2 ho).2 cC_8 [.int p1, .int (2 : Int32), .int (-1000000 : Int32)] [] rfl rfl (Nat.le_of_ble_eq_true rfl) ⟨rfl, rfl⟩ (fun x h => cC_Tb_put _ g hi σ (rc o 2) (ly_9_2 ho).2 p1 (2 : Int32) (-1000000 : Int32) x h) rfl (fun x1 hx1 => ?_)
  refine q_aload_n (pc' := 12) C 0 d_Tk_layLeg_11 rfl rfl ?_
  refine gC_Tk_45 (pc' := 15) C o (rc o 2) ho (ly_9_2 ho).1 d_Tk_layLeg_12 rfl rfl ?_
  refine q_iload_n (pc' := 16) C 1 d_Tk_layLeg_15 rfl rfl ?_
  refine q_iconst (pc' := 17) C d_Tk_layLeg_16 ki_3 rfl ?_
  refine q_ldc (pc' := 19) C lcC_Tk_67 d_Tk_layLeg_17 rfl ?_
  refine q_callVv (fr' := 0) (lo' := 0) (pc' := 22) C FC_Tb_put lmC_Tk_68 d_Tk_layLeg_19 (rc o 2) (jCo (ly_9_2 ho).2) (ly_9_2 ho).2 cC_8 [.int p1, .int (3 : Int32), .int (-1000000 : Int32)] [] rfl rfl (Nat.le_of_ble_eq_true rfl) ⟨rfl, rfl⟩ (fun x h => cC_Tb_put _ g hi x1 (rc o 2) (ly_9_2 ho).2 p1 (3 : Int32) (-1000000 : Int32) x h) rfl (fun x2 hx2 => ?_)
  refine q_aload_n (pc' := 23) C 0 d_Tk_layLeg_22 rfl rfl ?_
  refine gC_Tk_45 (pc' := 26) C o (rc o 2) ho (ly_9_2 ho).1 d_Tk_layLeg_23 rfl rfl ?_
  refine q_iload_n (pc' := 27) C 1 d_Tk_layLeg_26 rfl rfl ?_
  refine q_bipush (pc' := 29) C d_Tk_layLeg_27 kb_11 rfl ?_
  refine q_ldc (pc' := 31) C lcC_Tk_67 d_Tk_layLeg_29 rfl ?_
  refine q_callVv (fr' := 0) (lo' := 0) (pc' := 34) C FC_Tb_put lmC_Tk_68 d_Tk_layLeg_31 (rc o 2) (jCo (ly_9_2 ho).2) (ly_9_2 ho).2 cC_8 [.int p1, .int (11 : Int32), .int (-1000000 : Int32)] [] rfl rfl (Nat.le_of_ble_eq_true rfl) ⟨rfl, rfl⟩ (fun x h => cC_Tb_put _ g hi x2 (rc o 2) (ly_9_2 ho).2 p1 (11 : Int32) (-1000000 : Int32) x h) rfl (fun x3 hx3 => ?_)
  refine q_aload_n (pc' := 35) C 0 d_Tk_layLeg_34 rfl rfl ?_
  refine gC_Tk_45 (pc' := 38) C o (rc o 2) ho (ly_9_2 ho).1 d_Tk_layLeg_35 rfl rfl ?_
  refine q_iload_n (pc' := 39) C 1 d_Tk_layLeg_38 rfl rfl ?_
  refine q_bipush (pc' := 41) C d_Tk_layLeg_39 kb_8 rfl ?_
  refine q_ldc (pc' := 43) C lcC_Tk_67 d_Tk_layLeg_41 rfl ?_
  refine q_callVv (fr' := 0) (lo' := 0) (pc' := 46) C FC_Tb_put lmC_Tk_68 d_Tk_layLeg_43 (rc o 2) (jCo (ly_9_2 ho).2) (ly_9_2 ho).2 cC_8 [.int p1, .int (8 : Int32), .int (-1000000 : Int32)] [] rfl rfl (Nat.le_of_ble_eq_true rfl) ⟨rfl, rfl⟩ (fun x h => cC_Tb_put _ g hi x3 (rc o 2) (ly_9_2 ho).2 p1 (8 : Int32) (-1000000 : Int32) x h) rfl (fun x4 hx4 => ?_)
  refine q_aload_n (pc' := 47) C 0 d_Tk_layLeg_46 rfl rfl ?_
  refine gC_Tk_37 (pc' := 50) C o (rc o 0) ho (ly_9_0 ho).1 d_Tk_layLeg_47 rfl rfl ?_
  refine q_iload_n (pc' := 51) C 1 d_Tk_layLeg_50 rfl rfl ?_
  refine q_callVr (fr' := 1) (lo' := 22) (pc' := 54) C FC_Pl_kind lmC_Tk_72 d_Tk_layLeg_51 (rc o 0) (jCo (ly_9_0 ho).2) (ly_9_0 ho).2 cC_3 [.int p1] [] rfl rfl (Nat.le_of_ble_eq_true rfl) ⟨rfl, rfl⟩ (fun x h => cC_Pl_kind _ g hi x4 (rc o 0) (ly_9_0 ho).2 p1 x h) rfl (fun x5 hx5 => ?_)
  refine q_istore_n (pc' := 55) (lv' := [(2, .int x5), (0, .ref (g.1 o)), (1, .int p1)]) C d_Tk_layLeg_54 (by decide) rfl rfl ?_
  refine q_aload_n (pc' := 56) C 1 d_Tk_layLeg_55 rfl rfl ?_
  refine q_iload_n (pc' := 57) C 2 d_Tk_layLeg_56 rfl rfl ?_
  refine q_callVr (fr' := 2) (lo' := 43) (pc' := 60) C FC_Tk_startsAnew lmC_Tk_78 d_Tk_layLeg_57 o (jCo ho) ho cC_9 [.int p1] [] rfl rfl (Nat.le_of_ble_eq_true rfl) ⟨rfl, rfl⟩ (fun x h => cC_Tk_startsAnew _ g hi x4 o ho p1 x h) rfl (fun x6 hx6 => ?_)
  refine q_join (fun J8 : St → Option (St) => ∀ (σ7 : St), Rt z qC_Tk_layLeg wC g o_v 162 [(0, .ref (g.1 o)), (1, .int p1), (2, .int x5)] [] σ7 (J8 σ7)) (fun σ7 => ?_) (fun J8 hJ8 => ?_)
  · refine q_iload_n (pc' := 163) C 2 d_Tk_layLeg_162 rfl rfl ?_
    refine q_bipush (pc' := 165) C d_Tk_layLeg_163 kb_7 rfl ?_
    refine q_join (fun J10 : St → Option (St) => ∀ (σ9 : St), Rt z qC_Tk_layLeg wC g o_v 197 [] [] σ9 (J10 σ9)) (fun σ9 => ?_) (fun J10 hJ10 => ?_)
    · exact q_vret C rfl d_Tk_layLeg_197 rfl
    refine q_icmp_ne (tgt := 176) (pc' := 168) C d_Tk_layLeg_165 rfl rfl ?_ ?_
    · refine q_iload_n (pc' := 177) C 2 d_Tk_layLeg_176 rfl rfl ?_
      refine q_iconst (pc' := 178) C d_Tk_layLeg_177 ki_4 rfl ?_
      refine q_icmp_ne (tgt := 197) (pc' := 181) C d_Tk_layLeg_178 rfl rfl ?_ ?_
      · exact Rt.sub [] rfl (hJ10 σ7)
      · refine q_aload_n (pc' := 182) C 0 d_Tk_layLeg_181 rfl rfl ?_
        refine q_aload_n (pc' := 183) C 0 d_Tk_layLeg_182 rfl rfl ?_
        refine gC_Tk_37 (pc' := 186) C o (rc o 0) ho (ly_9_0 ho).1 d_Tk_layLeg_183 rfl rfl ?_
        refine gC_Tk_98 (pc' := 189) C (rc o 0) (rc (rc o 0) 0) (ly_9_0 ho).2 (ly_3_0 (ly_9_0 ho).2).1 d_Tk_layLeg_186 rfl rfl ?_
        refine q_iload_n (pc' := 190) C 1 d_Tk_layLeg_189 rfl rfl ?_
        refine q_iconst (pc' := 191) C d_Tk_layLeg_190 ki_3 rfl ?_
        refine q_callVr (fr' := 0) (lo' := 0) (pc' := 194) C FC_Tb_get lmC_Tk_99 d_Tk_layLeg_191 (rc (rc o 0) 0) (jCo (ly_3_0 (ly_9_0 ho).2).2) (ly_3_0 (ly_9_0 ho).2).2 cC_8 [.int p1, .int (3 : Int32)] [.ref (g.1 o)] rfl rfl (Nat.le_of_ble_eq_true rfl) ⟨rfl, rfl⟩ (fun x h => cC_Tb_get _ g hi σ7 (rc (rc o 0) 0) (ly_3_0 (ly_9_0 ho).2).2 p1 (3 : Int32) x h) rfl (fun x11 hx11 => ?_)
        refine pC_Tk_34 (pc' := 197) C o ho d_Tk_layLeg_194 rfl rfl ?_
        refine q_let (fun σ12 e12 => ?_)
        refine q_state e12 ?_
        exact Rt.sub [] rfl (hJ10 σ12)
    · refine q_aload_n (pc' := 169) C 0 d_Tk_layLeg_168 rfl rfl ?_
      refine q_iload_n (pc' := 170) C 1 d_Tk_layLeg_169 rfl rfl ?_
      refine q_callVv (fr' := 2) (lo' := 43) (pc' := 173) C FC_Tk_hold lmC_Tk_109 d_Tk_layLeg_170 o (jCo ho) ho cC_9 [.int p1] [] rfl rfl (Nat.le_of_ble_eq_true rfl) ⟨rfl, rfl⟩ (fun x h => cC_Tk_hold _ g hi σ7 o ho p1 x h) rfl (fun x13 hx13 => ?_)
      refine q_goto (tgt := 197) C d_Tk_layLeg_173 rfl ?_
      exact Rt.sub [] rfl (hJ10 x13)
  refine q_if_eq (tgt := 71) (pc' := 63) C d_Tk_layLeg_60 rfl rfl ?_ ?_
  · refine q_iload_n (pc' := 72) C 0 d_Tk_layLeg_71 rfl rfl ?_
    refine q_iconst (pc' := 73) C d_Tk_layLeg_72 ki_3 rfl ?_
    refine q_icmp_ne (tgt := 84) (pc' := 76) C d_Tk_layLeg_73 rfl rfl ?_ ?_
    · refine q_iload_n (pc' := 85) C 0 d_Tk_layLeg_84 rfl rfl ?_
      refine q_iconst (pc' := 86) C d_Tk_layLeg_85 ki_4 rfl ?_
      refine q_icmp_ne (tgt := 97) (pc' := 89) C d_Tk_layLeg_86 rfl rfl ?_ ?_
      · refine q_iload_n (pc' := 98) C 0 d_Tk_layLeg_97 rfl rfl ?_
        refine q_iconst (pc' := 99) C d_Tk_layLeg_98 ki_5 rfl ?_
        refine q_icmp_ne (tgt := 110) (pc' := 102) C d_Tk_layLeg_99 rfl rfl ?_ ?_
        · refine q_iload_n (pc' := 111) C 0 d_Tk_layLeg_110 rfl rfl ?_
          refine q_bipush (pc' := 113) C d_Tk_layLeg_111 kb_6 rfl ?_
          refine q_icmp_ne (tgt := 126) (pc' := 116) C d_Tk_layLeg_113 rfl rfl ?_ ?_
          · refine q_aload_n (pc' := 127) C 1 d_Tk_layLeg_126 rfl rfl ?_
            refine q_iload_n (pc' := 128) C 2 d_Tk_layLeg_127 rfl rfl ?_
            refine q_aload_n (pc' := 129) C 1 d_Tk_layLeg_128 rfl rfl ?_
            refine gC_Tk_37 (pc' := 132) C o (rc o 0) ho (ly_9_0 ho).1 d_Tk_layLeg_129 rfl rfl ?_
            refine gC_Tk_98 (pc' := 135) C (rc o 0) (rc (rc o 0) 0) (ly_9_0 ho).2 (ly_3_0 (ly_9_0 ho).2).1 d_Tk_layLeg_132 rfl rfl ?_
            refine q_iload_n (pc' := 136) C 2 d_Tk_layLeg_135 rfl rfl ?_
            refine q_bipush (pc' := 138) C d_Tk_layLeg_136 kb_7 rfl ?_
            refine q_callVr (fr' := 0) (lo' := 0) (pc' := 141) C FC_Tb_get lmC_Tk_99 d_Tk_layLeg_138 (rc (rc o 0) 0) (jCo (ly_3_0 (ly_9_0 ho).2).2) (ly_3_0 (ly_9_0 ho).2).2 cC_8 [.int p1, .int (7 : Int32)] [.int p1, .ref (g.1 o)] rfl rfl (Nat.le_of_ble_eq_true rfl) ⟨rfl, rfl⟩ (fun x h => cC_Tb_get _ g hi x4 (rc (rc o 0) 0) (ly_3_0 (ly_9_0 ho).2).2 p1 (7 : Int32) x h) rfl (fun x14 hx14 => ?_)
            refine q_aload_n (pc' := 142) C 1 d_Tk_layLeg_141 rfl rfl ?_
            refine gC_Tk_37 (pc' := 145) C o (rc o 0) ho (ly_9_0 ho).1 d_Tk_layLeg_142 rfl rfl ?_
            refine gC_Tk_98 (pc' := 148) C (rc o 0) (rc (rc o 0) 0) (ly_9_0 ho).2 (ly_3_0 (ly_9_0 ho).2).1 d_Tk_layLeg_145 rfl rfl ?_
            refine q_iload_n (pc' := 149) C 2 d_Tk_layLeg_148 rfl rfl ?_
            refine q_bipush (pc' := 151) C d_Tk_layLeg_149 kb_8 rfl ?_
            refine q_callVr (fr' := 0) (lo' := 0) (pc' := 154) C FC_Tb_get lmC_Tk_99 d_Tk_layLeg_151 (rc (rc o 0) 0) (jCo (ly_3_0 (ly_9_0 ho).2).2) (ly_3_0 (ly_9_0 ho).2).2 cC_8 [.int p1, .int (8 : Int32)] [.int x14, .int p1, .ref (g.1 o)] rfl rfl (Nat.le_of_ble_eq_true rfl) ⟨rfl, rfl⟩ (fun x h => cC_Tb_get _ g hi x4 (rc (rc o 0) 0) (ly_3_0 (ly_9_0 ho).2).2 p1 (8 : Int32) x h) rfl (fun x15 hx15 => ?_)
            refine q_callVv (fr' := 2) (lo' := 54) (pc' := 157) C FC_Tk_runTo lmC_Tk_103 d_Tk_layLeg_154 o (jCo ho) ho cC_9 [.int p1, .int x14, .int x15] [] rfl rfl (Nat.le_of_ble_eq_true rfl) ⟨rfl, rfl⟩ (fun x h => cC_Tk_runTo _ g hi x4 o ho p1 x14 x15 x h) rfl (fun x16 hx16 => ?_)
            refine q_aload_n (pc' := 158) C 1 d_Tk_layLeg_157 rfl rfl ?_
            refine q_iload_n (pc' := 159) C 2 d_Tk_layLeg_158 rfl rfl ?_
            refine q_callVv (fr' := 1) (lo' := 23) (pc' := 162) C FC_Tk_endHere lmC_Tk_106 d_Tk_layLeg_159 o (jCo ho) ho cC_9 [.int p1] [] rfl rfl (Nat.le_of_ble_eq_true rfl) ⟨rfl, rfl⟩ (fun x h => cC_Tk_endHere _ g hi x16 o ho p1 x h) rfl (fun x17 hx17 => ?_)
            exact Rt.sub [1, 2, 0] rfl (hJ8 x17)
          · refine q_aload_n (pc' := 117) C 1 d_Tk_layLeg_116 rfl rfl ?_
            refine q_iload_n (pc' := 118) C 2 d_Tk_layLeg_117 rfl rfl ?_
            refine q_bipush (pc' := 120) C d_Tk_layLeg_118 kb_100 rfl ?_
            refine q_callVv (fr' := 2) (lo' := 48) (pc' := 123) C FC_Tk_runOn lmC_Tk_95 d_Tk_layLeg_120 o (jCo ho) ho cC_9 [.int p1, .int (100 : Int32)] [] rfl rfl (Nat.le_of_ble_eq_true rfl) ⟨rfl, rfl⟩ (fun x h => cC_Tk_runOn _ g hi x4 o ho p1 (100 : Int32) x h) rfl (fun x18 hx18 => ?_)
            refine q_goto (tgt := 162) C d_Tk_layLeg_123 rfl ?_
            exact Rt.sub [1, 2, 0] rfl (hJ8 x18)
        · refine q_aload_n (pc' := 103) C 1 d_Tk_layLeg_102 rfl rfl ?_
          refine q_iload_n (pc' := 104) C 2 d_Tk_layLeg_103 rfl rfl ?_
          refine q_callVv (fr' := 3) (lo' := 85) (pc' := 107) C FC_Tk_followToInterception lmC_Tk_92 d_Tk_layLeg_104 o (jCo ho) ho cC_9 [.int p1] [] rfl rfl (Nat.le_of_ble_eq_true rfl) ⟨rfl, rfl⟩ (fun x h => cC_Tk_followToInterception _ g hi x4 o ho p1 x h) rfl (fun x19 hx19 => ?_)
          refine q_goto (tgt := 162) C d_Tk_layLeg_107 rfl ?_
          exact Rt.sub [1, 2, 0] rfl (hJ8 x19)
      · refine q_aload_n (pc' := 90) C 1 d_Tk_layLeg_89 rfl rfl ?_
        refine q_iload_n (pc' := 91) C 2 d_Tk_layLeg_90 rfl rfl ?_
        refine q_callVv (fr' := 3) (lo' := 71) (pc' := 94) C FC_Tk_climbOnCourse lmC_Tk_89 d_Tk_layLeg_91 o (jCo ho) ho cC_9 [.int p1] [] rfl rfl (Nat.le_of_ble_eq_true rfl) ⟨rfl, rfl⟩ (fun x h => cC_Tk_climbOnCourse _ g hi x4 o ho p1 x h) rfl (fun x20 hx20 => ?_)
        refine q_goto (tgt := 162) C d_Tk_layLeg_94 rfl ?_
        exact Rt.sub [1, 2, 0] rfl (hJ8 x20)
    · refine q_aload_n (pc' := 77) C 1 d_Tk_layLeg_76 rfl rfl ?_
      refine q_iload_n (pc' := 78) C 2 d_Tk_layLeg_77 rfl rfl ?_
      refine q_callVv (fr' := 3) (lo' := 78) (pc' := 81) C FC_Tk_followCourseToFix lmC_Tk_86 d_Tk_layLeg_78 o (jCo ho) ho cC_9 [.int p1] [] rfl rfl (Nat.le_of_ble_eq_true rfl) ⟨rfl, rfl⟩ (fun x h => cC_Tk_followCourseToFix _ g hi x4 o ho p1 x h) rfl (fun x21 hx21 => ?_)
      refine q_goto (tgt := 162) C d_Tk_layLeg_81 rfl ?_
      exact Rt.sub [1, 2, 0] rfl (hJ8 x21)
  · refine q_aload_n (pc' := 64) C 1 d_Tk_layLeg_63 rfl rfl ?_
    refine q_iload_n (pc' := 65) C 2 d_Tk_layLeg_64 rfl rfl ?_
    refine q_callVv (fr' := 2) (lo' := 44) (pc' := 68) C FC_Tk_beginAnew lmC_Tk_82 d_Tk_layLeg_65 o (jCo ho) ho cC_9 [.int p1] [] rfl rfl (Nat.le_of_ble_eq_true rfl) ⟨rfl, rfl⟩ (fun x h => cC_Tk_beginAnew _ g hi x4 o ho p1 x h) rfl (fun x22 hx22 => ?_)
    refine q_goto (tgt := 162) C d_Tk_layLeg_68 rfl ?_
    exact Rt.sub [1, 2, 0] rfl (hJ8 x22)
theorem d_Sg_airSpeed_0 : decode qC_Sg_airSpeed.1 0 = .ok (.aload_n 0, 1) := by decide +kernel
theorem d_Sg_airSpeed_1 : decode qC_Sg_airSpeed.1 1 = .ok (.getfield 33, 3) := by decide +kernel
theorem d_Sg_airSpeed_4 : decode qC_Sg_airSpeed.1 4 = .ok (.iload_n 1, 1) := by decide +kernel
theorem d_Sg_airSpeed_5 : decode qC_Sg_airSpeed.1 5 = .ok (.invokestatic 51, 3) := by decide +kernel
theorem d_Sg_airSpeed_8 : decode qC_Sg_airSpeed.1 8 = .ok (.ireturn, 1) := by decide +kernel
set_option maxRecDepth 100000 in
def f_Sg_airSpeed (σ : St) (o : Nat) (p1 : Int32) : Option (Int32) :=
  some (imin (σ o 5) p1)
set_option maxHeartbeats 4000000 in
set_option maxRecDepth 100000 in
theorem cC_Sg_airSpeed (l : Launch) (g : Ge) (hi : injB wC.2 g) (σ : St) (o : Nat) (ho : wC.2.2.1 o = .inr (7, 11)) (p1 : Int32) (x : Int32) (h : f_Sg_airSpeed σ o p1 = some x) : Ct l wC g yC_Sg_airSpeed qC_Sg_airSpeed 1 21 [.ref (g.1 o), .int p1] σ (some (.int x), σ) := by
  refine Ct.of (out := (o_r σ)) FC_Sg_airSpeed rfl hi rfl h (fun z hz C => ?_)
  clear h
  subst hz
  unfold f_Sg_airSpeed
  show Rt z qC_Sg_airSpeed wC g (o_r σ) 0 [(0, .ref (g.1 o)), (1, .int p1)] [] σ _
  refine q_aload_n (pc' := 1) C 0 d_Sg_airSpeed_0 rfl rfl ?_
  refine gC_Sg_33 (pc' := 4) C o ho d_Sg_airSpeed_1 rfl rfl ?_
  refine q_iload_n (pc' := 5) C 1 d_Sg_airSpeed_4 rfl rfl ?_
  refine q_mmin (pc' := 8) C lj_min_Sg_51 (Nat.le_of_ble_eq_true rfl) ⟨rfl, rfl⟩ d_Sg_airSpeed_5 rfl ?_
  exact q_iret C rfl d_Sg_airSpeed_8 rfl
theorem d_Sg_groundSpeed_0 : decode qC_Sg_groundSpeed.1 0 = .ok (.aload_n 0, 1) := by decide +kernel
theorem d_Sg_groundSpeed_1 : decode qC_Sg_groundSpeed.1 1 = .ok (.getfield 24, 3) := by decide +kernel
theorem d_Sg_groundSpeed_4 : decode qC_Sg_groundSpeed.1 4 = .ok (.iload_n 2, 1) := by decide +kernel
theorem d_Sg_groundSpeed_5 : decode qC_Sg_groundSpeed.1 5 = .ok (.invokestatic 57, 3) := by decide +kernel
theorem d_Sg_groundSpeed_8 : decode qC_Sg_groundSpeed.1 8 = .ok (.imul, 1) := by decide +kernel
theorem d_Sg_groundSpeed_9 : decode qC_Sg_groundSpeed.1 9 = .ok (.aload_n 0, 1) := by decide +kernel
theorem d_Sg_groundSpeed_10 : decode qC_Sg_groundSpeed.1 10 = .ok (.getfield 27, 3) := by decide +kernel
theorem d_Sg_groundSpeed_13 : decode qC_Sg_groundSpeed.1 13 = .ok (.iload_n 2, 1) := by decide +kernel
theorem d_Sg_groundSpeed_14 : decode qC_Sg_groundSpeed.1 14 = .ok (.invokestatic 63, 3) := by decide +kernel
theorem d_Sg_groundSpeed_17 : decode qC_Sg_groundSpeed.1 17 = .ok (.imul, 1) := by decide +kernel
theorem d_Sg_groundSpeed_18 : decode qC_Sg_groundSpeed.1 18 = .ok (.iadd, 1) := by decide +kernel
theorem d_Sg_groundSpeed_19 : decode qC_Sg_groundSpeed.1 19 = .ok (.sipush 1000, 3) := by decide +kernel
theorem d_Sg_groundSpeed_22 : decode qC_Sg_groundSpeed.1 22 = .ok (.idiv, 1) := by decide +kernel
theorem d_Sg_groundSpeed_23 : decode qC_Sg_groundSpeed.1 23 = .ok (.istore_n 3, 1) := by decide +kernel
theorem d_Sg_groundSpeed_24 : decode qC_Sg_groundSpeed.1 24 = .ok (.bipush 50, 2) := by decide +kernel
theorem d_Sg_groundSpeed_26 : decode qC_Sg_groundSpeed.1 26 = .ok (.aload_n 0, 1) := by decide +kernel
theorem d_Sg_groundSpeed_27 : decode qC_Sg_groundSpeed.1 27 = .ok (.iload_n 1, 1) := by decide +kernel
theorem d_Sg_groundSpeed_28 : decode qC_Sg_groundSpeed.1 28 = .ok (.invokevirtual 66, 3) := by decide +kernel
theorem d_Sg_groundSpeed_31 : decode qC_Sg_groundSpeed.1 31 = .ok (.iload_n 3, 1) := by decide +kernel
theorem d_Sg_groundSpeed_32 : decode qC_Sg_groundSpeed.1 32 = .ok (.iadd, 1) := by decide +kernel
theorem d_Sg_groundSpeed_33 : decode qC_Sg_groundSpeed.1 33 = .ok (.invokestatic 69, 3) := by decide +kernel
theorem d_Sg_groundSpeed_36 : decode qC_Sg_groundSpeed.1 36 = .ok (.ireturn, 1) := by decide +kernel
set_option maxRecDepth 100000 in
def f_Sg_groundSpeed (σ : St) (o : Nat) (p1 : Int32) (p2 : Int32) : Option (Int32) :=
  Option.bind (f_Cm_east σ p2) fun x1 =>
  Option.bind (f_Cm_north σ p2) fun x2 =>
  Lt (((((σ o 2) * x1) + ((σ o 3) * x2)) / (1000 : Int32)) : Int32) fun x3 =>
  Option.bind (f_Sg_airSpeed σ o p1) fun x4 =>
  some (imax (50 : Int32) (x4 + x3))
set_option maxHeartbeats 4000000 in
set_option maxRecDepth 100000 in
theorem cC_Sg_groundSpeed (l : Launch) (g : Ge) (hi : injB wC.2 g) (σ : St) (o : Nat) (ho : wC.2.2.1 o = .inr (7, 11)) (p1 : Int32) (p2 : Int32) (x : Int32) (h : f_Sg_groundSpeed σ o p1 p2 = some x) : Ct l wC g yC_Sg_groundSpeed qC_Sg_groundSpeed 2 42 [.ref (g.1 o), .int p1, .int p2] σ (some (.int x), σ) := by
  refine Ct.of (out := (o_r σ)) FC_Sg_groundSpeed rfl hi rfl h (fun z hz C => ?_)
  clear h
  subst hz
  unfold f_Sg_groundSpeed
  show Rt z qC_Sg_groundSpeed wC g (o_r σ) 0 [(0, .ref (g.1 o)), (1, .int p1), (2, .int p2)] [] σ _
  refine q_aload_n (pc' := 1) C 0 d_Sg_groundSpeed_0 rfl rfl ?_
  refine gC_Sg_24 (pc' := 4) C o ho d_Sg_groundSpeed_1 rfl rfl ?_
  refine q_iload_n (pc' := 5) C 2 d_Sg_groundSpeed_4 rfl rfl ?_
  refine q_callSr (fr' := 0) (lo' := 0) (pc' := 8) C FC_Cm_east lmC_Sg_57 d_Sg_groundSpeed_5 [.int p2] [.int (σ o 2)] rfl rfl (Nat.le_of_ble_eq_true rfl) ⟨rfl, rfl⟩ (fun x h => cC_Cm_east _ g hi σ p2 x h) rfl (fun x1 hx1 => ?_)
  refine q_imul (pc' := 9) C d_Sg_groundSpeed_8 rfl ?_
  refine q_aload_n (pc' := 10) C 0 d_Sg_groundSpeed_9 rfl rfl ?_
  refine gC_Sg_27 (pc' := 13) C o ho d_Sg_groundSpeed_10 rfl rfl ?_
  refine q_iload_n (pc' := 14) C 2 d_Sg_groundSpeed_13 rfl rfl ?_
  refine q_callSr (fr' := 0) (lo' := 0) (pc' := 17) C FC_Cm_north lmC_Sg_63 d_Sg_groundSpeed_14 [.int p2] [.int (σ o 3), .int ((σ o 2) * x1)] rfl rfl (Nat.le_of_ble_eq_true rfl) ⟨rfl, rfl⟩ (fun x h => cC_Cm_north _ g hi σ p2 x h) rfl (fun x2 hx2 => ?_)
  refine q_imul (pc' := 18) C d_Sg_groundSpeed_17 rfl ?_
  refine q_iadd (pc' := 19) C d_Sg_groundSpeed_18 rfl ?_
  refine q_sipush (pc' := 22) C d_Sg_groundSpeed_19 ks_1000 rfl ?_
  refine q_idiv (pc' := 23) C (by decide) d_Sg_groundSpeed_22 rfl ?_
  refine q_let (fun x3 e3 => ?_)
  refine q_topi e3 ?_
  refine q_istore_n (pc' := 24) (lv' := [(3, .int x3), (0, .ref (g.1 o)), (1, .int p1), (2, .int p2)]) C d_Sg_groundSpeed_23 (by decide) rfl rfl ?_
  refine q_bipush (pc' := 26) C d_Sg_groundSpeed_24 kb_50 rfl ?_
  refine q_aload_n (pc' := 27) C 1 d_Sg_groundSpeed_26 rfl rfl ?_
  refine q_iload_n (pc' := 28) C 2 d_Sg_groundSpeed_27 rfl rfl ?_
  refine q_callVr (fr' := 1) (lo' := 21) (pc' := 31) C FC_Sg_airSpeed lmC_Sg_66 d_Sg_groundSpeed_28 o (jCo ho) ho cC_7 [.int p1] [.int (50 : Int32)] rfl rfl (Nat.le_of_ble_eq_true rfl) ⟨rfl, rfl⟩ (fun x h => cC_Sg_airSpeed _ g hi σ o ho p1 x h) rfl (fun x4 hx4 => ?_)
  refine q_iload_n (pc' := 32) C 0 d_Sg_groundSpeed_31 rfl rfl ?_
  refine q_iadd (pc' := 33) C d_Sg_groundSpeed_32 rfl ?_
  refine q_mmax (pc' := 36) C lj_max_Sg_69 (Nat.le_of_ble_eq_true rfl) ⟨rfl, rfl⟩ d_Sg_groundSpeed_33 rfl ?_
  exact q_iret C rfl d_Sg_groundSpeed_36 rfl
theorem d_Tk_fastest_0 : decode qC_Tk_fastest.1 0 = .ok (.aload_n 0, 1) := by decide +kernel
theorem d_Tk_fastest_1 : decode qC_Tk_fastest.1 1 = .ok (.getfield 37, 3) := by decide +kernel
theorem d_Tk_fastest_4 : decode qC_Tk_fastest.1 4 = .ok (.getfield 98, 3) := by decide +kernel
theorem d_Tk_fastest_7 : decode qC_Tk_fastest.1 7 = .ok (.aload_n 0, 1) := by decide +kernel
theorem d_Tk_fastest_8 : decode qC_Tk_fastest.1 8 = .ok (.getfield 54, 3) := by decide +kernel
theorem d_Tk_fastest_11 : decode qC_Tk_fastest.1 11 = .ok (.iload_n 1, 1) := by decide +kernel
theorem d_Tk_fastest_12 : decode qC_Tk_fastest.1 12 = .ok (.bipush 7, 2) := by decide +kernel
theorem d_Tk_fastest_14 : decode qC_Tk_fastest.1 14 = .ok (.invokevirtual 99, 3) := by decide +kernel
theorem d_Tk_fastest_17 : decode qC_Tk_fastest.1 17 = .ok (.bipush 11, 2) := by decide +kernel
theorem d_Tk_fastest_19 : decode qC_Tk_fastest.1 19 = .ok (.invokevirtual 99, 3) := by decide +kernel
theorem d_Tk_fastest_22 : decode qC_Tk_fastest.1 22 = .ok (.istore_n 2, 1) := by decide +kernel
theorem d_Tk_fastest_23 : decode qC_Tk_fastest.1 23 = .ok (.aload_n 0, 1) := by decide +kernel
theorem d_Tk_fastest_24 : decode qC_Tk_fastest.1 24 = .ok (.getfield 37, 3) := by decide +kernel
theorem d_Tk_fastest_27 : decode qC_Tk_fastest.1 27 = .ok (.getfield 98, 3) := by decide +kernel
theorem d_Tk_fastest_30 : decode qC_Tk_fastest.1 30 = .ok (.aload_n 0, 1) := by decide +kernel
theorem d_Tk_fastest_31 : decode qC_Tk_fastest.1 31 = .ok (.getfield 54, 3) := by decide +kernel
theorem d_Tk_fastest_34 : decode qC_Tk_fastest.1 34 = .ok (.iload_n 1, 1) := by decide +kernel
theorem d_Tk_fastest_35 : decode qC_Tk_fastest.1 35 = .ok (.iconst 0, 1) := by decide +kernel
theorem d_Tk_fastest_36 : decode qC_Tk_fastest.1 36 = .ok (.invokevirtual 99, 3) := by decide +kernel
theorem d_Tk_fastest_39 : decode qC_Tk_fastest.1 39 = .ok (.bipush 11, 2) := by decide +kernel
theorem d_Tk_fastest_41 : decode qC_Tk_fastest.1 41 = .ok (.invokevirtual 99, 3) := by decide +kernel
theorem d_Tk_fastest_44 : decode qC_Tk_fastest.1 44 = .ok (.istore_n 3, 1) := by decide +kernel
theorem d_Tk_fastest_45 : decode qC_Tk_fastest.1 45 = .ok (.aload_n 0, 1) := by decide +kernel
theorem d_Tk_fastest_46 : decode qC_Tk_fastest.1 46 = .ok (.getfield 41, 3) := by decide +kernel
theorem d_Tk_fastest_49 : decode qC_Tk_fastest.1 49 = .ok (.iload_n 2, 1) := by decide +kernel
theorem d_Tk_fastest_50 : decode qC_Tk_fastest.1 50 = .ok (.aload_n 0, 1) := by decide +kernel
theorem d_Tk_fastest_51 : decode qC_Tk_fastest.1 51 = .ok (.getfield 54, 3) := by decide +kernel
theorem d_Tk_fastest_54 : decode qC_Tk_fastest.1 54 = .ok (.iload_n 1, 1) := by decide +kernel
theorem d_Tk_fastest_55 : decode qC_Tk_fastest.1 55 = .ok (.bipush 8, 2) := by decide +kernel
theorem d_Tk_fastest_57 : decode qC_Tk_fastest.1 57 = .ok (.invokevirtual 99, 3) := by decide +kernel
theorem d_Tk_fastest_60 : decode qC_Tk_fastest.1 60 = .ok (.invokevirtual 188, 3) := by decide +kernel
theorem d_Tk_fastest_63 : decode qC_Tk_fastest.1 63 = .ok (.aload_n 0, 1) := by decide +kernel
theorem d_Tk_fastest_64 : decode qC_Tk_fastest.1 64 = .ok (.getfield 41, 3) := by decide +kernel
theorem d_Tk_fastest_67 : decode qC_Tk_fastest.1 67 = .ok (.iload_n 3, 1) := by decide +kernel
theorem d_Tk_fastest_68 : decode qC_Tk_fastest.1 68 = .ok (.aload_n 0, 1) := by decide +kernel
theorem d_Tk_fastest_69 : decode qC_Tk_fastest.1 69 = .ok (.getfield 54, 3) := by decide +kernel
theorem d_Tk_fastest_72 : decode qC_Tk_fastest.1 72 = .ok (.iload_n 1, 1) := by decide +kernel
theorem d_Tk_fastest_73 : decode qC_Tk_fastest.1 73 = .ok (.bipush 6, 2) := by decide +kernel
theorem d_Tk_fastest_75 : decode qC_Tk_fastest.1 75 = .ok (.invokevirtual 99, 3) := by decide +kernel
theorem d_Tk_fastest_78 : decode qC_Tk_fastest.1 78 = .ok (.invokevirtual 188, 3) := by decide +kernel
theorem d_Tk_fastest_81 : decode qC_Tk_fastest.1 81 = .ok (.invokestatic 138, 3) := by decide +kernel
theorem d_Tk_fastest_84 : decode qC_Tk_fastest.1 84 = .ok (.ireturn, 1) := by decide +kernel
set_option maxRecDepth 100000 in
def f_Tk_fastest (σ : St) (o : Nat) (p1 : Int32) : Option (Int32) :=
  Option.bind (f_Tb_get σ (rc o 3) p1 (7 : Int32)) fun x1 =>
  Option.bind (f_Tb_get σ (rc (rc o 0) 0) x1 (11 : Int32)) fun x2 =>
  Option.bind (f_Tb_get σ (rc o 3) p1 (0 : Int32)) fun x3 =>
  Option.bind (f_Tb_get σ (rc (rc o 0) 0) x3 (11 : Int32)) fun x4 =>
  Option.bind (f_Tb_get σ (rc o 3) p1 (8 : Int32)) fun x5 =>
  Option.bind (f_Sg_groundSpeed σ (rc o 1) x2 x5) fun x6 =>
  Option.bind (f_Tb_get σ (rc o 3) p1 (6 : Int32)) fun x7 =>
  Option.bind (f_Sg_groundSpeed σ (rc o 1) x4 x7) fun x8 =>
  some (imax x6 x8)
set_option maxHeartbeats 4000000 in
set_option maxRecDepth 100000 in
theorem cC_Tk_fastest (l : Launch) (g : Ge) (hi : injB wC.2 g) (σ : St) (o : Nat) (ho : wC.2.2.1 o = .inr (9, 12)) (p1 : Int32) (x : Int32) (h : f_Tk_fastest σ o p1 = some x) : Ct l wC g yC_Tk_fastest qC_Tk_fastest 3 65 [.ref (g.1 o), .int p1] σ (some (.int x), σ) := by
  refine Ct.of (out := (o_r σ)) FC_Tk_fastest rfl hi rfl h (fun z hz C => ?_)
  clear h
  subst hz
  unfold f_Tk_fastest
  show Rt z qC_Tk_fastest wC g (o_r σ) 0 [(0, .ref (g.1 o)), (1, .int p1)] [] σ _
  refine q_aload_n (pc' := 1) C 0 d_Tk_fastest_0 rfl rfl ?_
  refine gC_Tk_37 (pc' := 4) C o (rc o 0) ho (ly_9_0 ho).1 d_Tk_fastest_1 rfl rfl ?_
  refine gC_Tk_98 (pc' := 7) C (rc o 0) (rc (rc o 0) 0) (ly_9_0 ho).2 (ly_3_0 (ly_9_0 ho).2).1 d_Tk_fastest_4 rfl rfl ?_
  refine q_aload_n (pc' := 8) C 0 d_Tk_fastest_7 rfl rfl ?_
  refine gC_Tk_54 (pc' := 11) C o (rc o 3) ho (ly_9_3 ho).1 d_Tk_fastest_8 rfl rfl ?_
  refine q_iload_n (pc' := 12) C 1 d_Tk_fastest_11 rfl rfl ?_
  refine q_bipush (pc' := 14) C d_Tk_fastest_12 kb_7 rfl ?_
  refine q_callVr (fr' := 0) (lo' := 0) (pc' := 17) C FC_Tb_get lmC_Tk_99 d_Tk_fastest_14 (rc o 3) (jCo (ly_9_3 ho).2) (ly_9_3 ho).2 cC_8 [.int p1, .int (7 : Int32)] [.ref (g.1 (rc (rc o 0) 0))] rfl rfl (Nat.le_of_ble_eq_true rfl) ⟨rfl, rfl⟩ (fun x h => cC_Tb_get _ g hi σ (rc o 3) (ly_9_3 ho).2 p1 (7 : Int32) x h) rfl (fun x1 hx1 => ?_)
  refine q_bipush (pc' := 19) C d_Tk_fastest_17 kb_11 rfl ?_
  refine q_callVr (fr' := 0) (lo' := 0) (pc' := 22) C FC_Tb_get lmC_Tk_99 d_Tk_fastest_19 (rc (rc o 0) 0) (jCo (ly_3_0 (ly_9_0 ho).2).2) (ly_3_0 (ly_9_0 ho).2).2 cC_8 [.int x1, .int (11 : Int32)] [] rfl rfl (Nat.le_of_ble_eq_true rfl) ⟨rfl, rfl⟩ (fun x h => cC_Tb_get _ g hi σ (rc (rc o 0) 0) (ly_3_0 (ly_9_0 ho).2).2 x1 (11 : Int32) x h) rfl (fun x2 hx2 => ?_)
  refine q_istore_n (pc' := 23) (lv' := [(2, .int x2), (0, .ref (g.1 o)), (1, .int p1)]) C d_Tk_fastest_22 (by decide) rfl rfl ?_
  refine q_aload_n (pc' := 24) C 1 d_Tk_fastest_23 rfl rfl ?_
  refine gC_Tk_37 (pc' := 27) C o (rc o 0) ho (ly_9_0 ho).1 d_Tk_fastest_24 rfl rfl ?_
  refine gC_Tk_98 (pc' := 30) C (rc o 0) (rc (rc o 0) 0) (ly_9_0 ho).2 (ly_3_0 (ly_9_0 ho).2).1 d_Tk_fastest_27 rfl rfl ?_
  refine q_aload_n (pc' := 31) C 1 d_Tk_fastest_30 rfl rfl ?_
  refine gC_Tk_54 (pc' := 34) C o (rc o 3) ho (ly_9_3 ho).1 d_Tk_fastest_31 rfl rfl ?_
  refine q_iload_n (pc' := 35) C 2 d_Tk_fastest_34 rfl rfl ?_
  refine q_iconst (pc' := 36) C d_Tk_fastest_35 ki_0 rfl ?_
  refine q_callVr (fr' := 0) (lo' := 0) (pc' := 39) C FC_Tb_get lmC_Tk_99 d_Tk_fastest_36 (rc o 3) (jCo (ly_9_3 ho).2) (ly_9_3 ho).2 cC_8 [.int p1, .int (0 : Int32)] [.ref (g.1 (rc (rc o 0) 0))] rfl rfl (Nat.le_of_ble_eq_true rfl) ⟨rfl, rfl⟩ (fun x h => cC_Tb_get _ g hi σ (rc o 3) (ly_9_3 ho).2 p1 (0 : Int32) x h) rfl (fun x3 hx3 => ?_)
  refine q_bipush (pc' := 41) C d_Tk_fastest_39 kb_11 rfl ?_
  refine q_callVr (fr' := 0) (lo' := 0) (pc' := 44) C FC_Tb_get lmC_Tk_99 d_Tk_fastest_41 (rc (rc o 0) 0) (jCo (ly_3_0 (ly_9_0 ho).2).2) (ly_3_0 (ly_9_0 ho).2).2 cC_8 [.int x3, .int (11 : Int32)] [] rfl rfl (Nat.le_of_ble_eq_true rfl) ⟨rfl, rfl⟩ (fun x h => cC_Tb_get _ g hi σ (rc (rc o 0) 0) (ly_3_0 (ly_9_0 ho).2).2 x3 (11 : Int32) x h) rfl (fun x4 hx4 => ?_)
  refine q_istore_n (pc' := 45) (lv' := [(3, .int x4), (2, .int x2), (0, .ref (g.1 o)), (1, .int p1)]) C d_Tk_fastest_44 (by decide) rfl rfl ?_
  refine q_aload_n (pc' := 46) C 2 d_Tk_fastest_45 rfl rfl ?_
  refine gC_Tk_41 (pc' := 49) C o (rc o 1) ho (ly_9_1 ho).1 d_Tk_fastest_46 rfl rfl ?_
  refine q_iload_n (pc' := 50) C 1 d_Tk_fastest_49 rfl rfl ?_
  refine q_aload_n (pc' := 51) C 2 d_Tk_fastest_50 rfl rfl ?_
  refine gC_Tk_54 (pc' := 54) C o (rc o 3) ho (ly_9_3 ho).1 d_Tk_fastest_51 rfl rfl ?_
  refine q_iload_n (pc' := 55) C 3 d_Tk_fastest_54 rfl rfl ?_
  refine q_bipush (pc' := 57) C d_Tk_fastest_55 kb_8 rfl ?_
  refine q_callVr (fr' := 0) (lo' := 0) (pc' := 60) C FC_Tb_get lmC_Tk_99 d_Tk_fastest_57 (rc o 3) (jCo (ly_9_3 ho).2) (ly_9_3 ho).2 cC_8 [.int p1, .int (8 : Int32)] [.int x2, .ref (g.1 (rc o 1))] rfl rfl (Nat.le_of_ble_eq_true rfl) ⟨rfl, rfl⟩ (fun x h => cC_Tb_get _ g hi σ (rc o 3) (ly_9_3 ho).2 p1 (8 : Int32) x h) rfl (fun x5 hx5 => ?_)
  refine q_callVr (fr' := 2) (lo' := 42) (pc' := 63) C FC_Sg_groundSpeed lmC_Tk_188 d_Tk_fastest_60 (rc o 1) (jCo (ly_9_1 ho).2) (ly_9_1 ho).2 cC_7 [.int x2, .int x5] [] rfl rfl (Nat.le_of_ble_eq_true rfl) ⟨rfl, rfl⟩ (fun x h => cC_Sg_groundSpeed _ g hi σ (rc o 1) (ly_9_1 ho).2 x2 x5 x h) rfl (fun x6 hx6 => ?_)
  refine q_aload_n (pc' := 64) C 2 d_Tk_fastest_63 rfl rfl ?_
  refine gC_Tk_41 (pc' := 67) C o (rc o 1) ho (ly_9_1 ho).1 d_Tk_fastest_64 rfl rfl ?_
  refine q_iload_n (pc' := 68) C 0 d_Tk_fastest_67 rfl rfl ?_
  refine q_aload_n (pc' := 69) C 2 d_Tk_fastest_68 rfl rfl ?_
  refine gC_Tk_54 (pc' := 72) C o (rc o 3) ho (ly_9_3 ho).1 d_Tk_fastest_69 rfl rfl ?_
  refine q_iload_n (pc' := 73) C 3 d_Tk_fastest_72 rfl rfl ?_
  refine q_bipush (pc' := 75) C d_Tk_fastest_73 kb_6 rfl ?_
  refine q_callVr (fr' := 0) (lo' := 0) (pc' := 78) C FC_Tb_get lmC_Tk_99 d_Tk_fastest_75 (rc o 3) (jCo (ly_9_3 ho).2) (ly_9_3 ho).2 cC_8 [.int p1, .int (6 : Int32)] [.int x4, .ref (g.1 (rc o 1)), .int x6] rfl rfl (Nat.le_of_ble_eq_true rfl) ⟨rfl, rfl⟩ (fun x h => cC_Tb_get _ g hi σ (rc o 3) (ly_9_3 ho).2 p1 (6 : Int32) x h) rfl (fun x7 hx7 => ?_)
  refine q_callVr (fr' := 2) (lo' := 42) (pc' := 81) C FC_Sg_groundSpeed lmC_Tk_188 d_Tk_fastest_78 (rc o 1) (jCo (ly_9_1 ho).2) (ly_9_1 ho).2 cC_7 [.int x4, .int x7] [.int x6] rfl rfl (Nat.le_of_ble_eq_true rfl) ⟨rfl, rfl⟩ (fun x h => cC_Sg_groundSpeed _ g hi σ (rc o 1) (ly_9_1 ho).2 x4 x7 x h) rfl (fun x8 hx8 => ?_)
  refine q_mmax (pc' := 84) C lj_max_Tk_138 (Nat.le_of_ble_eq_true rfl) ⟨rfl, rfl⟩ d_Tk_fastest_81 rfl ?_
  exact q_iret C rfl d_Tk_fastest_84 rfl
theorem d_Tk_leadOf_0 : decode qC_Tk_leadOf.1 0 = .ok (.iload_n 1, 1) := by decide +kernel
theorem d_Tk_leadOf_1 : decode qC_Tk_leadOf.1 1 = .ok (.ifCond .lt 25, 3) := by decide +kernel
theorem d_Tk_leadOf_4 : decode qC_Tk_leadOf.1 4 = .ok (.iload_n 1, 1) := by decide +kernel
theorem d_Tk_leadOf_5 : decode qC_Tk_leadOf.1 5 = .ok (.getstatic 184, 3) := by decide +kernel
theorem d_Tk_leadOf_8 : decode qC_Tk_leadOf.1 8 = .ok (.arraylength, 1) := by decide +kernel
theorem d_Tk_leadOf_9 : decode qC_Tk_leadOf.1 9 = .ok (.if_icmp .ge 17, 3) := by decide +kernel
theorem d_Tk_leadOf_12 : decode qC_Tk_leadOf.1 12 = .ok (.iload_n 0, 1) := by decide +kernel
theorem d_Tk_leadOf_13 : decode qC_Tk_leadOf.1 13 = .ok (.getstatic 184, 3) := by decide +kernel
theorem d_Tk_leadOf_16 : decode qC_Tk_leadOf.1 16 = .ok (.iload_n 1, 1) := by decide +kernel
theorem d_Tk_leadOf_17 : decode qC_Tk_leadOf.1 17 = .ok (.iaload, 1) := by decide +kernel
theorem d_Tk_leadOf_18 : decode qC_Tk_leadOf.1 18 = .ok (.imul, 1) := by decide +kernel
theorem d_Tk_leadOf_19 : decode qC_Tk_leadOf.1 19 = .ok (.sipush 1000, 3) := by decide +kernel
theorem d_Tk_leadOf_22 : decode qC_Tk_leadOf.1 22 = .ok (.idiv, 1) := by decide +kernel
theorem d_Tk_leadOf_23 : decode qC_Tk_leadOf.1 23 = .ok (.goto 4, 3) := by decide +kernel
theorem d_Tk_leadOf_26 : decode qC_Tk_leadOf.1 26 = .ok (.iconst 0, 1) := by decide +kernel
theorem d_Tk_leadOf_27 : decode qC_Tk_leadOf.1 27 = .ok (.ireturn, 1) := by decide +kernel
set_option maxRecDepth 100000 in
def f_Tk_leadOf (σ : St) (p0 : Int32) (p1 : Int32) : Option (Int32) :=
  Jn (fun (x1 : Int32) =>
  some x1
  ) fun J2 =>
  Jn (fun (_ : Unit) =>
  J2 (0 : Int32)
  ) fun J3 =>
  if (p1 : Int32) < 0 then (
  J3 ()
  ) else (
  if ((9 : Int32) : Int32) ≤ p1 then (
  J3 ()
  ) else (
  Gd (Ix p1 9) <|
  J2 ((p0 * (LEDS.getD (Int32.toNatClampNeg p1) 0)) / (1000 : Int32))
  )
  )
set_option maxHeartbeats 4000000 in
set_option maxRecDepth 100000 in
theorem cC_Tk_leadOf (l : Launch) (g : Ge) (hi : injB wC.2 g) (σ : St) (p0 : Int32) (p1 : Int32) (x : Int32) (h : f_Tk_leadOf σ p0 p1 = some x) : Ct l wC g yC_Tk_leadOf qC_Tk_leadOf 0 0 [.int p0, .int p1] σ (some (.int x), σ) := by
  refine Ct.of (out := (o_r σ)) FC_Tk_leadOf rfl hi rfl h (fun z hz C => ?_)
  clear h
  subst hz
  unfold f_Tk_leadOf
  show Rt z qC_Tk_leadOf wC g (o_r σ) 0 [(0, .int p0), (1, .int p1)] [] σ _
  refine q_iload_n (pc' := 1) C 1 d_Tk_leadOf_0 rfl rfl ?_
  refine q_join (fun J2 : Int32 → Option (Int32) => ∀ (x1 : Int32), Rt z qC_Tk_leadOf wC g (o_r σ) 27 [] [.int x1] σ (J2 x1)) (fun x1 => ?_) (fun J2 hJ2 => ?_)
  · exact q_iret C rfl d_Tk_leadOf_27 rfl
  refine q_join (fun J3 : Unit → Option (Int32) => ∀ (_ : Unit), Rt z qC_Tk_leadOf wC g (o_r σ) 26 [] [] σ (J3 ())) (fun _ => ?_) (fun J3 hJ3 => ?_)
  · refine q_iconst (pc' := 27) C d_Tk_leadOf_26 ki_0 rfl ?_
    exact Rt.sub [] rfl (hJ2 (0 : Int32))
  refine q_if_lt (tgt := 26) (pc' := 4) C d_Tk_leadOf_1 rfl rfl ?_ ?_
  · exact Rt.sub [] rfl (hJ3 ())
  · refine q_iload_n (pc' := 5) C 1 d_Tk_leadOf_4 rfl rfl ?_
    refine q_gled (pc' := 8) C rfl lfC_Tk_184 d_Tk_leadOf_5 rfl ?_
    refine q_nled (pc' := 9) C rfl d_Tk_leadOf_8 rfl ?_
    refine q_icmp_ge (tgt := 26) (pc' := 12) C d_Tk_leadOf_9 rfl rfl ?_ ?_
    · exact Rt.sub [] rfl (hJ3 ())
    · refine q_iload_n (pc' := 13) C 0 d_Tk_leadOf_12 rfl rfl ?_
      refine q_gled (pc' := 16) C rfl lfC_Tk_184 d_Tk_leadOf_13 rfl ?_
      refine q_iload_n (pc' := 17) C 1 d_Tk_leadOf_16 rfl rfl ?_
      refine q_tled (pc' := 18) C rfl d_Tk_leadOf_17 rfl ?_
      refine q_imul (pc' := 19) C d_Tk_leadOf_18 rfl ?_
      refine q_sipush (pc' := 22) C d_Tk_leadOf_19 ks_1000 rfl ?_
      refine q_idiv (pc' := 23) C (by decide) d_Tk_leadOf_22 rfl ?_
      refine q_goto (tgt := 27) C d_Tk_leadOf_23 rfl ?_
      exact Rt.sub [] rfl (hJ2 ((p0 * (LEDS.getD (Int32.toNatClampNeg p1) 0)) / (1000 : Int32)))
theorem d_Tk_mustBeFlownOver_0 : decode qC_Tk_mustBeFlownOver.1 0 = .ok (.aload_n 0, 1) := by decide +kernel
theorem d_Tk_mustBeFlownOver_1 : decode qC_Tk_mustBeFlownOver.1 1 = .ok (.getfield 54, 3) := by decide +kernel
theorem d_Tk_mustBeFlownOver_4 : decode qC_Tk_mustBeFlownOver.1 4 = .ok (.iload_n 1, 1) := by decide +kernel
theorem d_Tk_mustBeFlownOver_5 : decode qC_Tk_mustBeFlownOver.1 5 = .ok (.bipush 7, 2) := by decide +kernel
theorem d_Tk_mustBeFlownOver_7 : decode qC_Tk_mustBeFlownOver.1 7 = .ok (.invokevirtual 99, 3) := by decide +kernel
theorem d_Tk_mustBeFlownOver_10 : decode qC_Tk_mustBeFlownOver.1 10 = .ok (.istore_n 2, 1) := by decide +kernel
theorem d_Tk_mustBeFlownOver_11 : decode qC_Tk_mustBeFlownOver.1 11 = .ok (.iload_n 2, 1) := by decide +kernel
theorem d_Tk_mustBeFlownOver_12 : decode qC_Tk_mustBeFlownOver.1 12 = .ok (.aload_n 0, 1) := by decide +kernel
theorem d_Tk_mustBeFlownOver_13 : decode qC_Tk_mustBeFlownOver.1 13 = .ok (.getfield 54, 3) := by decide +kernel
theorem d_Tk_mustBeFlownOver_16 : decode qC_Tk_mustBeFlownOver.1 16 = .ok (.iload_n 1, 1) := by decide +kernel
theorem d_Tk_mustBeFlownOver_17 : decode qC_Tk_mustBeFlownOver.1 17 = .ok (.iconst 0, 1) := by decide +kernel
theorem d_Tk_mustBeFlownOver_18 : decode qC_Tk_mustBeFlownOver.1 18 = .ok (.invokevirtual 99, 3) := by decide +kernel
theorem d_Tk_mustBeFlownOver_21 : decode qC_Tk_mustBeFlownOver.1 21 = .ok (.if_icmp .ne 5, 3) := by decide +kernel
theorem d_Tk_mustBeFlownOver_24 : decode qC_Tk_mustBeFlownOver.1 24 = .ok (.iconst 0, 1) := by decide +kernel
theorem d_Tk_mustBeFlownOver_25 : decode qC_Tk_mustBeFlownOver.1 25 = .ok (.ireturn, 1) := by decide +kernel
theorem d_Tk_mustBeFlownOver_26 : decode qC_Tk_mustBeFlownOver.1 26 = .ok (.aload_n 0, 1) := by decide +kernel
theorem d_Tk_mustBeFlownOver_27 : decode qC_Tk_mustBeFlownOver.1 27 = .ok (.getfield 37, 3) := by decide +kernel
theorem d_Tk_mustBeFlownOver_30 : decode qC_Tk_mustBeFlownOver.1 30 = .ok (.iload_n 2, 1) := by decide +kernel
theorem d_Tk_mustBeFlownOver_31 : decode qC_Tk_mustBeFlownOver.1 31 = .ok (.invokevirtual 72, 3) := by decide +kernel
theorem d_Tk_mustBeFlownOver_34 : decode qC_Tk_mustBeFlownOver.1 34 = .ok (.bipush 8, 2) := by decide +kernel
theorem d_Tk_mustBeFlownOver_36 : decode qC_Tk_mustBeFlownOver.1 36 = .ok (.if_icmp .eq 20, 3) := by decide +kernel
theorem d_Tk_mustBeFlownOver_39 : decode qC_Tk_mustBeFlownOver.1 39 = .ok (.aload_n 0, 1) := by decide +kernel
theorem d_Tk_mustBeFlownOver_40 : decode qC_Tk_mustBeFlownOver.1 40 = .ok (.getfield 37, 3) := by decide +kernel
theorem d_Tk_mustBeFlownOver_43 : decode qC_Tk_mustBeFlownOver.1 43 = .ok (.getfield 98, 3) := by decide +kernel
theorem d_Tk_mustBeFlownOver_46 : decode qC_Tk_mustBeFlownOver.1 46 = .ok (.iload_n 2, 1) := by decide +kernel
theorem d_Tk_mustBeFlownOver_47 : decode qC_Tk_mustBeFlownOver.1 47 = .ok (.bipush 12, 2) := by decide +kernel
theorem d_Tk_mustBeFlownOver_49 : decode qC_Tk_mustBeFlownOver.1 49 = .ok (.invokevirtual 99, 3) := by decide +kernel
theorem d_Tk_mustBeFlownOver_52 : decode qC_Tk_mustBeFlownOver.1 52 = .ok (.iconst 1, 1) := by decide +kernel
theorem d_Tk_mustBeFlownOver_53 : decode qC_Tk_mustBeFlownOver.1 53 = .ok (.if_icmp .ne 7, 3) := by decide +kernel
theorem d_Tk_mustBeFlownOver_56 : decode qC_Tk_mustBeFlownOver.1 56 = .ok (.iconst 1, 1) := by decide +kernel
theorem d_Tk_mustBeFlownOver_57 : decode qC_Tk_mustBeFlownOver.1 57 = .ok (.goto 4, 3) := by decide +kernel
theorem d_Tk_mustBeFlownOver_60 : decode qC_Tk_mustBeFlownOver.1 60 = .ok (.iconst 0, 1) := by decide +kernel
theorem d_Tk_mustBeFlownOver_61 : decode qC_Tk_mustBeFlownOver.1 61 = .ok (.ireturn, 1) := by decide +kernel
set_option maxRecDepth 100000 in
def f_Tk_mustBeFlownOver (σ : St) (o : Nat) (p1 : Int32) : Option (Int32) :=
  Option.bind (f_Tb_get σ (rc o 3) p1 (7 : Int32)) fun x1 =>
  Option.bind (f_Tb_get σ (rc o 3) p1 (0 : Int32)) fun x2 =>
  if (x1 : Int32) = x2 then (
  some (0 : Int32)
  ) else (
  Option.bind (f_Pl_kind σ (rc o 0) x1) fun x3 =>
  Jn (fun (x4 : Int32) =>
  Gd ((x4 : Int32) &&& 1 = x4) <|
  some x4
  ) fun J5 =>
  Jn (fun (_ : Unit) =>
  J5 (1 : Int32)
  ) fun J7 =>
  if (x3 : Int32) = (8 : Int32) then (
  J7 ()
  ) else (
  Option.bind (f_Tb_get σ (rc (rc o 0) 0) x1 (12 : Int32)) fun x8 =>
  if (x8 : Int32) = (1 : Int32) then (
  J7 ()
  ) else (
  J5 (0 : Int32)
  )
  )
  )
set_option maxHeartbeats 4000000 in
set_option maxRecDepth 100000 in
theorem cC_Tk_mustBeFlownOver (l : Launch) (g : Ge) (hi : injB wC.2 g) (σ : St) (o : Nat) (ho : wC.2.2.1 o = .inr (9, 12)) (p1 : Int32) (x : Int32) (h : f_Tk_mustBeFlownOver σ o p1 = some x) : Ct l wC g yC_Tk_mustBeFlownOver qC_Tk_mustBeFlownOver 2 43 [.ref (g.1 o), .int p1] σ (some (.int x), σ) := by
  refine Ct.of (out := (o_r σ)) FC_Tk_mustBeFlownOver rfl hi rfl h (fun z hz C => ?_)
  clear h
  subst hz
  unfold f_Tk_mustBeFlownOver
  show Rt z qC_Tk_mustBeFlownOver wC g (o_r σ) 0 [(0, .ref (g.1 o)), (1, .int p1)] [] σ _
  refine q_aload_n (pc' := 1) C 0 d_Tk_mustBeFlownOver_0 rfl rfl ?_
  refine gC_Tk_54 (pc' := 4) C o (rc o 3) ho (ly_9_3 ho).1 d_Tk_mustBeFlownOver_1 rfl rfl ?_
  refine q_iload_n (pc' := 5) C 1 d_Tk_mustBeFlownOver_4 rfl rfl ?_
  refine q_bipush (pc' := 7) C d_Tk_mustBeFlownOver_5 kb_7 rfl ?_
  refine q_callVr (fr' := 0) (lo' := 0) (pc' := 10) C FC_Tb_get lmC_Tk_99 d_Tk_mustBeFlownOver_7 (rc o 3) (jCo (ly_9_3 ho).2) (ly_9_3 ho).2 cC_8 [.int p1, .int (7 : Int32)] [] rfl rfl (Nat.le_of_ble_eq_true rfl) ⟨rfl, rfl⟩ (fun x h => cC_Tb_get _ g hi σ (rc o 3) (ly_9_3 ho).2 p1 (7 : Int32) x h) rfl (fun x1 hx1 => ?_)
  refine q_istore_n (pc' := 11) (lv' := [(2, .int x1), (0, .ref (g.1 o)), (1, .int p1)]) C d_Tk_mustBeFlownOver_10 (by decide) rfl rfl ?_
  refine q_iload_n (pc' := 12) C 0 d_Tk_mustBeFlownOver_11 rfl rfl ?_
  refine q_aload_n (pc' := 13) C 1 d_Tk_mustBeFlownOver_12 rfl rfl ?_
  refine gC_Tk_54 (pc' := 16) C o (rc o 3) ho (ly_9_3 ho).1 d_Tk_mustBeFlownOver_13 rfl rfl ?_
  refine q_iload_n (pc' := 17) C 2 d_Tk_mustBeFlownOver_16 rfl rfl ?_
  refine q_iconst (pc' := 18) C d_Tk_mustBeFlownOver_17 ki_0 rfl ?_
  refine q_callVr (fr' := 0) (lo' := 0) (pc' := 21) C FC_Tb_get lmC_Tk_99 d_Tk_mustBeFlownOver_18 (rc o 3) (jCo (ly_9_3 ho).2) (ly_9_3 ho).2 cC_8 [.int p1, .int (0 : Int32)] [.int x1] rfl rfl (Nat.le_of_ble_eq_true rfl) ⟨rfl, rfl⟩ (fun x h => cC_Tb_get _ g hi σ (rc o 3) (ly_9_3 ho).2 p1 (0 : Int32) x h) rfl (fun x2 hx2 => ?_)
  refine q_icmp_ne (tgt := 26) (pc' := 24) C d_Tk_mustBeFlownOver_21 rfl rfl ?_ ?_
  · refine q_aload_n (pc' := 27) C 1 d_Tk_mustBeFlownOver_26 rfl rfl ?_
    refine gC_Tk_37 (pc' := 30) C o (rc o 0) ho (ly_9_0 ho).1 d_Tk_mustBeFlownOver_27 rfl rfl ?_
    refine q_iload_n (pc' := 31) C 0 d_Tk_mustBeFlownOver_30 rfl rfl ?_
    refine q_callVr (fr' := 1) (lo' := 22) (pc' := 34) C FC_Pl_kind lmC_Tk_72 d_Tk_mustBeFlownOver_31 (rc o 0) (jCo (ly_9_0 ho).2) (ly_9_0 ho).2 cC_3 [.int x1] [] rfl rfl (Nat.le_of_ble_eq_true rfl) ⟨rfl, rfl⟩ (fun x h => cC_Pl_kind _ g hi σ (rc o 0) (ly_9_0 ho).2 x1 x h) rfl (fun x3 hx3 => ?_)
    refine q_bipush (pc' := 36) C d_Tk_mustBeFlownOver_34 kb_8 rfl ?_
    refine q_join (fun J5 : Int32 → Option (Int32) => ∀ (x4 : Int32), Rt z qC_Tk_mustBeFlownOver wC g (o_r σ) 61 [] [.int x4] σ (J5 x4)) (fun x4 => ?_) (fun J5 hJ5 => ?_)
    · refine q_guard (fun gx6 => ?_)
      exact q_zret C rfl gx6 d_Tk_mustBeFlownOver_61 rfl
    refine q_join (fun J7 : Unit → Option (Int32) => ∀ (_ : Unit), Rt z qC_Tk_mustBeFlownOver wC g (o_r σ) 56 [] [] σ (J7 ())) (fun _ => ?_) (fun J7 hJ7 => ?_)
    · refine q_iconst (pc' := 57) C d_Tk_mustBeFlownOver_56 ki_1 rfl ?_
      refine q_goto (tgt := 61) C d_Tk_mustBeFlownOver_57 rfl ?_
      exact Rt.sub [] rfl (hJ5 (1 : Int32))
    refine q_icmp_eq (tgt := 56) (pc' := 39) C d_Tk_mustBeFlownOver_36 rfl rfl ?_ ?_
    · exact Rt.sub [] rfl (hJ7 ())
    · refine q_aload_n (pc' := 40) C 1 d_Tk_mustBeFlownOver_39 rfl rfl ?_
      refine gC_Tk_37 (pc' := 43) C o (rc o 0) ho (ly_9_0 ho).1 d_Tk_mustBeFlownOver_40 rfl rfl ?_
      refine gC_Tk_98 (pc' := 46) C (rc o 0) (rc (rc o 0) 0) (ly_9_0 ho).2 (ly_3_0 (ly_9_0 ho).2).1 d_Tk_mustBeFlownOver_43 rfl rfl ?_
      refine q_iload_n (pc' := 47) C 0 d_Tk_mustBeFlownOver_46 rfl rfl ?_
      refine q_bipush (pc' := 49) C d_Tk_mustBeFlownOver_47 kb_12 rfl ?_
      refine q_callVr (fr' := 0) (lo' := 0) (pc' := 52) C FC_Tb_get lmC_Tk_99 d_Tk_mustBeFlownOver_49 (rc (rc o 0) 0) (jCo (ly_3_0 (ly_9_0 ho).2).2) (ly_3_0 (ly_9_0 ho).2).2 cC_8 [.int x1, .int (12 : Int32)] [] rfl rfl (Nat.le_of_ble_eq_true rfl) ⟨rfl, rfl⟩ (fun x h => cC_Tb_get _ g hi σ (rc (rc o 0) 0) (ly_3_0 (ly_9_0 ho).2).2 x1 (12 : Int32) x h) rfl (fun x8 hx8 => ?_)
      refine q_iconst (pc' := 53) C d_Tk_mustBeFlownOver_52 ki_1 rfl ?_
      refine q_icmp_ne (tgt := 60) (pc' := 56) C d_Tk_mustBeFlownOver_53 rfl rfl ?_ ?_
      · refine q_iconst (pc' := 61) C d_Tk_mustBeFlownOver_60 ki_0 rfl ?_
        exact Rt.sub [] rfl (hJ5 (0 : Int32))
      · exact Rt.sub [] rfl (hJ7 ())
  · refine q_iconst (pc' := 25) C d_Tk_mustBeFlownOver_24 ki_0 rfl ?_
    exact q_zret C rfl (by decide) d_Tk_mustBeFlownOver_25 rfl
theorem d_Tk_tellLegOfTurn_0 : decode qC_Tk_tellLegOfTurn.1 0 = .ok (.aload_n 0, 1) := by decide +kernel
theorem d_Tk_tellLegOfTurn_1 : decode qC_Tk_tellLegOfTurn.1 1 = .ok (.getfield 54, 3) := by decide +kernel
theorem d_Tk_tellLegOfTurn_4 : decode qC_Tk_tellLegOfTurn.1 4 = .ok (.iload_n 1, 1) := by decide +kernel
theorem d_Tk_tellLegOfTurn_5 : decode qC_Tk_tellLegOfTurn.1 5 = .ok (.iconst 0, 1) := by decide +kernel
theorem d_Tk_tellLegOfTurn_6 : decode qC_Tk_tellLegOfTurn.1 6 = .ok (.invokevirtual 99, 3) := by decide +kernel
theorem d_Tk_tellLegOfTurn_9 : decode qC_Tk_tellLegOfTurn.1 9 = .ok (.istore_n 2, 1) := by decide +kernel
theorem d_Tk_tellLegOfTurn_10 : decode qC_Tk_tellLegOfTurn.1 10 = .ok (.iload_n 1, 1) := by decide +kernel
theorem d_Tk_tellLegOfTurn_11 : decode qC_Tk_tellLegOfTurn.1 11 = .ok (.ifCond .le 19, 3) := by decide +kernel
theorem d_Tk_tellLegOfTurn_14 : decode qC_Tk_tellLegOfTurn.1 14 = .ok (.aload_n 0, 1) := by decide +kernel
theorem d_Tk_tellLegOfTurn_15 : decode qC_Tk_tellLegOfTurn.1 15 = .ok (.getfield 54, 3) := by decide +kernel
theorem d_Tk_tellLegOfTurn_18 : decode qC_Tk_tellLegOfTurn.1 18 = .ok (.iload_n 1, 1) := by decide +kernel
theorem d_Tk_tellLegOfTurn_19 : decode qC_Tk_tellLegOfTurn.1 19 = .ok (.iconst 1, 1) := by decide +kernel
theorem d_Tk_tellLegOfTurn_20 : decode qC_Tk_tellLegOfTurn.1 20 = .ok (.isub, 1) := by decide +kernel
theorem d_Tk_tellLegOfTurn_21 : decode qC_Tk_tellLegOfTurn.1 21 = .ok (.iconst 0, 1) := by decide +kernel
theorem d_Tk_tellLegOfTurn_22 : decode qC_Tk_tellLegOfTurn.1 22 = .ok (.invokevirtual 99, 3) := by decide +kernel
theorem d_Tk_tellLegOfTurn_25 : decode qC_Tk_tellLegOfTurn.1 25 = .ok (.iload_n 2, 1) := by decide +kernel
theorem d_Tk_tellLegOfTurn_26 : decode qC_Tk_tellLegOfTurn.1 26 = .ok (.if_icmp .ne 4, 3) := by decide +kernel
theorem d_Tk_tellLegOfTurn_29 : decode qC_Tk_tellLegOfTurn.1 29 = .ok (.return_, 1) := by decide +kernel
theorem d_Tk_tellLegOfTurn_30 : decode qC_Tk_tellLegOfTurn.1 30 = .ok (.aload_n 0, 1) := by decide +kernel
theorem d_Tk_tellLegOfTurn_31 : decode qC_Tk_tellLegOfTurn.1 31 = .ok (.getfield 45, 3) := by decide +kernel
theorem d_Tk_tellLegOfTurn_34 : decode qC_Tk_tellLegOfTurn.1 34 = .ok (.iload_n 2, 1) := by decide +kernel
theorem d_Tk_tellLegOfTurn_35 : decode qC_Tk_tellLegOfTurn.1 35 = .ok (.iconst 4, 1) := by decide +kernel
theorem d_Tk_tellLegOfTurn_36 : decode qC_Tk_tellLegOfTurn.1 36 = .ok (.aload_n 0, 1) := by decide +kernel
theorem d_Tk_tellLegOfTurn_37 : decode qC_Tk_tellLegOfTurn.1 37 = .ok (.getfield 54, 3) := by decide +kernel
theorem d_Tk_tellLegOfTurn_40 : decode qC_Tk_tellLegOfTurn.1 40 = .ok (.iload_n 1, 1) := by decide +kernel
theorem d_Tk_tellLegOfTurn_41 : decode qC_Tk_tellLegOfTurn.1 41 = .ok (.bipush 11, 2) := by decide +kernel
theorem d_Tk_tellLegOfTurn_43 : decode qC_Tk_tellLegOfTurn.1 43 = .ok (.invokevirtual 99, 3) := by decide +kernel
theorem d_Tk_tellLegOfTurn_46 : decode qC_Tk_tellLegOfTurn.1 46 = .ok (.invokevirtual 68, 3) := by decide +kernel
theorem d_Tk_tellLegOfTurn_49 : decode qC_Tk_tellLegOfTurn.1 49 = .ok (.aload_n 0, 1) := by decide +kernel
theorem d_Tk_tellLegOfTurn_50 : decode qC_Tk_tellLegOfTurn.1 50 = .ok (.getfield 45, 3) := by decide +kernel
theorem d_Tk_tellLegOfTurn_53 : decode qC_Tk_tellLegOfTurn.1 53 = .ok (.iload_n 2, 1) := by decide +kernel
theorem d_Tk_tellLegOfTurn_54 : decode qC_Tk_tellLegOfTurn.1 54 = .ok (.iconst 5, 1) := by decide +kernel
theorem d_Tk_tellLegOfTurn_55 : decode qC_Tk_tellLegOfTurn.1 55 = .ok (.aload_n 0, 1) := by decide +kernel
theorem d_Tk_tellLegOfTurn_56 : decode qC_Tk_tellLegOfTurn.1 56 = .ok (.getfield 54, 3) := by decide +kernel
theorem d_Tk_tellLegOfTurn_59 : decode qC_Tk_tellLegOfTurn.1 59 = .ok (.iload_n 1, 1) := by decide +kernel
theorem d_Tk_tellLegOfTurn_60 : decode qC_Tk_tellLegOfTurn.1 60 = .ok (.bipush 12, 2) := by decide +kernel
theorem d_Tk_tellLegOfTurn_62 : decode qC_Tk_tellLegOfTurn.1 62 = .ok (.invokevirtual 99, 3) := by decide +kernel
theorem d_Tk_tellLegOfTurn_65 : decode qC_Tk_tellLegOfTurn.1 65 = .ok (.invokevirtual 68, 3) := by decide +kernel
theorem d_Tk_tellLegOfTurn_68 : decode qC_Tk_tellLegOfTurn.1 68 = .ok (.aload_n 0, 1) := by decide +kernel
theorem d_Tk_tellLegOfTurn_69 : decode qC_Tk_tellLegOfTurn.1 69 = .ok (.getfield 45, 3) := by decide +kernel
theorem d_Tk_tellLegOfTurn_72 : decode qC_Tk_tellLegOfTurn.1 72 = .ok (.iload_n 2, 1) := by decide +kernel
theorem d_Tk_tellLegOfTurn_73 : decode qC_Tk_tellLegOfTurn.1 73 = .ok (.bipush 6, 2) := by decide +kernel
theorem d_Tk_tellLegOfTurn_75 : decode qC_Tk_tellLegOfTurn.1 75 = .ok (.aload_n 0, 1) := by decide +kernel
theorem d_Tk_tellLegOfTurn_76 : decode qC_Tk_tellLegOfTurn.1 76 = .ok (.getfield 54, 3) := by decide +kernel
theorem d_Tk_tellLegOfTurn_79 : decode qC_Tk_tellLegOfTurn.1 79 = .ok (.iload_n 1, 1) := by decide +kernel
theorem d_Tk_tellLegOfTurn_80 : decode qC_Tk_tellLegOfTurn.1 80 = .ok (.bipush 13, 2) := by decide +kernel
theorem d_Tk_tellLegOfTurn_82 : decode qC_Tk_tellLegOfTurn.1 82 = .ok (.invokevirtual 99, 3) := by decide +kernel
theorem d_Tk_tellLegOfTurn_85 : decode qC_Tk_tellLegOfTurn.1 85 = .ok (.invokevirtual 68, 3) := by decide +kernel
theorem d_Tk_tellLegOfTurn_88 : decode qC_Tk_tellLegOfTurn.1 88 = .ok (.aload_n 0, 1) := by decide +kernel
theorem d_Tk_tellLegOfTurn_89 : decode qC_Tk_tellLegOfTurn.1 89 = .ok (.getfield 45, 3) := by decide +kernel
theorem d_Tk_tellLegOfTurn_92 : decode qC_Tk_tellLegOfTurn.1 92 = .ok (.iload_n 2, 1) := by decide +kernel
theorem d_Tk_tellLegOfTurn_93 : decode qC_Tk_tellLegOfTurn.1 93 = .ok (.bipush 7, 2) := by decide +kernel
theorem d_Tk_tellLegOfTurn_95 : decode qC_Tk_tellLegOfTurn.1 95 = .ok (.aload_n 0, 1) := by decide +kernel
theorem d_Tk_tellLegOfTurn_96 : decode qC_Tk_tellLegOfTurn.1 96 = .ok (.getfield 54, 3) := by decide +kernel
theorem d_Tk_tellLegOfTurn_99 : decode qC_Tk_tellLegOfTurn.1 99 = .ok (.iload_n 1, 1) := by decide +kernel
theorem d_Tk_tellLegOfTurn_100 : decode qC_Tk_tellLegOfTurn.1 100 = .ok (.bipush 14, 2) := by decide +kernel
theorem d_Tk_tellLegOfTurn_102 : decode qC_Tk_tellLegOfTurn.1 102 = .ok (.invokevirtual 99, 3) := by decide +kernel
theorem d_Tk_tellLegOfTurn_105 : decode qC_Tk_tellLegOfTurn.1 105 = .ok (.invokevirtual 68, 3) := by decide +kernel
theorem d_Tk_tellLegOfTurn_108 : decode qC_Tk_tellLegOfTurn.1 108 = .ok (.return_, 1) := by decide +kernel
set_option maxRecDepth 100000 in
def f_Tk_tellLegOfTurn (σ : St) (o : Nat) (p1 : Int32) : Option (St) :=
  Option.bind (f_Tb_get σ (rc o 3) p1 (0 : Int32)) fun x1 =>
  Jn (fun (_ : Unit) =>
  Option.bind (f_Tb_get σ (rc o 3) p1 (11 : Int32)) fun x3 =>
  Option.bind (f_Tb_put σ (rc o 2) x1 (4 : Int32) x3) fun x4 =>
  Option.bind (f_Tb_get x4 (rc o 3) p1 (12 : Int32)) fun x5 =>
  Option.bind (f_Tb_put x4 (rc o 2) x1 (5 : Int32) x5) fun x6 =>
  Option.bind (f_Tb_get x6 (rc o 3) p1 (13 : Int32)) fun x7 =>
  Option.bind (f_Tb_put x6 (rc o 2) x1 (6 : Int32) x7) fun x8 =>
  Option.bind (f_Tb_get x8 (rc o 3) p1 (14 : Int32)) fun x9 =>
  Option.bind (f_Tb_put x8 (rc o 2) x1 (7 : Int32) x9) fun x10 =>
  some x10
  ) fun J2 =>
  if (p1 : Int32) ≤ 0 then (
  J2 ()
  ) else (
  Option.bind (f_Tb_get σ (rc o 3) (p1 - (1 : Int32)) (0 : Int32)) fun x11 =>
  if (x11 : Int32) = x1 then (
  some σ
  ) else (
  J2 ()
  )
  )
set_option maxHeartbeats 4000000 in
set_option maxRecDepth 100000 in
theorem cC_Tk_tellLegOfTurn (l : Launch) (g : Ge) (hi : injB wC.2 g) (σ : St) (o : Nat) (ho : wC.2.2.1 o = .inr (9, 12)) (p1 : Int32) (x : St) (h : f_Tk_tellLegOfTurn σ o p1 = some x) : Ct l wC g yC_Tk_tellLegOfTurn qC_Tk_tellLegOfTurn 1 23 [.ref (g.1 o), .int p1] σ (none, x) := by
  refine Ct.of (out := o_v) FC_Tk_tellLegOfTurn rfl hi rfl h (fun z hz C => ?_)
  clear h
  subst hz
  unfold f_Tk_tellLegOfTurn
  show Rt z qC_Tk_tellLegOfTurn wC g o_v 0 [(0, .ref (g.1 o)), (1, .int p1)] [] σ _
  refine q_aload_n (pc' := 1) C 0 d_Tk_tellLegOfTurn_0 rfl rfl ?_
  refine gC_Tk_54 (pc' := 4) C o (rc o 3) ho (ly_9_3 ho).1 d_Tk_tellLegOfTurn_1 rfl rfl ?_
  refine q_iload_n (pc' := 5) C 1 d_Tk_tellLegOfTurn_4 rfl rfl ?_
  refine q_iconst (pc' := 6) C d_Tk_tellLegOfTurn_5 ki_0 rfl ?_
  refine q_callVr (fr' := 0) (lo' := 0) (pc' := 9) C FC_Tb_get lmC_Tk_99 d_Tk_tellLegOfTurn_6 (rc o 3) (jCo (ly_9_3 ho).2) (ly_9_3 ho).2 cC_8 [.int p1, .int (0 : Int32)] [] rfl rfl (Nat.le_of_ble_eq_true rfl) ⟨rfl, rfl⟩ (fun x h => cC_Tb_get _ g hi σ (rc o 3) (ly_9_3 ho).2 p1 (0 : Int32) x h) rfl (fun x1 hx1 => ?_)
  refine q_istore_n (pc' := 10) (lv' := [(2, .int x1), (0, .ref (g.1 o)), (1, .int p1)]) C d_Tk_tellLegOfTurn_9 (by decide) rfl rfl ?_
  refine q_iload_n (pc' := 11) C 2 d_Tk_tellLegOfTurn_10 rfl rfl ?_
  refine q_join (fun J2 : Unit → Option (St) => ∀ (_ : Unit), Rt z qC_Tk_tellLegOfTurn wC g o_v 30 [(0, .ref (g.1 o)), (1, .int p1), (2, .int x1)] [] σ (J2 ())) (fun _ => ?_) (fun J2 hJ2 => ?_)
  · refine q_aload_n (pc' := 31) C 0 d_Tk_tellLegOfTurn_30 rfl rfl ?_
    refine gC_Tk_45 (pc' := 34) C o (rc o 2) ho (ly_9_2 ho).1 d_Tk_tellLegOfTurn_31 rfl rfl ?_
    refine q_iload_n (pc' := 35) C 2 d_Tk_tellLegOfTurn_34 rfl rfl ?_
    refine q_iconst (pc' := 36) C d_Tk_tellLegOfTurn_35 ki_4 rfl ?_
    refine q_aload_n (pc' := 37) C 0 d_Tk_tellLegOfTurn_36 rfl rfl ?_
    refine gC_Tk_54 (pc' := 40) C o (rc o 3) ho (ly_9_3 ho).1 d_Tk_tellLegOfTurn_37 rfl rfl ?_
    refine q_iload_n (pc' := 41) C 1 d_Tk_tellLegOfTurn_40 rfl rfl ?_
    refine q_bipush (pc' := 43) C d_Tk_tellLegOfTurn_41 kb_11 rfl ?_
    refine q_callVr (fr' := 0) (lo' := 0) (pc' := 46) C FC_Tb_get lmC_Tk_99 d_Tk_tellLegOfTurn_43 (rc o 3) (jCo (ly_9_3 ho).2) (ly_9_3 ho).2 cC_8 [.int p1, .int (11 : Int32)] [.int (4 : Int32), .int x1, .ref (g.1 (rc o 2))] rfl rfl (Nat.le_of_ble_eq_true rfl) ⟨rfl, rfl⟩ (fun x h => cC_Tb_get _ g hi σ (rc o 3) (ly_9_3 ho).2 p1 (11 : Int32) x h) rfl (fun x3 hx3 => ?_)
    refine q_callVv (fr' := 0) (lo' := 0) (pc' := 49) C FC_Tb_put lmC_Tk_68 d_Tk_tellLegOfTurn_46 (rc o 2) (jCo (ly_9_2 ho).2) (ly_9_2 ho).2 cC_8 [.int x1, .int (4 : Int32), .int x3] [] rfl rfl (Nat.le_of_ble_eq_true rfl) ⟨rfl, rfl⟩ (fun x h => cC_Tb_put _ g hi σ (rc o 2) (ly_9_2 ho).2 x1 (4 : Int32) x3 x h) rfl (fun x4 hx4 => ?_)
    refine q_aload_n (pc' := 50) C 0 d_Tk_tellLegOfTurn_49 rfl rfl ?_
    refine gC_Tk_45 (pc' := 53) C o (rc o 2) ho (ly_9_2 ho).1 d_Tk_tellLegOfTurn_50 rfl rfl ?_
    refine q_iload_n (pc' := 54) C 2 d_Tk_tellLegOfTurn_53 rfl rfl ?_
    refine q_iconst (pc' := 55) C d_Tk_tellLegOfTurn_54 ki_5 rfl ?_
    refine q_aload_n (pc' := 56) C 0 d_Tk_tellLegOfTurn_55 rfl rfl ?_
    refine gC_Tk_54 (pc' := 59) C o (rc o 3) ho (ly_9_3 ho).1 d_Tk_tellLegOfTurn_56 rfl rfl ?_
    refine q_iload_n (pc' := 60) C 1 d_Tk_tellLegOfTurn_59 rfl rfl ?_
    refine q_bipush (pc' := 62) C d_Tk_tellLegOfTurn_60 kb_12 rfl ?_
    refine q_callVr (fr' := 0) (lo' := 0) (pc' := 65) C FC_Tb_get lmC_Tk_99 d_Tk_tellLegOfTurn_62 (rc o 3) (jCo (ly_9_3 ho).2) (ly_9_3 ho).2 cC_8 [.int p1, .int (12 : Int32)] [.int (5 : Int32), .int x1, .ref (g.1 (rc o 2))] rfl rfl (Nat.le_of_ble_eq_true rfl) ⟨rfl, rfl⟩ (fun x h => cC_Tb_get _ g hi x4 (rc o 3) (ly_9_3 ho).2 p1 (12 : Int32) x h) rfl (fun x5 hx5 => ?_)
    refine q_callVv (fr' := 0) (lo' := 0) (pc' := 68) C FC_Tb_put lmC_Tk_68 d_Tk_tellLegOfTurn_65 (rc o 2) (jCo (ly_9_2 ho).2) (ly_9_2 ho).2 cC_8 [.int x1, .int (5 : Int32), .int x5] [] rfl rfl (Nat.le_of_ble_eq_true rfl) ⟨rfl, rfl⟩ (fun x h => cC_Tb_put _ g hi x4 (rc o 2) (ly_9_2 ho).2 x1 (5 : Int32) x5 x h) rfl (fun x6 hx6 => ?_)
    refine q_aload_n (pc' := 69) C 0 d_Tk_tellLegOfTurn_68 rfl rfl ?_
    refine gC_Tk_45 (pc' := 72) C o (rc o 2) ho (ly_9_2 ho).1 d_Tk_tellLegOfTurn_69 rfl rfl ?_
    refine q_iload_n (pc' := 73) C 2 d_Tk_tellLegOfTurn_72 rfl rfl ?_
    refine q_bipush (pc' := 75) C d_Tk_tellLegOfTurn_73 kb_6 rfl ?_
    refine q_aload_n (pc' := 76) C 0 d_Tk_tellLegOfTurn_75 rfl rfl ?_
    refine gC_Tk_54 (pc' := 79) C o (rc o 3) ho (ly_9_3 ho).1 d_Tk_tellLegOfTurn_76 rfl rfl ?_
    refine q_iload_n (pc' := 80) C 1 d_Tk_tellLegOfTurn_79 rfl rfl ?_
    refine q_bipush (pc' := 82) C d_Tk_tellLegOfTurn_80 kb_13 rfl ?_
    refine q_callVr (fr' := 0) (lo' := 0) (pc' := 85) C FC_Tb_get lmC_Tk_99 d_Tk_tellLegOfTurn_82 (rc o 3) (jCo (ly_9_3 ho).2) (ly_9_3 ho).2 cC_8 [.int p1, .int (13 : Int32)] [.int (6 : Int32), .int x1, .ref (g.1 (rc o 2))] rfl rfl (Nat.le_of_ble_eq_true rfl) ⟨rfl, rfl⟩ (fun x h => cC_Tb_get _ g hi x6 (rc o 3) (ly_9_3 ho).2 p1 (13 : Int32) x h) rfl (fun x7 hx7 => ?_)
    refine q_callVv (fr' := 0) (lo' := 0) (pc' := 88) C FC_Tb_put lmC_Tk_68 d_Tk_tellLegOfTurn_85 (rc o 2) (jCo (ly_9_2 ho).2) (ly_9_2 ho).2 cC_8 [.int x1, .int (6 : Int32), .int x7] [] rfl rfl (Nat.le_of_ble_eq_true rfl) ⟨rfl, rfl⟩ (fun x h => cC_Tb_put _ g hi x6 (rc o 2) (ly_9_2 ho).2 x1 (6 : Int32) x7 x h) rfl (fun x8 hx8 => ?_)
    refine q_aload_n (pc' := 89) C 0 d_Tk_tellLegOfTurn_88 rfl rfl ?_
    refine gC_Tk_45 (pc' := 92) C o (rc o 2) ho (ly_9_2 ho).1 d_Tk_tellLegOfTurn_89 rfl rfl ?_
    refine q_iload_n (pc' := 93) C 2 d_Tk_tellLegOfTurn_92 rfl rfl ?_
    refine q_bipush (pc' := 95) C d_Tk_tellLegOfTurn_93 kb_7 rfl ?_
    refine q_aload_n (pc' := 96) C 0 d_Tk_tellLegOfTurn_95 rfl rfl ?_
    refine gC_Tk_54 (pc' := 99) C o (rc o 3) ho (ly_9_3 ho).1 d_Tk_tellLegOfTurn_96 rfl rfl ?_
    refine q_iload_n (pc' := 100) C 1 d_Tk_tellLegOfTurn_99 rfl rfl ?_
    refine q_bipush (pc' := 102) C d_Tk_tellLegOfTurn_100 kb_14 rfl ?_
    refine q_callVr (fr' := 0) (lo' := 0) (pc' := 105) C FC_Tb_get lmC_Tk_99 d_Tk_tellLegOfTurn_102 (rc o 3) (jCo (ly_9_3 ho).2) (ly_9_3 ho).2 cC_8 [.int p1, .int (14 : Int32)] [.int (7 : Int32), .int x1, .ref (g.1 (rc o 2))] rfl rfl (Nat.le_of_ble_eq_true rfl) ⟨rfl, rfl⟩ (fun x h => cC_Tb_get _ g hi x8 (rc o 3) (ly_9_3 ho).2 p1 (14 : Int32) x h) rfl (fun x9 hx9 => ?_)
    refine q_callVv (fr' := 0) (lo' := 0) (pc' := 108) C FC_Tb_put lmC_Tk_68 d_Tk_tellLegOfTurn_105 (rc o 2) (jCo (ly_9_2 ho).2) (ly_9_2 ho).2 cC_8 [.int x1, .int (7 : Int32), .int x9] [] rfl rfl (Nat.le_of_ble_eq_true rfl) ⟨rfl, rfl⟩ (fun x h => cC_Tb_put _ g hi x8 (rc o 2) (ly_9_2 ho).2 x1 (7 : Int32) x9 x h) rfl (fun x10 hx10 => ?_)
    exact q_vret C rfl d_Tk_tellLegOfTurn_108 rfl
  refine q_if_le (tgt := 30) (pc' := 14) C d_Tk_tellLegOfTurn_11 rfl rfl ?_ ?_
  · exact Rt.sub [1, 2, 0] rfl (hJ2 ())
  · refine q_aload_n (pc' := 15) C 1 d_Tk_tellLegOfTurn_14 rfl rfl ?_
    refine gC_Tk_54 (pc' := 18) C o (rc o 3) ho (ly_9_3 ho).1 d_Tk_tellLegOfTurn_15 rfl rfl ?_
    refine q_iload_n (pc' := 19) C 2 d_Tk_tellLegOfTurn_18 rfl rfl ?_
    refine q_iconst (pc' := 20) C d_Tk_tellLegOfTurn_19 ki_1 rfl ?_
    refine q_isub (pc' := 21) C d_Tk_tellLegOfTurn_20 rfl ?_
    refine q_iconst (pc' := 22) C d_Tk_tellLegOfTurn_21 ki_0 rfl ?_
    refine q_callVr (fr' := 0) (lo' := 0) (pc' := 25) C FC_Tb_get lmC_Tk_99 d_Tk_tellLegOfTurn_22 (rc o 3) (jCo (ly_9_3 ho).2) (ly_9_3 ho).2 cC_8 [.int (p1 - (1 : Int32)), .int (0 : Int32)] [] rfl rfl (Nat.le_of_ble_eq_true rfl) ⟨rfl, rfl⟩ (fun x h => cC_Tb_get _ g hi σ (rc o 3) (ly_9_3 ho).2 (p1 - (1 : Int32)) (0 : Int32) x h) rfl (fun x11 hx11 => ?_)
    refine q_iload_n (pc' := 26) C 0 d_Tk_tellLegOfTurn_25 rfl rfl ?_
    refine q_icmp_ne (tgt := 30) (pc' := 29) C d_Tk_tellLegOfTurn_26 rfl rfl ?_ ?_
    · exact Rt.sub [1, 2, 0] rfl (hJ2 ())
    · exact q_vret C rfl d_Tk_tellLegOfTurn_29 rfl
theorem d_Tk_turnInto_0 : decode qC_Tk_turnInto.1 0 = .ok (.aload_n 0, 1) := by decide +kernel
theorem d_Tk_turnInto_1 : decode qC_Tk_turnInto.1 1 = .ok (.getfield 54, 3) := by decide +kernel
theorem d_Tk_turnInto_4 : decode qC_Tk_turnInto.1 4 = .ok (.iload_n 1, 1) := by decide +kernel
theorem d_Tk_turnInto_5 : decode qC_Tk_turnInto.1 5 = .ok (.bipush 8, 2) := by decide +kernel
theorem d_Tk_turnInto_7 : decode qC_Tk_turnInto.1 7 = .ok (.invokevirtual 99, 3) := by decide +kernel
theorem d_Tk_turnInto_10 : decode qC_Tk_turnInto.1 10 = .ok (.istore_n 2, 1) := by decide +kernel
theorem d_Tk_turnInto_11 : decode qC_Tk_turnInto.1 11 = .ok (.aload_n 0, 1) := by decide +kernel
theorem d_Tk_turnInto_12 : decode qC_Tk_turnInto.1 12 = .ok (.getfield 54, 3) := by decide +kernel
theorem d_Tk_turnInto_15 : decode qC_Tk_turnInto.1 15 = .ok (.iload_n 1, 1) := by decide +kernel
theorem d_Tk_turnInto_16 : decode qC_Tk_turnInto.1 16 = .ok (.bipush 6, 2) := by decide +kernel
theorem d_Tk_turnInto_18 : decode qC_Tk_turnInto.1 18 = .ok (.invokevirtual 99, 3) := by decide +kernel
theorem d_Tk_turnInto_21 : decode qC_Tk_turnInto.1 21 = .ok (.istore_n 3, 1) := by decide +kernel
theorem d_Tk_turnInto_22 : decode qC_Tk_turnInto.1 22 = .ok (.aload_n 0, 1) := by decide +kernel
theorem d_Tk_turnInto_23 : decode qC_Tk_turnInto.1 23 = .ok (.getfield 54, 3) := by decide +kernel
theorem d_Tk_turnInto_26 : decode qC_Tk_turnInto.1 26 = .ok (.iload_n 1, 1) := by decide +kernel
theorem d_Tk_turnInto_27 : decode qC_Tk_turnInto.1 27 = .ok (.bipush 7, 2) := by decide +kernel
theorem d_Tk_turnInto_29 : decode qC_Tk_turnInto.1 29 = .ok (.invokevirtual 99, 3) := by decide +kernel
theorem d_Tk_turnInto_32 : decode qC_Tk_turnInto.1 32 = .ok (.iconst (-1), 1) := by decide +kernel
theorem d_Tk_turnInto_33 : decode qC_Tk_turnInto.1 33 = .ok (.if_icmp .eq 8, 3) := by decide +kernel
theorem d_Tk_turnInto_36 : decode qC_Tk_turnInto.1 36 = .ok (.iload_n 2, 1) := by decide +kernel
theorem d_Tk_turnInto_37 : decode qC_Tk_turnInto.1 37 = .ok (.iload_n 3, 1) := by decide +kernel
theorem d_Tk_turnInto_38 : decode qC_Tk_turnInto.1 38 = .ok (.if_icmp .ne 4, 3) := by decide +kernel
theorem d_Tk_turnInto_41 : decode qC_Tk_turnInto.1 41 = .ok (.return_, 1) := by decide +kernel
theorem d_Tk_turnInto_42 : decode qC_Tk_turnInto.1 42 = .ok (.iload_n 3, 1) := by decide +kernel
theorem d_Tk_turnInto_43 : decode qC_Tk_turnInto.1 43 = .ok (.iload_n 2, 1) := by decide +kernel
theorem d_Tk_turnInto_44 : decode qC_Tk_turnInto.1 44 = .ok (.isub, 1) := by decide +kernel
theorem d_Tk_turnInto_45 : decode qC_Tk_turnInto.1 45 = .ok (.invokestatic 166, 3) := by decide +kernel
theorem d_Tk_turnInto_48 : decode qC_Tk_turnInto.1 48 = .ok (.istore 4, 2) := by decide +kernel
theorem d_Tk_turnInto_50 : decode qC_Tk_turnInto.1 50 = .ok (.iload 4, 2) := by decide +kernel
theorem d_Tk_turnInto_52 : decode qC_Tk_turnInto.1 52 = .ok (.bipush 12, 2) := by decide +kernel
theorem d_Tk_turnInto_54 : decode qC_Tk_turnInto.1 54 = .ok (.if_icmp .gt 8, 3) := by decide +kernel
theorem d_Tk_turnInto_57 : decode qC_Tk_turnInto.1 57 = .ok (.iload 4, 2) := by decide +kernel
theorem d_Tk_turnInto_59 : decode qC_Tk_turnInto.1 59 = .ok (.goto 8, 3) := by decide +kernel
theorem d_Tk_turnInto_62 : decode qC_Tk_turnInto.1 62 = .ok (.bipush 24, 2) := by decide +kernel
theorem d_Tk_turnInto_64 : decode qC_Tk_turnInto.1 64 = .ok (.iload 4, 2) := by decide +kernel
theorem d_Tk_turnInto_66 : decode qC_Tk_turnInto.1 66 = .ok (.isub, 1) := by decide +kernel
theorem d_Tk_turnInto_67 : decode qC_Tk_turnInto.1 67 = .ok (.istore 5, 2) := by decide +kernel
theorem d_Tk_turnInto_69 : decode qC_Tk_turnInto.1 69 = .ok (.aload_n 0, 1) := by decide +kernel
theorem d_Tk_turnInto_70 : decode qC_Tk_turnInto.1 70 = .ok (.iload_n 1, 1) := by decide +kernel
theorem d_Tk_turnInto_71 : decode qC_Tk_turnInto.1 71 = .ok (.invokevirtual 169, 3) := by decide +kernel
theorem d_Tk_turnInto_74 : decode qC_Tk_turnInto.1 74 = .ok (.invokestatic 172, 3) := by decide +kernel
theorem d_Tk_turnInto_77 : decode qC_Tk_turnInto.1 77 = .ok (.istore 6, 2) := by decide +kernel
theorem d_Tk_turnInto_79 : decode qC_Tk_turnInto.1 79 = .ok (.iload 6, 2) := by decide +kernel
theorem d_Tk_turnInto_81 : decode qC_Tk_turnInto.1 81 = .ok (.iload 5, 2) := by decide +kernel
theorem d_Tk_turnInto_83 : decode qC_Tk_turnInto.1 83 = .ok (.invokestatic 175, 3) := by decide +kernel
theorem d_Tk_turnInto_86 : decode qC_Tk_turnInto.1 86 = .ok (.istore 7, 2) := by decide +kernel
theorem d_Tk_turnInto_88 : decode qC_Tk_turnInto.1 88 = .ok (.iload 5, 2) := by decide +kernel
theorem d_Tk_turnInto_90 : decode qC_Tk_turnInto.1 90 = .ok (.bipush 8, 2) := by decide +kernel
theorem d_Tk_turnInto_92 : decode qC_Tk_turnInto.1 92 = .ok (.if_icmp .gt 48, 3) := by decide +kernel
theorem d_Tk_turnInto_95 : decode qC_Tk_turnInto.1 95 = .ok (.aload_n 0, 1) := by decide +kernel
theorem d_Tk_turnInto_96 : decode qC_Tk_turnInto.1 96 = .ok (.getfield 54, 3) := by decide +kernel
theorem d_Tk_turnInto_99 : decode qC_Tk_turnInto.1 99 = .ok (.iload_n 1, 1) := by decide +kernel
theorem d_Tk_turnInto_100 : decode qC_Tk_turnInto.1 100 = .ok (.bipush 9, 2) := by decide +kernel
theorem d_Tk_turnInto_102 : decode qC_Tk_turnInto.1 102 = .ok (.invokevirtual 99, 3) := by decide +kernel
theorem d_Tk_turnInto_105 : decode qC_Tk_turnInto.1 105 = .ok (.iconst 2, 1) := by decide +kernel
theorem d_Tk_turnInto_106 : decode qC_Tk_turnInto.1 106 = .ok (.iload 7, 2) := by decide +kernel
theorem d_Tk_turnInto_108 : decode qC_Tk_turnInto.1 108 = .ok (.imul, 1) := by decide +kernel
theorem d_Tk_turnInto_109 : decode qC_Tk_turnInto.1 109 = .ok (.if_icmp .lt 31, 3) := by decide +kernel
theorem d_Tk_turnInto_112 : decode qC_Tk_turnInto.1 112 = .ok (.aload_n 0, 1) := by decide +kernel
theorem d_Tk_turnInto_113 : decode qC_Tk_turnInto.1 113 = .ok (.getfield 54, 3) := by decide +kernel
theorem d_Tk_turnInto_116 : decode qC_Tk_turnInto.1 116 = .ok (.iload_n 1, 1) := by decide +kernel
theorem d_Tk_turnInto_117 : decode qC_Tk_turnInto.1 117 = .ok (.iconst 5, 1) := by decide +kernel
theorem d_Tk_turnInto_118 : decode qC_Tk_turnInto.1 118 = .ok (.invokevirtual 99, 3) := by decide +kernel
theorem d_Tk_turnInto_121 : decode qC_Tk_turnInto.1 121 = .ok (.iconst 2, 1) := by decide +kernel
theorem d_Tk_turnInto_122 : decode qC_Tk_turnInto.1 122 = .ok (.iload 7, 2) := by decide +kernel
theorem d_Tk_turnInto_124 : decode qC_Tk_turnInto.1 124 = .ok (.imul, 1) := by decide +kernel
theorem d_Tk_turnInto_125 : decode qC_Tk_turnInto.1 125 = .ok (.if_icmp .lt 15, 3) := by decide +kernel
theorem d_Tk_turnInto_128 : decode qC_Tk_turnInto.1 128 = .ok (.aload_n 0, 1) := by decide +kernel
theorem d_Tk_turnInto_129 : decode qC_Tk_turnInto.1 129 = .ok (.iload_n 1, 1) := by decide +kernel
theorem d_Tk_turnInto_130 : decode qC_Tk_turnInto.1 130 = .ok (.invokevirtual 178, 3) := by decide +kernel
theorem d_Tk_turnInto_133 : decode qC_Tk_turnInto.1 133 = .ok (.ifCond .ne 7, 3) := by decide +kernel
theorem d_Tk_turnInto_136 : decode qC_Tk_turnInto.1 136 = .ok (.iconst 1, 1) := by decide +kernel
theorem d_Tk_turnInto_137 : decode qC_Tk_turnInto.1 137 = .ok (.goto 4, 3) := by decide +kernel
theorem d_Tk_turnInto_140 : decode qC_Tk_turnInto.1 140 = .ok (.iconst 0, 1) := by decide +kernel
theorem d_Tk_turnInto_141 : decode qC_Tk_turnInto.1 141 = .ok (.istore 8, 2) := by decide +kernel
theorem d_Tk_turnInto_143 : decode qC_Tk_turnInto.1 143 = .ok (.aload_n 0, 1) := by decide +kernel
theorem d_Tk_turnInto_144 : decode qC_Tk_turnInto.1 144 = .ok (.getfield 54, 3) := by decide +kernel
theorem d_Tk_turnInto_147 : decode qC_Tk_turnInto.1 147 = .ok (.iload_n 1, 1) := by decide +kernel
theorem d_Tk_turnInto_148 : decode qC_Tk_turnInto.1 148 = .ok (.bipush 11, 2) := by decide +kernel
theorem d_Tk_turnInto_150 : decode qC_Tk_turnInto.1 150 = .ok (.iload 8, 2) := by decide +kernel
theorem d_Tk_turnInto_152 : decode qC_Tk_turnInto.1 152 = .ok (.ifCond .eq 7, 3) := by decide +kernel
theorem d_Tk_turnInto_155 : decode qC_Tk_turnInto.1 155 = .ok (.iconst 1, 1) := by decide +kernel
theorem d_Tk_turnInto_156 : decode qC_Tk_turnInto.1 156 = .ok (.goto 4, 3) := by decide +kernel
theorem d_Tk_turnInto_159 : decode qC_Tk_turnInto.1 159 = .ok (.iconst 2, 1) := by decide +kernel
theorem d_Tk_turnInto_160 : decode qC_Tk_turnInto.1 160 = .ok (.invokevirtual 68, 3) := by decide +kernel
theorem d_Tk_turnInto_163 : decode qC_Tk_turnInto.1 163 = .ok (.aload_n 0, 1) := by decide +kernel
theorem d_Tk_turnInto_164 : decode qC_Tk_turnInto.1 164 = .ok (.getfield 54, 3) := by decide +kernel
theorem d_Tk_turnInto_167 : decode qC_Tk_turnInto.1 167 = .ok (.iload_n 1, 1) := by decide +kernel
theorem d_Tk_turnInto_168 : decode qC_Tk_turnInto.1 168 = .ok (.bipush 12, 2) := by decide +kernel
theorem d_Tk_turnInto_170 : decode qC_Tk_turnInto.1 170 = .ok (.iload 4, 2) := by decide +kernel
theorem d_Tk_turnInto_172 : decode qC_Tk_turnInto.1 172 = .ok (.bipush 12, 2) := by decide +kernel
theorem d_Tk_turnInto_174 : decode qC_Tk_turnInto.1 174 = .ok (.if_icmp .gt 8, 3) := by decide +kernel
theorem d_Tk_turnInto_177 : decode qC_Tk_turnInto.1 177 = .ok (.iload 5, 2) := by decide +kernel
theorem d_Tk_turnInto_179 : decode qC_Tk_turnInto.1 179 = .ok (.goto 6, 3) := by decide +kernel
theorem d_Tk_turnInto_182 : decode qC_Tk_turnInto.1 182 = .ok (.iload 5, 2) := by decide +kernel
theorem d_Tk_turnInto_184 : decode qC_Tk_turnInto.1 184 = .ok (.ineg, 1) := by decide +kernel
theorem d_Tk_turnInto_185 : decode qC_Tk_turnInto.1 185 = .ok (.invokevirtual 68, 3) := by decide +kernel
theorem d_Tk_turnInto_188 : decode qC_Tk_turnInto.1 188 = .ok (.aload_n 0, 1) := by decide +kernel
theorem d_Tk_turnInto_189 : decode qC_Tk_turnInto.1 189 = .ok (.getfield 54, 3) := by decide +kernel
theorem d_Tk_turnInto_192 : decode qC_Tk_turnInto.1 192 = .ok (.iload_n 1, 1) := by decide +kernel
theorem d_Tk_turnInto_193 : decode qC_Tk_turnInto.1 193 = .ok (.bipush 13, 2) := by decide +kernel
theorem d_Tk_turnInto_195 : decode qC_Tk_turnInto.1 195 = .ok (.iload 6, 2) := by decide +kernel
theorem d_Tk_turnInto_197 : decode qC_Tk_turnInto.1 197 = .ok (.invokevirtual 68, 3) := by decide +kernel
theorem d_Tk_turnInto_200 : decode qC_Tk_turnInto.1 200 = .ok (.aload_n 0, 1) := by decide +kernel
theorem d_Tk_turnInto_201 : decode qC_Tk_turnInto.1 201 = .ok (.getfield 54, 3) := by decide +kernel
theorem d_Tk_turnInto_204 : decode qC_Tk_turnInto.1 204 = .ok (.iload_n 1, 1) := by decide +kernel
theorem d_Tk_turnInto_205 : decode qC_Tk_turnInto.1 205 = .ok (.bipush 14, 2) := by decide +kernel
theorem d_Tk_turnInto_207 : decode qC_Tk_turnInto.1 207 = .ok (.iload 8, 2) := by decide +kernel
theorem d_Tk_turnInto_209 : decode qC_Tk_turnInto.1 209 = .ok (.ifCond .eq 8, 3) := by decide +kernel
theorem d_Tk_turnInto_212 : decode qC_Tk_turnInto.1 212 = .ok (.iload 7, 2) := by decide +kernel
theorem d_Tk_turnInto_214 : decode qC_Tk_turnInto.1 214 = .ok (.goto 4, 3) := by decide +kernel
theorem d_Tk_turnInto_217 : decode qC_Tk_turnInto.1 217 = .ok (.iconst 0, 1) := by decide +kernel
theorem d_Tk_turnInto_218 : decode qC_Tk_turnInto.1 218 = .ok (.invokevirtual 68, 3) := by decide +kernel
theorem d_Tk_turnInto_221 : decode qC_Tk_turnInto.1 221 = .ok (.aload_n 0, 1) := by decide +kernel
theorem d_Tk_turnInto_222 : decode qC_Tk_turnInto.1 222 = .ok (.getfield 54, 3) := by decide +kernel
theorem d_Tk_turnInto_225 : decode qC_Tk_turnInto.1 225 = .ok (.iload_n 1, 1) := by decide +kernel
theorem d_Tk_turnInto_226 : decode qC_Tk_turnInto.1 226 = .ok (.bipush 10, 2) := by decide +kernel
theorem d_Tk_turnInto_228 : decode qC_Tk_turnInto.1 228 = .ok (.invokevirtual 99, 3) := by decide +kernel
theorem d_Tk_turnInto_231 : decode qC_Tk_turnInto.1 231 = .ok (.iconst 1, 1) := by decide +kernel
theorem d_Tk_turnInto_232 : decode qC_Tk_turnInto.1 232 = .ok (.if_icmp .ne 25, 3) := by decide +kernel
theorem d_Tk_turnInto_235 : decode qC_Tk_turnInto.1 235 = .ok (.aload_n 0, 1) := by decide +kernel
theorem d_Tk_turnInto_236 : decode qC_Tk_turnInto.1 236 = .ok (.getfield 54, 3) := by decide +kernel
theorem d_Tk_turnInto_239 : decode qC_Tk_turnInto.1 239 = .ok (.iload_n 1, 1) := by decide +kernel
theorem d_Tk_turnInto_240 : decode qC_Tk_turnInto.1 240 = .ok (.iconst 1, 1) := by decide +kernel
theorem d_Tk_turnInto_241 : decode qC_Tk_turnInto.1 241 = .ok (.isub, 1) := by decide +kernel
theorem d_Tk_turnInto_242 : decode qC_Tk_turnInto.1 242 = .ok (.bipush 15, 2) := by decide +kernel
theorem d_Tk_turnInto_244 : decode qC_Tk_turnInto.1 244 = .ok (.aload_n 0, 1) := by decide +kernel
theorem d_Tk_turnInto_245 : decode qC_Tk_turnInto.1 245 = .ok (.getfield 54, 3) := by decide +kernel
theorem d_Tk_turnInto_248 : decode qC_Tk_turnInto.1 248 = .ok (.iload_n 1, 1) := by decide +kernel
theorem d_Tk_turnInto_249 : decode qC_Tk_turnInto.1 249 = .ok (.bipush 14, 2) := by decide +kernel
theorem d_Tk_turnInto_251 : decode qC_Tk_turnInto.1 251 = .ok (.invokevirtual 99, 3) := by decide +kernel
theorem d_Tk_turnInto_254 : decode qC_Tk_turnInto.1 254 = .ok (.invokevirtual 68, 3) := by decide +kernel
theorem d_Tk_turnInto_257 : decode qC_Tk_turnInto.1 257 = .ok (.aload_n 0, 1) := by decide +kernel
theorem d_Tk_turnInto_258 : decode qC_Tk_turnInto.1 258 = .ok (.iload_n 1, 1) := by decide +kernel
theorem d_Tk_turnInto_259 : decode qC_Tk_turnInto.1 259 = .ok (.invokevirtual 181, 3) := by decide +kernel
theorem d_Tk_turnInto_262 : decode qC_Tk_turnInto.1 262 = .ok (.return_, 1) := by decide +kernel
set_option maxRecDepth 100000 in
def f_Tk_turnInto (σ : St) (o : Nat) (p1 : Int32) : Option (St) :=
  Option.bind (f_Tb_get σ (rc o 3) p1 (8 : Int32)) fun x1 =>
  Option.bind (f_Tb_get σ (rc o 3) p1 (6 : Int32)) fun x2 =>
  Option.bind (f_Tb_get σ (rc o 3) p1 (7 : Int32)) fun x3 =>
  Jn (fun (_ : Unit) =>
  some σ
  ) fun J4 =>
  if (x3 : Int32) = (-1 : Int32) then (
  J4 ()
  ) else (
  if (x1 : Int32) = x2 then (
  J4 ()
  ) else (
  Option.bind (f_Cm_course (x2 - x1)) fun x5 =>
  Jn (fun (x6 : Int32) =>
  Option.bind (f_Tk_fastest σ o p1) fun x8 =>
  Option.bind (f_Cm_turnRadiusAt x8) fun x9 =>
  Option.bind (f_Tk_leadOf σ x9 x6) fun x10 =>
  Jn (fun (x11 : Int32) =>
  Jn (fun (x13 : Int32) =>
  Option.bind (f_Tb_put σ (rc o 3) p1 (11 : Int32) x13) fun x15 =>
  Jn (fun (x16 : Int32) =>
  Option.bind (f_Tb_put x15 (rc o 3) p1 (12 : Int32) x16) fun x18 =>
  Option.bind (f_Tb_put x18 (rc o 3) p1 (13 : Int32) x9) fun x19 =>
  Jn (fun (x20 : Int32) =>
  Option.bind (f_Tb_put x19 (rc o 3) p1 (14 : Int32) x20) fun x22 =>
  Option.bind (f_Tb_get x22 (rc o 3) p1 (10 : Int32)) fun x23 =>
  Jn (fun (σ24 : St) =>
  Option.bind (f_Tk_tellLegOfTurn σ24 o p1) fun x26 =>
  some x26
  ) fun J25 =>
  if (x23 : Int32) = (1 : Int32) then (
  Option.bind (f_Tb_get x22 (rc o 3) p1 (14 : Int32)) fun x27 =>
  Option.bind (f_Tb_put x22 (rc o 3) (p1 - (1 : Int32)) (15 : Int32) x27) fun x28 =>
  J25 x28
  ) else (
  J25 x22
  )
  ) fun J21 =>
  if (x11 : Int32) = 0 then (
  J21 (0 : Int32)
  ) else (
  J21 x10
  )
  ) fun J17 =>
  if ((12 : Int32) : Int32) < x5 then (
  J17 (-x6)
  ) else (
  J17 x6
  )
  ) fun J14 =>
  if (x11 : Int32) = 0 then (
  J14 (2 : Int32)
  ) else (
  J14 (1 : Int32)
  )
  ) fun J12 =>
  Jn (fun (_ : Unit) =>
  J12 (0 : Int32)
  ) fun J29 =>
  if ((8 : Int32) : Int32) < x6 then (
  J29 ()
  ) else (
  Option.bind (f_Tb_get σ (rc o 3) p1 (9 : Int32)) fun x30 =>
  if (x30 : Int32) < ((2 : Int32) * x10) then (
  J29 ()
  ) else (
  Option.bind (f_Tb_get σ (rc o 3) p1 (5 : Int32)) fun x31 =>
  if (x31 : Int32) < ((2 : Int32) * x10) then (
  J29 ()
  ) else (
  Option.bind (f_Tk_mustBeFlownOver σ o p1) fun x32 =>
  if (x32 : Int32) = 0 then (
  J12 (1 : Int32)
  ) else (
  J29 ()
  )
  )
  )
  )
  ) fun J7 =>
  if ((12 : Int32) : Int32) < x5 then (
  J7 ((24 : Int32) - x5)
  ) else (
  J7 x5
  )
  )
  )
set_option maxHeartbeats 4000000 in
set_option maxRecDepth 100000 in
theorem cC_Tk_turnInto (l : Launch) (g : Ge) (hi : injB wC.2 g) (σ : St) (o : Nat) (ho : wC.2.2.1 o = .inr (9, 12)) (p1 : Int32) (x : St) (h : f_Tk_turnInto σ o p1 = some x) : Ct l wC g yC_Tk_turnInto qC_Tk_turnInto 4 88 [.ref (g.1 o), .int p1] σ (none, x) := by
  refine Ct.of (out := o_v) FC_Tk_turnInto rfl hi rfl h (fun z hz C => ?_)
  clear h
  subst hz
  unfold f_Tk_turnInto
  show Rt z qC_Tk_turnInto wC g o_v 0 [(0, .ref (g.1 o)), (1, .int p1)] [] σ _
  refine q_aload_n (pc' := 1) C 0 d_Tk_turnInto_0 rfl rfl ?_
  refine gC_Tk_54 (pc' := 4) C o (rc o 3) ho (ly_9_3 ho).1 d_Tk_turnInto_1 rfl rfl ?_
  refine q_iload_n (pc' := 5) C 1 d_Tk_turnInto_4 rfl rfl ?_
  refine q_bipush (pc' := 7) C d_Tk_turnInto_5 kb_8 rfl ?_
  refine q_callVr (fr' := 0) (lo' := 0) (pc' := 10) C FC_Tb_get lmC_Tk_99 d_Tk_turnInto_7 (rc o 3) (jCo (ly_9_3 ho).2) (ly_9_3 ho).2 cC_8 [.int p1, .int (8 : Int32)] [] rfl rfl (Nat.le_of_ble_eq_true rfl) ⟨rfl, rfl⟩ (fun x h => cC_Tb_get _ g hi σ (rc o 3) (ly_9_3 ho).2 p1 (8 : Int32) x h) rfl (fun x1 hx1 => ?_)
  refine q_istore_n (pc' := 11) (lv' := [(2, .int x1), (0, .ref (g.1 o)), (1, .int p1)]) C d_Tk_turnInto_10 (by decide) rfl rfl ?_
  refine q_aload_n (pc' := 12) C 1 d_Tk_turnInto_11 rfl rfl ?_
  refine gC_Tk_54 (pc' := 15) C o (rc o 3) ho (ly_9_3 ho).1 d_Tk_turnInto_12 rfl rfl ?_
  refine q_iload_n (pc' := 16) C 2 d_Tk_turnInto_15 rfl rfl ?_
  refine q_bipush (pc' := 18) C d_Tk_turnInto_16 kb_6 rfl ?_
  refine q_callVr (fr' := 0) (lo' := 0) (pc' := 21) C FC_Tb_get lmC_Tk_99 d_Tk_turnInto_18 (rc o 3) (jCo (ly_9_3 ho).2) (ly_9_3 ho).2 cC_8 [.int p1, .int (6 : Int32)] [] rfl rfl (Nat.le_of_ble_eq_true rfl) ⟨rfl, rfl⟩ (fun x h => cC_Tb_get _ g hi σ (rc o 3) (ly_9_3 ho).2 p1 (6 : Int32) x h) rfl (fun x2 hx2 => ?_)
  refine q_istore_n (pc' := 22) (lv' := [(3, .int x2), (2, .int x1), (0, .ref (g.1 o)), (1, .int p1)]) C d_Tk_turnInto_21 (by decide) rfl rfl ?_
  refine q_aload_n (pc' := 23) C 2 d_Tk_turnInto_22 rfl rfl ?_
  refine gC_Tk_54 (pc' := 26) C o (rc o 3) ho (ly_9_3 ho).1 d_Tk_turnInto_23 rfl rfl ?_
  refine q_iload_n (pc' := 27) C 3 d_Tk_turnInto_26 rfl rfl ?_
  refine q_bipush (pc' := 29) C d_Tk_turnInto_27 kb_7 rfl ?_
  refine q_callVr (fr' := 0) (lo' := 0) (pc' := 32) C FC_Tb_get lmC_Tk_99 d_Tk_turnInto_29 (rc o 3) (jCo (ly_9_3 ho).2) (ly_9_3 ho).2 cC_8 [.int p1, .int (7 : Int32)] [] rfl rfl (Nat.le_of_ble_eq_true rfl) ⟨rfl, rfl⟩ (fun x h => cC_Tb_get _ g hi σ (rc o 3) (ly_9_3 ho).2 p1 (7 : Int32) x h) rfl (fun x3 hx3 => ?_)
  refine q_iconst (pc' := 33) C d_Tk_turnInto_32 ki_m1 rfl ?_
  refine q_join (fun J4 : Unit → Option (St) => ∀ (_ : Unit), Rt z qC_Tk_turnInto wC g o_v 41 [] [] σ (J4 ())) (fun _ => ?_) (fun J4 hJ4 => ?_)
  · exact q_vret C rfl d_Tk_turnInto_41 rfl
  refine q_icmp_eq (tgt := 41) (pc' := 36) C d_Tk_turnInto_33 rfl rfl ?_ ?_
  · exact Rt.sub [] rfl (hJ4 ())
  · refine q_iload_n (pc' := 37) C 1 d_Tk_turnInto_36 rfl rfl ?_
    refine q_iload_n (pc' := 38) C 0 d_Tk_turnInto_37 rfl rfl ?_
    refine q_icmp_ne (tgt := 42) (pc' := 41) C d_Tk_turnInto_38 rfl rfl ?_ ?_
    · refine q_iload_n (pc' := 43) C 0 d_Tk_turnInto_42 rfl rfl ?_
      refine q_iload_n (pc' := 44) C 1 d_Tk_turnInto_43 rfl rfl ?_
      refine q_isub (pc' := 45) C d_Tk_turnInto_44 rfl ?_
      refine q_callSr (fr' := 0) (lo' := 0) (pc' := 48) C FC_Cm_course lmC_Tk_166 d_Tk_turnInto_45 [.int (x2 - x1)] [] rfl rfl (Nat.le_of_ble_eq_true rfl) ⟨rfl, rfl⟩ (fun x h => cC_Cm_course _ g hi σ (x2 - x1) x h) rfl (fun x5 hx5 => ?_)
      refine q_istore (pc' := 50) (lv' := [(4, .int x5), (3, .int x2), (2, .int x1), (0, .ref (g.1 o)), (1, .int p1)]) C d_Tk_turnInto_48 (by decide) rfl rfl ?_
      refine q_iload (pc' := 52) C 0 d_Tk_turnInto_50 rfl rfl ?_
      refine q_bipush (pc' := 54) C d_Tk_turnInto_52 kb_12 rfl ?_
      refine q_join (fun J7 : Int32 → Option (St) => ∀ (x6 : Int32), Rt z qC_Tk_turnInto wC g o_v 67 [(0, .ref (g.1 o)), (1, .int p1), (4, .int x5)] [.int x6] σ (J7 x6)) (fun x6 => ?_) (fun J7 hJ7 => ?_)
      · refine q_istore (pc' := 69) (lv' := [(5, .int x6), (0, .ref (g.1 o)), (1, .int p1), (4, .int x5)]) C d_Tk_turnInto_67 (by decide) rfl rfl ?_
        refine q_aload_n (pc' := 70) C 1 d_Tk_turnInto_69 rfl rfl ?_
        refine q_iload_n (pc' := 71) C 2 d_Tk_turnInto_70 rfl rfl ?_
        refine q_callVr (fr' := 3) (lo' := 65) (pc' := 74) C FC_Tk_fastest lmC_Tk_169 d_Tk_turnInto_71 o (jCo ho) ho cC_9 [.int p1] [] rfl rfl (Nat.le_of_ble_eq_true rfl) ⟨rfl, rfl⟩ (fun x h => cC_Tk_fastest _ g hi σ o ho p1 x h) rfl (fun x8 hx8 => ?_)
        refine q_callSr (fr' := 1) (lo' := 21) (pc' := 77) C FC_Cm_turnRadiusAt lmC_Tk_172 d_Tk_turnInto_74 [.int x8] [] rfl rfl (Nat.le_of_ble_eq_true rfl) ⟨rfl, rfl⟩ (fun x h => cC_Cm_turnRadiusAt _ g hi σ x8 x h) rfl (fun x9 hx9 => ?_)
        refine q_istore (pc' := 79) (lv' := [(6, .int x9), (5, .int x6), (0, .ref (g.1 o)), (1, .int p1), (4, .int x5)]) C d_Tk_turnInto_77 (by decide) rfl rfl ?_
        refine q_iload (pc' := 81) C 0 d_Tk_turnInto_79 rfl rfl ?_
        refine q_iload (pc' := 83) C 1 d_Tk_turnInto_81 rfl rfl ?_
        refine q_callSr (fr' := 0) (lo' := 0) (pc' := 86) C FC_Tk_leadOf lmC_Tk_175 d_Tk_turnInto_83 [.int x9, .int x6] [] rfl rfl (Nat.le_of_ble_eq_true rfl) ⟨rfl, rfl⟩ (fun x h => cC_Tk_leadOf _ g hi σ x9 x6 x h) rfl (fun x10 hx10 => ?_)
        refine q_istore (pc' := 88) (lv' := [(7, .int x10), (6, .int x9), (5, .int x6), (0, .ref (g.1 o)), (1, .int p1), (4, .int x5)]) C d_Tk_turnInto_86 (by decide) rfl rfl ?_
        refine q_iload (pc' := 90) C 2 d_Tk_turnInto_88 rfl rfl ?_
        refine q_bipush (pc' := 92) C d_Tk_turnInto_90 kb_8 rfl ?_
        refine q_join (fun J12 : Int32 → Option (St) => ∀ (x11 : Int32), Rt z qC_Tk_turnInto wC g o_v 141 [(0, .ref (g.1 o)), (1, .int p1), (4, .int x5), (5, .int x6), (6, .int x9), (7, .int x10)] [.int x11] σ (J12 x11)) (fun x11 => ?_) (fun J12 hJ12 => ?_)
        · refine q_istore (pc' := 143) (lv' := [(8, .int x11), (0, .ref (g.1 o)), (1, .int p1), (4, .int x5), (5, .int x6), (6, .int x9), (7, .int x10)]) C d_Tk_turnInto_141 (by decide) rfl rfl ?_
          refine q_aload_n (pc' := 144) C 1 d_Tk_turnInto_143 rfl rfl ?_
          refine gC_Tk_54 (pc' := 147) C o (rc o 3) ho (ly_9_3 ho).1 d_Tk_turnInto_144 rfl rfl ?_
          refine q_iload_n (pc' := 148) C 2 d_Tk_turnInto_147 rfl rfl ?_
          refine q_bipush (pc' := 150) C d_Tk_turnInto_148 kb_11 rfl ?_
          refine q_iload (pc' := 152) C 0 d_Tk_turnInto_150 rfl rfl ?_
          refine q_join (fun J14 : Int32 → Option (St) => ∀ (x13 : Int32), Rt z qC_Tk_turnInto wC g o_v 160 [(0, .ref (g.1 o)), (1, .int p1), (4, .int x5), (5, .int x6), (6, .int x9), (7, .int x10), (8, .int x11)] [.int x13, .int (11 : Int32), .int p1, .ref (g.1 (rc o 3))] σ (J14 x13)) (fun x13 => ?_) (fun J14 hJ14 => ?_)
          · refine q_callVv (fr' := 0) (lo' := 0) (pc' := 163) C FC_Tb_put lmC_Tk_68 d_Tk_turnInto_160 (rc o 3) (jCo (ly_9_3 ho).2) (ly_9_3 ho).2 cC_8 [.int p1, .int (11 : Int32), .int x13] [] rfl rfl (Nat.le_of_ble_eq_true rfl) ⟨rfl, rfl⟩ (fun x h => cC_Tb_put _ g hi σ (rc o 3) (ly_9_3 ho).2 p1 (11 : Int32) x13 x h) rfl (fun x15 hx15 => ?_)
            refine q_aload_n (pc' := 164) C 0 d_Tk_turnInto_163 rfl rfl ?_
            refine gC_Tk_54 (pc' := 167) C o (rc o 3) ho (ly_9_3 ho).1 d_Tk_turnInto_164 rfl rfl ?_
            refine q_iload_n (pc' := 168) C 1 d_Tk_turnInto_167 rfl rfl ?_
            refine q_bipush (pc' := 170) C d_Tk_turnInto_168 kb_12 rfl ?_
            refine q_iload (pc' := 172) C 2 d_Tk_turnInto_170 rfl rfl ?_
            refine q_bipush (pc' := 174) C d_Tk_turnInto_172 kb_12 rfl ?_
            refine q_join (fun J17 : Int32 → Option (St) => ∀ (x16 : Int32), Rt z qC_Tk_turnInto wC g o_v 185 [(0, .ref (g.1 o)), (1, .int p1), (6, .int x9), (7, .int x10), (8, .int x11)] [.int x16, .int (12 : Int32), .int p1, .ref (g.1 (rc o 3))] x15 (J17 x16)) (fun x16 => ?_) (fun J17 hJ17 => ?_)
            · refine q_callVv (fr' := 0) (lo' := 0) (pc' := 188) C FC_Tb_put lmC_Tk_68 d_Tk_turnInto_185 (rc o 3) (jCo (ly_9_3 ho).2) (ly_9_3 ho).2 cC_8 [.int p1, .int (12 : Int32), .int x16] [] rfl rfl (Nat.le_of_ble_eq_true rfl) ⟨rfl, rfl⟩ (fun x h => cC_Tb_put _ g hi x15 (rc o 3) (ly_9_3 ho).2 p1 (12 : Int32) x16 x h) rfl (fun x18 hx18 => ?_)
              refine q_aload_n (pc' := 189) C 0 d_Tk_turnInto_188 rfl rfl ?_
              refine gC_Tk_54 (pc' := 192) C o (rc o 3) ho (ly_9_3 ho).1 d_Tk_turnInto_189 rfl rfl ?_
              refine q_iload_n (pc' := 193) C 1 d_Tk_turnInto_192 rfl rfl ?_
              refine q_bipush (pc' := 195) C d_Tk_turnInto_193 kb_13 rfl ?_
              refine q_iload (pc' := 197) C 2 d_Tk_turnInto_195 rfl rfl ?_
              refine q_callVv (fr' := 0) (lo' := 0) (pc' := 200) C FC_Tb_put lmC_Tk_68 d_Tk_turnInto_197 (rc o 3) (jCo (ly_9_3 ho).2) (ly_9_3 ho).2 cC_8 [.int p1, .int (13 : Int32), .int x9] [] rfl rfl (Nat.le_of_ble_eq_true rfl) ⟨rfl, rfl⟩ (fun x h => cC_Tb_put _ g hi x18 (rc o 3) (ly_9_3 ho).2 p1 (13 : Int32) x9 x h) rfl (fun x19 hx19 => ?_)
              refine q_aload_n (pc' := 201) C 0 d_Tk_turnInto_200 rfl rfl ?_
              refine gC_Tk_54 (pc' := 204) C o (rc o 3) ho (ly_9_3 ho).1 d_Tk_turnInto_201 rfl rfl ?_
              refine q_iload_n (pc' := 205) C 1 d_Tk_turnInto_204 rfl rfl ?_
              refine q_bipush (pc' := 207) C d_Tk_turnInto_205 kb_14 rfl ?_
              refine q_iload (pc' := 209) C 4 d_Tk_turnInto_207 rfl rfl ?_
              refine q_join (fun J21 : Int32 → Option (St) => ∀ (x20 : Int32), Rt z qC_Tk_turnInto wC g o_v 218 [(0, .ref (g.1 o)), (1, .int p1)] [.int x20, .int (14 : Int32), .int p1, .ref (g.1 (rc o 3))] x19 (J21 x20)) (fun x20 => ?_) (fun J21 hJ21 => ?_)
              · refine q_callVv (fr' := 0) (lo' := 0) (pc' := 221) C FC_Tb_put lmC_Tk_68 d_Tk_turnInto_218 (rc o 3) (jCo (ly_9_3 ho).2) (ly_9_3 ho).2 cC_8 [.int p1, .int (14 : Int32), .int x20] [] rfl rfl (Nat.le_of_ble_eq_true rfl) ⟨rfl, rfl⟩ (fun x h => cC_Tb_put _ g hi x19 (rc o 3) (ly_9_3 ho).2 p1 (14 : Int32) x20 x h) rfl (fun x22 hx22 => ?_)
                refine q_aload_n (pc' := 222) C 0 d_Tk_turnInto_221 rfl rfl ?_
                refine gC_Tk_54 (pc' := 225) C o (rc o 3) ho (ly_9_3 ho).1 d_Tk_turnInto_222 rfl rfl ?_
                refine q_iload_n (pc' := 226) C 1 d_Tk_turnInto_225 rfl rfl ?_
                refine q_bipush (pc' := 228) C d_Tk_turnInto_226 kb_10 rfl ?_
                refine q_callVr (fr' := 0) (lo' := 0) (pc' := 231) C FC_Tb_get lmC_Tk_99 d_Tk_turnInto_228 (rc o 3) (jCo (ly_9_3 ho).2) (ly_9_3 ho).2 cC_8 [.int p1, .int (10 : Int32)] [] rfl rfl (Nat.le_of_ble_eq_true rfl) ⟨rfl, rfl⟩ (fun x h => cC_Tb_get _ g hi x22 (rc o 3) (ly_9_3 ho).2 p1 (10 : Int32) x h) rfl (fun x23 hx23 => ?_)
                refine q_iconst (pc' := 232) C d_Tk_turnInto_231 ki_1 rfl ?_
                refine q_join (fun J25 : St → Option (St) => ∀ (σ24 : St), Rt z qC_Tk_turnInto wC g o_v 257 [(0, .ref (g.1 o)), (1, .int p1)] [] σ24 (J25 σ24)) (fun σ24 => ?_) (fun J25 hJ25 => ?_)
                · refine q_aload_n (pc' := 258) C 0 d_Tk_turnInto_257 rfl rfl ?_
                  refine q_iload_n (pc' := 259) C 1 d_Tk_turnInto_258 rfl rfl ?_
                  refine q_callVv (fr' := 1) (lo' := 23) (pc' := 262) C FC_Tk_tellLegOfTurn lmC_Tk_181 d_Tk_turnInto_259 o (jCo ho) ho cC_9 [.int p1] [] rfl rfl (Nat.le_of_ble_eq_true rfl) ⟨rfl, rfl⟩ (fun x h => cC_Tk_tellLegOfTurn _ g hi σ24 o ho p1 x h) rfl (fun x26 hx26 => ?_)
                  exact q_vret C rfl d_Tk_turnInto_262 rfl
                refine q_icmp_ne (tgt := 257) (pc' := 235) C d_Tk_turnInto_232 rfl rfl ?_ ?_
                · exact Rt.sub [0, 1] rfl (hJ25 x22)
                · refine q_aload_n (pc' := 236) C 0 d_Tk_turnInto_235 rfl rfl ?_
                  refine gC_Tk_54 (pc' := 239) C o (rc o 3) ho (ly_9_3 ho).1 d_Tk_turnInto_236 rfl rfl ?_
                  refine q_iload_n (pc' := 240) C 1 d_Tk_turnInto_239 rfl rfl ?_
                  refine q_iconst (pc' := 241) C d_Tk_turnInto_240 ki_1 rfl ?_
                  refine q_isub (pc' := 242) C d_Tk_turnInto_241 rfl ?_
                  refine q_bipush (pc' := 244) C d_Tk_turnInto_242 kb_15 rfl ?_
                  refine q_aload_n (pc' := 245) C 0 d_Tk_turnInto_244 rfl rfl ?_
                  refine gC_Tk_54 (pc' := 248) C o (rc o 3) ho (ly_9_3 ho).1 d_Tk_turnInto_245 rfl rfl ?_
                  refine q_iload_n (pc' := 249) C 1 d_Tk_turnInto_248 rfl rfl ?_
                  refine q_bipush (pc' := 251) C d_Tk_turnInto_249 kb_14 rfl ?_
                  refine q_callVr (fr' := 0) (lo' := 0) (pc' := 254) C FC_Tb_get lmC_Tk_99 d_Tk_turnInto_251 (rc o 3) (jCo (ly_9_3 ho).2) (ly_9_3 ho).2 cC_8 [.int p1, .int (14 : Int32)] [.int (15 : Int32), .int (p1 - (1 : Int32)), .ref (g.1 (rc o 3))] rfl rfl (Nat.le_of_ble_eq_true rfl) ⟨rfl, rfl⟩ (fun x h => cC_Tb_get _ g hi x22 (rc o 3) (ly_9_3 ho).2 p1 (14 : Int32) x h) rfl (fun x27 hx27 => ?_)
                  refine q_callVv (fr' := 0) (lo' := 0) (pc' := 257) C FC_Tb_put lmC_Tk_68 d_Tk_turnInto_254 (rc o 3) (jCo (ly_9_3 ho).2) (ly_9_3 ho).2 cC_8 [.int (p1 - (1 : Int32)), .int (15 : Int32), .int x27] [] rfl rfl (Nat.le_of_ble_eq_true rfl) ⟨rfl, rfl⟩ (fun x h => cC_Tb_put _ g hi x22 (rc o 3) (ly_9_3 ho).2 (p1 - (1 : Int32)) (15 : Int32) x27 x h) rfl (fun x28 hx28 => ?_)
                  exact Rt.sub [0, 1] rfl (hJ25 x28)
              refine q_if_eq (tgt := 217) (pc' := 212) C d_Tk_turnInto_209 rfl rfl ?_ ?_
              · refine q_iconst (pc' := 218) C d_Tk_turnInto_217 ki_0 rfl ?_
                exact Rt.sub [0, 1] rfl (hJ21 (0 : Int32))
              · refine q_iload (pc' := 214) C 3 d_Tk_turnInto_212 rfl rfl ?_
                refine q_goto (tgt := 218) C d_Tk_turnInto_214 rfl ?_
                exact Rt.sub [0, 1] rfl (hJ21 x10)
            refine q_icmp_gt (tgt := 182) (pc' := 177) C d_Tk_turnInto_174 rfl rfl ?_ ?_
            · refine q_iload (pc' := 184) C 3 d_Tk_turnInto_182 rfl rfl ?_
              refine q_ineg (pc' := 185) C d_Tk_turnInto_184 rfl ?_
              exact Rt.sub [0, 1, 4, 5, 6] rfl (hJ17 (-x6))
            · refine q_iload (pc' := 179) C 3 d_Tk_turnInto_177 rfl rfl ?_
              refine q_goto (tgt := 185) C d_Tk_turnInto_179 rfl ?_
              exact Rt.sub [0, 1, 4, 5, 6] rfl (hJ17 x6)
          refine q_if_eq (tgt := 159) (pc' := 155) C d_Tk_turnInto_152 rfl rfl ?_ ?_
          · refine q_iconst (pc' := 160) C d_Tk_turnInto_159 ki_2 rfl ?_
            exact Rt.sub [1, 2, 3, 4, 5, 6, 0] rfl (hJ14 (2 : Int32))
          · refine q_iconst (pc' := 156) C d_Tk_turnInto_155 ki_1 rfl ?_
            refine q_goto (tgt := 160) C d_Tk_turnInto_156 rfl ?_
            exact Rt.sub [1, 2, 3, 4, 5, 6, 0] rfl (hJ14 (1 : Int32))
        refine q_join (fun J29 : Unit → Option (St) => ∀ (_ : Unit), Rt z qC_Tk_turnInto wC g o_v 140 [(0, .ref (g.1 o)), (1, .int p1), (4, .int x5), (5, .int x6), (6, .int x9), (7, .int x10)] [] σ (J29 ())) (fun _ => ?_) (fun J29 hJ29 => ?_)
        · refine q_iconst (pc' := 141) C d_Tk_turnInto_140 ki_0 rfl ?_
          exact Rt.sub [0, 1, 2, 3, 4, 5] rfl (hJ12 (0 : Int32))
        refine q_icmp_gt (tgt := 140) (pc' := 95) C d_Tk_turnInto_92 rfl rfl ?_ ?_
        · exact Rt.sub [3, 4, 5, 2, 1, 0] rfl (hJ29 ())
        · refine q_aload_n (pc' := 96) C 3 d_Tk_turnInto_95 rfl rfl ?_
          refine gC_Tk_54 (pc' := 99) C o (rc o 3) ho (ly_9_3 ho).1 d_Tk_turnInto_96 rfl rfl ?_
          refine q_iload_n (pc' := 100) C 4 d_Tk_turnInto_99 rfl rfl ?_
          refine q_bipush (pc' := 102) C d_Tk_turnInto_100 kb_9 rfl ?_
          refine q_callVr (fr' := 0) (lo' := 0) (pc' := 105) C FC_Tb_get lmC_Tk_99 d_Tk_turnInto_102 (rc o 3) (jCo (ly_9_3 ho).2) (ly_9_3 ho).2 cC_8 [.int p1, .int (9 : Int32)] [] rfl rfl (Nat.le_of_ble_eq_true rfl) ⟨rfl, rfl⟩ (fun x h => cC_Tb_get _ g hi σ (rc o 3) (ly_9_3 ho).2 p1 (9 : Int32) x h) rfl (fun x30 hx30 => ?_)
          refine q_iconst (pc' := 106) C d_Tk_turnInto_105 ki_2 rfl ?_
          refine q_iload (pc' := 108) C 0 d_Tk_turnInto_106 rfl rfl ?_
          refine q_imul (pc' := 109) C d_Tk_turnInto_108 rfl ?_
          refine q_icmp_lt (tgt := 140) (pc' := 112) C d_Tk_turnInto_109 rfl rfl ?_ ?_
          · exact Rt.sub [3, 4, 5, 2, 1, 0] rfl (hJ29 ())
          · refine q_aload_n (pc' := 113) C 3 d_Tk_turnInto_112 rfl rfl ?_
            refine gC_Tk_54 (pc' := 116) C o (rc o 3) ho (ly_9_3 ho).1 d_Tk_turnInto_113 rfl rfl ?_
            refine q_iload_n (pc' := 117) C 4 d_Tk_turnInto_116 rfl rfl ?_
            refine q_iconst (pc' := 118) C d_Tk_turnInto_117 ki_5 rfl ?_
            refine q_callVr (fr' := 0) (lo' := 0) (pc' := 121) C FC_Tb_get lmC_Tk_99 d_Tk_turnInto_118 (rc o 3) (jCo (ly_9_3 ho).2) (ly_9_3 ho).2 cC_8 [.int p1, .int (5 : Int32)] [] rfl rfl (Nat.le_of_ble_eq_true rfl) ⟨rfl, rfl⟩ (fun x h => cC_Tb_get _ g hi σ (rc o 3) (ly_9_3 ho).2 p1 (5 : Int32) x h) rfl (fun x31 hx31 => ?_)
            refine q_iconst (pc' := 122) C d_Tk_turnInto_121 ki_2 rfl ?_
            refine q_iload (pc' := 124) C 0 d_Tk_turnInto_122 rfl rfl ?_
            refine q_imul (pc' := 125) C d_Tk_turnInto_124 rfl ?_
            refine q_icmp_lt (tgt := 140) (pc' := 128) C d_Tk_turnInto_125 rfl rfl ?_ ?_
            · exact Rt.sub [3, 4, 5, 2, 1, 0] rfl (hJ29 ())
            · refine q_aload_n (pc' := 129) C 3 d_Tk_turnInto_128 rfl rfl ?_
              refine q_iload_n (pc' := 130) C 4 d_Tk_turnInto_129 rfl rfl ?_
              refine q_callVr (fr' := 2) (lo' := 43) (pc' := 133) C FC_Tk_mustBeFlownOver lmC_Tk_178 d_Tk_turnInto_130 o (jCo ho) ho cC_9 [.int p1] [] rfl rfl (Nat.le_of_ble_eq_true rfl) ⟨rfl, rfl⟩ (fun x h => cC_Tk_mustBeFlownOver _ g hi σ o ho p1 x h) rfl (fun x32 hx32 => ?_)
              refine q_if_ne (tgt := 140) (pc' := 136) C d_Tk_turnInto_133 rfl rfl ?_ ?_
              · exact Rt.sub [3, 4, 5, 2, 1, 0] rfl (hJ29 ())
              · refine q_iconst (pc' := 137) C d_Tk_turnInto_136 ki_1 rfl ?_
                refine q_goto (tgt := 141) C d_Tk_turnInto_137 rfl ?_
                exact Rt.sub [3, 4, 5, 2, 1, 0] rfl (hJ12 (1 : Int32))
      refine q_icmp_gt (tgt := 62) (pc' := 57) C d_Tk_turnInto_54 rfl rfl ?_ ?_
      · refine q_bipush (pc' := 64) C d_Tk_turnInto_62 kb_24 rfl ?_
        refine q_iload (pc' := 66) C 0 d_Tk_turnInto_64 rfl rfl ?_
        refine q_isub (pc' := 67) C d_Tk_turnInto_66 rfl ?_
        exact Rt.sub [3, 4, 0] rfl (hJ7 ((24 : Int32) - x5))
      · refine q_iload (pc' := 59) C 0 d_Tk_turnInto_57 rfl rfl ?_
        refine q_goto (tgt := 67) C d_Tk_turnInto_59 rfl ?_
        exact Rt.sub [3, 4, 0] rfl (hJ7 x5)
    · exact Rt.sub [] rfl (hJ4 ())
theorem d_Pc_clear_0 : decode qC_Pc_clear.1 0 = .ok (.aload_n 0, 1) := by decide +kernel
theorem d_Pc_clear_1 : decode qC_Pc_clear.1 1 = .ok (.iconst 0, 1) := by decide +kernel
theorem d_Pc_clear_2 : decode qC_Pc_clear.1 2 = .ok (.putfield 9, 3) := by decide +kernel
theorem d_Pc_clear_5 : decode qC_Pc_clear.1 5 = .ok (.return_, 1) := by decide +kernel
set_option maxRecDepth 100000 in
def f_Pc_clear (σ : St) (o : Nat) : Option (St) :=
  Lt (s2 σ o 5 (0 : Int32)) fun σ1 =>
  some σ1
set_option maxHeartbeats 4000000 in
set_option maxRecDepth 100000 in
theorem cC_Pc_clear (l : Launch) (g : Ge) (hi : injB wC.2 g) (σ : St) (o : Nat) (ho : wC.2.2.1 o = .inr (2, 11)) (x : St) (h : f_Pc_clear σ o = some x) : Ct l wC g yC_Pc_clear qC_Pc_clear 0 0 [.ref (g.1 o)] σ (none, x) := by
  refine Ct.of (out := o_v) FC_Pc_clear rfl hi rfl h (fun z hz C => ?_)
  clear h
  subst hz
  unfold f_Pc_clear
  show Rt z qC_Pc_clear wC g o_v 0 [(0, .ref (g.1 o))] [] σ _
  refine q_aload_n (pc' := 1) C 0 d_Pc_clear_0 rfl rfl ?_
  refine q_iconst (pc' := 2) C d_Pc_clear_1 ki_0 rfl ?_
  refine pC_Pc_9 (pc' := 5) C o ho d_Pc_clear_2 rfl rfl ?_
  refine q_let (fun σ1 e1 => ?_)
  refine q_state e1 ?_
  exact q_vret C rfl d_Pc_clear_5 rfl
theorem d_Pc_beginLeg_0 : decode qC_Pc_beginLeg.1 0 = .ok (.aload_n 0, 1) := by decide +kernel
theorem d_Pc_beginLeg_1 : decode qC_Pc_beginLeg.1 1 = .ok (.aload_n 0, 1) := by decide +kernel
theorem d_Pc_beginLeg_2 : decode qC_Pc_beginLeg.1 2 = .ok (.getfield 9, 3) := by decide +kernel
theorem d_Pc_beginLeg_5 : decode qC_Pc_beginLeg.1 5 = .ok (.putfield 15, 3) := by decide +kernel
theorem d_Pc_beginLeg_8 : decode qC_Pc_beginLeg.1 8 = .ok (.aload_n 0, 1) := by decide +kernel
theorem d_Pc_beginLeg_9 : decode qC_Pc_beginLeg.1 9 = .ok (.getfield 44, 3) := by decide +kernel
theorem d_Pc_beginLeg_12 : decode qC_Pc_beginLeg.1 12 = .ok (.iload_n 1, 1) := by decide +kernel
theorem d_Pc_beginLeg_13 : decode qC_Pc_beginLeg.1 13 = .ok (.iconst 0, 1) := by decide +kernel
theorem d_Pc_beginLeg_14 : decode qC_Pc_beginLeg.1 14 = .ok (.invokevirtual 59, 3) := by decide +kernel
theorem d_Pc_beginLeg_17 : decode qC_Pc_beginLeg.1 17 = .ok (.iconst 1, 1) := by decide +kernel
theorem d_Pc_beginLeg_18 : decode qC_Pc_beginLeg.1 18 = .ok (.if_icmp .ne 42, 3) := by decide +kernel
theorem d_Pc_beginLeg_21 : decode qC_Pc_beginLeg.1 21 = .ok (.aload_n 0, 1) := by decide +kernel
theorem d_Pc_beginLeg_22 : decode qC_Pc_beginLeg.1 22 = .ok (.getfield 44, 3) := by decide +kernel
theorem d_Pc_beginLeg_25 : decode qC_Pc_beginLeg.1 25 = .ok (.iload_n 1, 1) := by decide +kernel
theorem d_Pc_beginLeg_26 : decode qC_Pc_beginLeg.1 26 = .ok (.iconst 1, 1) := by decide +kernel
theorem d_Pc_beginLeg_27 : decode qC_Pc_beginLeg.1 27 = .ok (.invokevirtual 59, 3) := by decide +kernel
theorem d_Pc_beginLeg_30 : decode qC_Pc_beginLeg.1 30 = .ok (.iconst 1, 1) := by decide +kernel
theorem d_Pc_beginLeg_31 : decode qC_Pc_beginLeg.1 31 = .ok (.if_icmp .ne 29, 3) := by decide +kernel
theorem d_Pc_beginLeg_34 : decode qC_Pc_beginLeg.1 34 = .ok (.aload_n 0, 1) := by decide +kernel
theorem d_Pc_beginLeg_35 : decode qC_Pc_beginLeg.1 35 = .ok (.aload_n 0, 1) := by decide +kernel
theorem d_Pc_beginLeg_36 : decode qC_Pc_beginLeg.1 36 = .ok (.getfield 44, 3) := by decide +kernel
theorem d_Pc_beginLeg_39 : decode qC_Pc_beginLeg.1 39 = .ok (.iload_n 1, 1) := by decide +kernel
theorem d_Pc_beginLeg_40 : decode qC_Pc_beginLeg.1 40 = .ok (.iconst 2, 1) := by decide +kernel
theorem d_Pc_beginLeg_41 : decode qC_Pc_beginLeg.1 41 = .ok (.invokevirtual 59, 3) := by decide +kernel
theorem d_Pc_beginLeg_44 : decode qC_Pc_beginLeg.1 44 = .ok (.putfield 18, 3) := by decide +kernel
theorem d_Pc_beginLeg_47 : decode qC_Pc_beginLeg.1 47 = .ok (.aload_n 0, 1) := by decide +kernel
theorem d_Pc_beginLeg_48 : decode qC_Pc_beginLeg.1 48 = .ok (.aload_n 0, 1) := by decide +kernel
theorem d_Pc_beginLeg_49 : decode qC_Pc_beginLeg.1 49 = .ok (.getfield 44, 3) := by decide +kernel
theorem d_Pc_beginLeg_52 : decode qC_Pc_beginLeg.1 52 = .ok (.iload_n 1, 1) := by decide +kernel
theorem d_Pc_beginLeg_53 : decode qC_Pc_beginLeg.1 53 = .ok (.iconst 3, 1) := by decide +kernel
theorem d_Pc_beginLeg_54 : decode qC_Pc_beginLeg.1 54 = .ok (.invokevirtual 59, 3) := by decide +kernel
theorem d_Pc_beginLeg_57 : decode qC_Pc_beginLeg.1 57 = .ok (.putfield 21, 3) := by decide +kernel
theorem d_Pc_beginLeg_60 : decode qC_Pc_beginLeg.1 60 = .ok (.return_, 1) := by decide +kernel
set_option maxRecDepth 100000 in
def f_Pc_beginLeg (σ : St) (o : Nat) (p1 : Int32) : Option (St) :=
  Lt (s2 σ o 6 (σ o 5)) fun σ1 =>
  Option.bind (f_Tb_get σ1 (rc o 2) p1 (0 : Int32)) fun x2 =>
  Jn (fun (σ3 : St) =>
  some σ3
  ) fun J4 =>
  if (x2 : Int32) = (1 : Int32) then (
  Option.bind (f_Tb_get σ1 (rc o 2) p1 (1 : Int32)) fun x5 =>
  if (x5 : Int32) = (1 : Int32) then (
  Option.bind (f_Tb_get σ1 (rc o 2) p1 (2 : Int32)) fun x6 =>
  Lt (s2 σ1 o 7 x6) fun σ7 =>
  Option.bind (f_Tb_get σ7 (rc o 2) p1 (3 : Int32)) fun x8 =>
  Lt (s2 σ7 o 8 x8) fun σ9 =>
  J4 σ9
  ) else (
  J4 σ1
  )
  ) else (
  J4 σ1
  )
set_option maxHeartbeats 4000000 in
set_option maxRecDepth 100000 in
theorem cC_Pc_beginLeg (l : Launch) (g : Ge) (hi : injB wC.2 g) (σ : St) (o : Nat) (ho : wC.2.2.1 o = .inr (2, 11)) (p1 : Int32) (x : St) (h : f_Pc_beginLeg σ o p1 = some x) : Ct l wC g yC_Pc_beginLeg qC_Pc_beginLeg 1 22 [.ref (g.1 o), .int p1] σ (none, x) := by
  refine Ct.of (out := o_v) FC_Pc_beginLeg rfl hi rfl h (fun z hz C => ?_)
  clear h
  subst hz
  unfold f_Pc_beginLeg
  show Rt z qC_Pc_beginLeg wC g o_v 0 [(0, .ref (g.1 o)), (1, .int p1)] [] σ _
  refine q_aload_n (pc' := 1) C 0 d_Pc_beginLeg_0 rfl rfl ?_
  refine q_aload_n (pc' := 2) C 0 d_Pc_beginLeg_1 rfl rfl ?_
  refine gC_Pc_9 (pc' := 5) C o ho d_Pc_beginLeg_2 rfl rfl ?_
  refine pC_Pc_15 (pc' := 8) C o ho d_Pc_beginLeg_5 rfl rfl ?_
  refine q_let (fun σ1 e1 => ?_)
  refine q_state e1 ?_
  refine q_aload_n (pc' := 9) C 0 d_Pc_beginLeg_8 rfl rfl ?_
  refine gC_Pc_44 (pc' := 12) C o (rc o 2) ho (ly_2_2 ho).1 d_Pc_beginLeg_9 rfl rfl ?_
  refine q_iload_n (pc' := 13) C 1 d_Pc_beginLeg_12 rfl rfl ?_
  refine q_iconst (pc' := 14) C d_Pc_beginLeg_13 ki_0 rfl ?_
  refine q_callVr (fr' := 0) (lo' := 0) (pc' := 17) C FC_Tb_get lmC_Pc_59 d_Pc_beginLeg_14 (rc o 2) (jCo (ly_2_2 ho).2) (ly_2_2 ho).2 cC_8 [.int p1, .int (0 : Int32)] [] rfl rfl (Nat.le_of_ble_eq_true rfl) ⟨rfl, rfl⟩ (fun x h => cC_Tb_get _ g hi σ1 (rc o 2) (ly_2_2 ho).2 p1 (0 : Int32) x h) rfl (fun x2 hx2 => ?_)
  refine q_iconst (pc' := 18) C d_Pc_beginLeg_17 ki_1 rfl ?_
  refine q_join (fun J4 : St → Option (St) => ∀ (σ3 : St), Rt z qC_Pc_beginLeg wC g o_v 60 [] [] σ3 (J4 σ3)) (fun σ3 => ?_) (fun J4 hJ4 => ?_)
  · exact q_vret C rfl d_Pc_beginLeg_60 rfl
  refine q_icmp_ne (tgt := 60) (pc' := 21) C d_Pc_beginLeg_18 rfl rfl ?_ ?_
  · exact Rt.sub [] rfl (hJ4 σ1)
  · refine q_aload_n (pc' := 22) C 0 d_Pc_beginLeg_21 rfl rfl ?_
    refine gC_Pc_44 (pc' := 25) C o (rc o 2) ho (ly_2_2 ho).1 d_Pc_beginLeg_22 rfl rfl ?_
    refine q_iload_n (pc' := 26) C 1 d_Pc_beginLeg_25 rfl rfl ?_
    refine q_iconst (pc' := 27) C d_Pc_beginLeg_26 ki_1 rfl ?_
    refine q_callVr (fr' := 0) (lo' := 0) (pc' := 30) C FC_Tb_get lmC_Pc_59 d_Pc_beginLeg_27 (rc o 2) (jCo (ly_2_2 ho).2) (ly_2_2 ho).2 cC_8 [.int p1, .int (1 : Int32)] [] rfl rfl (Nat.le_of_ble_eq_true rfl) ⟨rfl, rfl⟩ (fun x h => cC_Tb_get _ g hi σ1 (rc o 2) (ly_2_2 ho).2 p1 (1 : Int32) x h) rfl (fun x5 hx5 => ?_)
    refine q_iconst (pc' := 31) C d_Pc_beginLeg_30 ki_1 rfl ?_
    refine q_icmp_ne (tgt := 60) (pc' := 34) C d_Pc_beginLeg_31 rfl rfl ?_ ?_
    · exact Rt.sub [] rfl (hJ4 σ1)
    · refine q_aload_n (pc' := 35) C 0 d_Pc_beginLeg_34 rfl rfl ?_
      refine q_aload_n (pc' := 36) C 0 d_Pc_beginLeg_35 rfl rfl ?_
      refine gC_Pc_44 (pc' := 39) C o (rc o 2) ho (ly_2_2 ho).1 d_Pc_beginLeg_36 rfl rfl ?_
      refine q_iload_n (pc' := 40) C 1 d_Pc_beginLeg_39 rfl rfl ?_
      refine q_iconst (pc' := 41) C d_Pc_beginLeg_40 ki_2 rfl ?_
      refine q_callVr (fr' := 0) (lo' := 0) (pc' := 44) C FC_Tb_get lmC_Pc_59 d_Pc_beginLeg_41 (rc o 2) (jCo (ly_2_2 ho).2) (ly_2_2 ho).2 cC_8 [.int p1, .int (2 : Int32)] [.ref (g.1 o)] rfl rfl (Nat.le_of_ble_eq_true rfl) ⟨rfl, rfl⟩ (fun x h => cC_Tb_get _ g hi σ1 (rc o 2) (ly_2_2 ho).2 p1 (2 : Int32) x h) rfl (fun x6 hx6 => ?_)
      refine pC_Pc_18 (pc' := 47) C o ho d_Pc_beginLeg_44 rfl rfl ?_
      refine q_let (fun σ7 e7 => ?_)
      refine q_state e7 ?_
      refine q_aload_n (pc' := 48) C 0 d_Pc_beginLeg_47 rfl rfl ?_
      refine q_aload_n (pc' := 49) C 0 d_Pc_beginLeg_48 rfl rfl ?_
      refine gC_Pc_44 (pc' := 52) C o (rc o 2) ho (ly_2_2 ho).1 d_Pc_beginLeg_49 rfl rfl ?_
      refine q_iload_n (pc' := 53) C 1 d_Pc_beginLeg_52 rfl rfl ?_
      refine q_iconst (pc' := 54) C d_Pc_beginLeg_53 ki_3 rfl ?_
      refine q_callVr (fr' := 0) (lo' := 0) (pc' := 57) C FC_Tb_get lmC_Pc_59 d_Pc_beginLeg_54 (rc o 2) (jCo (ly_2_2 ho).2) (ly_2_2 ho).2 cC_8 [.int p1, .int (3 : Int32)] [.ref (g.1 o)] rfl rfl (Nat.le_of_ble_eq_true rfl) ⟨rfl, rfl⟩ (fun x h => cC_Tb_get _ g hi σ7 (rc o 2) (ly_2_2 ho).2 p1 (3 : Int32) x h) rfl (fun x8 hx8 => ?_)
      refine pC_Pc_21 (pc' := 60) C o ho d_Pc_beginLeg_57 rfl rfl ?_
      refine q_let (fun σ9 e9 => ?_)
      refine q_state e9 ?_
      exact Rt.sub [] rfl (hJ4 σ9)
theorem d_Pc_addPiece_0 : decode qC_Pc_addPiece.1 0 = .ok (.iload_n 3, 1) := by decide +kernel
theorem d_Pc_addPiece_1 : decode qC_Pc_addPiece.1 1 = .ok (.ifCond .gt 4, 3) := by decide +kernel
theorem d_Pc_addPiece_4 : decode qC_Pc_addPiece.1 4 = .ok (.return_, 1) := by decide +kernel
theorem d_Pc_addPiece_5 : decode qC_Pc_addPiece.1 5 = .ok (.aload_n 0, 1) := by decide +kernel
theorem d_Pc_addPiece_6 : decode qC_Pc_addPiece.1 6 = .ok (.getfield 54, 3) := by decide +kernel
theorem d_Pc_addPiece_9 : decode qC_Pc_addPiece.1 9 = .ok (.aload_n 0, 1) := by decide +kernel
theorem d_Pc_addPiece_10 : decode qC_Pc_addPiece.1 10 = .ok (.getfield 9, 3) := by decide +kernel
theorem d_Pc_addPiece_13 : decode qC_Pc_addPiece.1 13 = .ok (.iconst 0, 1) := by decide +kernel
theorem d_Pc_addPiece_14 : decode qC_Pc_addPiece.1 14 = .ok (.iload_n 1, 1) := by decide +kernel
theorem d_Pc_addPiece_15 : decode qC_Pc_addPiece.1 15 = .ok (.invokevirtual 98, 3) := by decide +kernel
theorem d_Pc_addPiece_18 : decode qC_Pc_addPiece.1 18 = .ok (.aload_n 0, 1) := by decide +kernel
theorem d_Pc_addPiece_19 : decode qC_Pc_addPiece.1 19 = .ok (.getfield 54, 3) := by decide +kernel
theorem d_Pc_addPiece_22 : decode qC_Pc_addPiece.1 22 = .ok (.aload_n 0, 1) := by decide +kernel
theorem d_Pc_addPiece_23 : decode qC_Pc_addPiece.1 23 = .ok (.getfield 9, 3) := by decide +kernel
theorem d_Pc_addPiece_26 : decode qC_Pc_addPiece.1 26 = .ok (.iconst 1, 1) := by decide +kernel
theorem d_Pc_addPiece_27 : decode qC_Pc_addPiece.1 27 = .ok (.iload_n 2, 1) := by decide +kernel
theorem d_Pc_addPiece_28 : decode qC_Pc_addPiece.1 28 = .ok (.invokevirtual 98, 3) := by decide +kernel
theorem d_Pc_addPiece_31 : decode qC_Pc_addPiece.1 31 = .ok (.aload_n 0, 1) := by decide +kernel
theorem d_Pc_addPiece_32 : decode qC_Pc_addPiece.1 32 = .ok (.getfield 54, 3) := by decide +kernel
theorem d_Pc_addPiece_35 : decode qC_Pc_addPiece.1 35 = .ok (.aload_n 0, 1) := by decide +kernel
theorem d_Pc_addPiece_36 : decode qC_Pc_addPiece.1 36 = .ok (.getfield 9, 3) := by decide +kernel
theorem d_Pc_addPiece_39 : decode qC_Pc_addPiece.1 39 = .ok (.iconst 2, 1) := by decide +kernel
theorem d_Pc_addPiece_40 : decode qC_Pc_addPiece.1 40 = .ok (.iload_n 3, 1) := by decide +kernel
theorem d_Pc_addPiece_41 : decode qC_Pc_addPiece.1 41 = .ok (.invokevirtual 98, 3) := by decide +kernel
theorem d_Pc_addPiece_44 : decode qC_Pc_addPiece.1 44 = .ok (.aload_n 0, 1) := by decide +kernel
theorem d_Pc_addPiece_45 : decode qC_Pc_addPiece.1 45 = .ok (.getfield 54, 3) := by decide +kernel
theorem d_Pc_addPiece_48 : decode qC_Pc_addPiece.1 48 = .ok (.aload_n 0, 1) := by decide +kernel
theorem d_Pc_addPiece_49 : decode qC_Pc_addPiece.1 49 = .ok (.getfield 9, 3) := by decide +kernel
theorem d_Pc_addPiece_52 : decode qC_Pc_addPiece.1 52 = .ok (.iconst 3, 1) := by decide +kernel
theorem d_Pc_addPiece_53 : decode qC_Pc_addPiece.1 53 = .ok (.iload 4, 2) := by decide +kernel
theorem d_Pc_addPiece_55 : decode qC_Pc_addPiece.1 55 = .ok (.invokevirtual 98, 3) := by decide +kernel
theorem d_Pc_addPiece_58 : decode qC_Pc_addPiece.1 58 = .ok (.aload_n 0, 1) := by decide +kernel
theorem d_Pc_addPiece_59 : decode qC_Pc_addPiece.1 59 = .ok (.getfield 54, 3) := by decide +kernel
theorem d_Pc_addPiece_62 : decode qC_Pc_addPiece.1 62 = .ok (.aload_n 0, 1) := by decide +kernel
theorem d_Pc_addPiece_63 : decode qC_Pc_addPiece.1 63 = .ok (.getfield 9, 3) := by decide +kernel
theorem d_Pc_addPiece_66 : decode qC_Pc_addPiece.1 66 = .ok (.iconst 4, 1) := by decide +kernel
theorem d_Pc_addPiece_67 : decode qC_Pc_addPiece.1 67 = .ok (.aload_n 0, 1) := by decide +kernel
theorem d_Pc_addPiece_68 : decode qC_Pc_addPiece.1 68 = .ok (.getfield 18, 3) := by decide +kernel
theorem d_Pc_addPiece_71 : decode qC_Pc_addPiece.1 71 = .ok (.invokevirtual 98, 3) := by decide +kernel
theorem d_Pc_addPiece_74 : decode qC_Pc_addPiece.1 74 = .ok (.aload_n 0, 1) := by decide +kernel
theorem d_Pc_addPiece_75 : decode qC_Pc_addPiece.1 75 = .ok (.getfield 54, 3) := by decide +kernel
theorem d_Pc_addPiece_78 : decode qC_Pc_addPiece.1 78 = .ok (.aload_n 0, 1) := by decide +kernel
theorem d_Pc_addPiece_79 : decode qC_Pc_addPiece.1 79 = .ok (.getfield 9, 3) := by decide +kernel
theorem d_Pc_addPiece_82 : decode qC_Pc_addPiece.1 82 = .ok (.iconst 5, 1) := by decide +kernel
theorem d_Pc_addPiece_83 : decode qC_Pc_addPiece.1 83 = .ok (.aload_n 0, 1) := by decide +kernel
theorem d_Pc_addPiece_84 : decode qC_Pc_addPiece.1 84 = .ok (.getfield 21, 3) := by decide +kernel
theorem d_Pc_addPiece_87 : decode qC_Pc_addPiece.1 87 = .ok (.invokevirtual 98, 3) := by decide +kernel
theorem d_Pc_addPiece_90 : decode qC_Pc_addPiece.1 90 = .ok (.aload_n 0, 1) := by decide +kernel
theorem d_Pc_addPiece_91 : decode qC_Pc_addPiece.1 91 = .ok (.getfield 54, 3) := by decide +kernel
theorem d_Pc_addPiece_94 : decode qC_Pc_addPiece.1 94 = .ok (.aload_n 0, 1) := by decide +kernel
theorem d_Pc_addPiece_95 : decode qC_Pc_addPiece.1 95 = .ok (.getfield 9, 3) := by decide +kernel
theorem d_Pc_addPiece_98 : decode qC_Pc_addPiece.1 98 = .ok (.bipush 6, 2) := by decide +kernel
theorem d_Pc_addPiece_100 : decode qC_Pc_addPiece.1 100 = .ok (.iload 5, 2) := by decide +kernel
theorem d_Pc_addPiece_102 : decode qC_Pc_addPiece.1 102 = .ok (.invokevirtual 98, 3) := by decide +kernel
theorem d_Pc_addPiece_105 : decode qC_Pc_addPiece.1 105 = .ok (.aload_n 0, 1) := by decide +kernel
theorem d_Pc_addPiece_106 : decode qC_Pc_addPiece.1 106 = .ok (.getfield 54, 3) := by decide +kernel
theorem d_Pc_addPiece_109 : decode qC_Pc_addPiece.1 109 = .ok (.aload_n 0, 1) := by decide +kernel
theorem d_Pc_addPiece_110 : decode qC_Pc_addPiece.1 110 = .ok (.getfield 9, 3) := by decide +kernel
theorem d_Pc_addPiece_113 : decode qC_Pc_addPiece.1 113 = .ok (.bipush 7, 2) := by decide +kernel
theorem d_Pc_addPiece_115 : decode qC_Pc_addPiece.1 115 = .ok (.iload 6, 2) := by decide +kernel
theorem d_Pc_addPiece_117 : decode qC_Pc_addPiece.1 117 = .ok (.invokevirtual 98, 3) := by decide +kernel
theorem d_Pc_addPiece_120 : decode qC_Pc_addPiece.1 120 = .ok (.aload_n 0, 1) := by decide +kernel
theorem d_Pc_addPiece_121 : decode qC_Pc_addPiece.1 121 = .ok (.dup, 1) := by decide +kernel
theorem d_Pc_addPiece_122 : decode qC_Pc_addPiece.1 122 = .ok (.getfield 9, 3) := by decide +kernel
theorem d_Pc_addPiece_125 : decode qC_Pc_addPiece.1 125 = .ok (.iconst 1, 1) := by decide +kernel
theorem d_Pc_addPiece_126 : decode qC_Pc_addPiece.1 126 = .ok (.iadd, 1) := by decide +kernel
theorem d_Pc_addPiece_127 : decode qC_Pc_addPiece.1 127 = .ok (.putfield 9, 3) := by decide +kernel
theorem d_Pc_addPiece_130 : decode qC_Pc_addPiece.1 130 = .ok (.aload_n 0, 1) := by decide +kernel
theorem d_Pc_addPiece_131 : decode qC_Pc_addPiece.1 131 = .ok (.iload 5, 2) := by decide +kernel
theorem d_Pc_addPiece_133 : decode qC_Pc_addPiece.1 133 = .ok (.putfield 18, 3) := by decide +kernel
theorem d_Pc_addPiece_136 : decode qC_Pc_addPiece.1 136 = .ok (.aload_n 0, 1) := by decide +kernel
theorem d_Pc_addPiece_137 : decode qC_Pc_addPiece.1 137 = .ok (.iload 6, 2) := by decide +kernel
theorem d_Pc_addPiece_139 : decode qC_Pc_addPiece.1 139 = .ok (.putfield 21, 3) := by decide +kernel
theorem d_Pc_addPiece_142 : decode qC_Pc_addPiece.1 142 = .ok (.return_, 1) := by decide +kernel
set_option maxRecDepth 100000 in
def f_Pc_addPiece (σ : St) (o : Nat) (p1 : Int32) (p2 : Int32) (p3 : Int32) (p4 : Int32) (p5 : Int32) (p6 : Int32) : Option (St) :=
  if (0 : Int32) < p3 then (
  Option.bind (f_Tb_put σ (rc o 4) (σ o 5) (0 : Int32) p1) fun x1 =>
  Option.bind (f_Tb_put x1 (rc o 4) (x1 o 5) (1 : Int32) p2) fun x2 =>
  Option.bind (f_Tb_put x2 (rc o 4) (x2 o 5) (2 : Int32) p3) fun x3 =>
  Option.bind (f_Tb_put x3 (rc o 4) (x3 o 5) (3 : Int32) p4) fun x4 =>
  Option.bind (f_Tb_put x4 (rc o 4) (x4 o 5) (4 : Int32) (x4 o 7)) fun x5 =>
  Option.bind (f_Tb_put x5 (rc o 4) (x5 o 5) (5 : Int32) (x5 o 8)) fun x6 =>
  Option.bind (f_Tb_put x6 (rc o 4) (x6 o 5) (6 : Int32) p5) fun x7 =>
  Option.bind (f_Tb_put x7 (rc o 4) (x7 o 5) (7 : Int32) p6) fun x8 =>
  Lt (s2 x8 o 5 ((x8 o 5) + (1 : Int32))) fun σ9 =>
  Lt (s2 σ9 o 7 p5) fun σ10 =>
  Lt (s2 σ10 o 8 p6) fun σ11 =>
  some σ11
  ) else (
  some σ
  )
set_option maxHeartbeats 4000000 in
set_option maxRecDepth 100000 in
theorem cC_Pc_addPiece (l : Launch) (g : Ge) (hi : injB wC.2 g) (σ : St) (o : Nat) (ho : wC.2.2.1 o = .inr (2, 11)) (p1 : Int32) (p2 : Int32) (p3 : Int32) (p4 : Int32) (p5 : Int32) (p6 : Int32) (x : St) (h : f_Pc_addPiece σ o p1 p2 p3 p4 p5 p6 = some x) : Ct l wC g yC_Pc_addPiece qC_Pc_addPiece 1 23 [.ref (g.1 o), .int p1, .int p2, .int p3, .int p4, .int p5, .int p6] σ (none, x) := by
  refine Ct.of (out := o_v) FC_Pc_addPiece rfl hi rfl h (fun z hz C => ?_)
  clear h
  subst hz
  unfold f_Pc_addPiece
  show Rt z qC_Pc_addPiece wC g o_v 0 [(0, .ref (g.1 o)), (1, .int p1), (2, .int p2), (3, .int p3), (4, .int p4), (5, .int p5), (6, .int p6)] [] σ _
  refine q_iload_n (pc' := 1) C 3 d_Pc_addPiece_0 rfl rfl ?_
  refine q_if_gt (tgt := 5) (pc' := 4) C d_Pc_addPiece_1 rfl rfl ?_ ?_
  · refine q_aload_n (pc' := 6) C 0 d_Pc_addPiece_5 rfl rfl ?_
    refine gC_Pc_54 (pc' := 9) C o (rc o 4) ho (ly_2_4 ho).1 d_Pc_addPiece_6 rfl rfl ?_
    refine q_aload_n (pc' := 10) C 0 d_Pc_addPiece_9 rfl rfl ?_
    refine gC_Pc_9 (pc' := 13) C o ho d_Pc_addPiece_10 rfl rfl ?_
    refine q_iconst (pc' := 14) C d_Pc_addPiece_13 ki_0 rfl ?_
    refine q_iload_n (pc' := 15) C 1 d_Pc_addPiece_14 rfl rfl ?_
    refine q_callVv (fr' := 0) (lo' := 0) (pc' := 18) C FC_Tb_put lmC_Pc_98 d_Pc_addPiece_15 (rc o 4) (jCo (ly_2_4 ho).2) (ly_2_4 ho).2 cC_8 [.int (σ o 5), .int (0 : Int32), .int p1] [] rfl rfl (Nat.le_of_ble_eq_true rfl) ⟨rfl, rfl⟩ (fun x h => cC_Tb_put _ g hi σ (rc o 4) (ly_2_4 ho).2 (σ o 5) (0 : Int32) p1 x h) rfl (fun x1 hx1 => ?_)
    refine q_aload_n (pc' := 19) C 0 d_Pc_addPiece_18 rfl rfl ?_
    refine gC_Pc_54 (pc' := 22) C o (rc o 4) ho (ly_2_4 ho).1 d_Pc_addPiece_19 rfl rfl ?_
    refine q_aload_n (pc' := 23) C 0 d_Pc_addPiece_22 rfl rfl ?_
    refine gC_Pc_9 (pc' := 26) C o ho d_Pc_addPiece_23 rfl rfl ?_
    refine q_iconst (pc' := 27) C d_Pc_addPiece_26 ki_1 rfl ?_
    refine q_iload_n (pc' := 28) C 2 d_Pc_addPiece_27 rfl rfl ?_
    refine q_callVv (fr' := 0) (lo' := 0) (pc' := 31) C FC_Tb_put lmC_Pc_98 d_Pc_addPiece_28 (rc o 4) (jCo (ly_2_4 ho).2) (ly_2_4 ho).2 cC_8 [.int (x1 o 5), .int (1 : Int32), .int p2] [] rfl rfl (Nat.le_of_ble_eq_true rfl) ⟨rfl, rfl⟩ (fun x h => cC_Tb_put _ g hi x1 (rc o 4) (ly_2_4 ho).2 (x1 o 5) (1 : Int32) p2 x h) rfl (fun x2 hx2 => ?_)
    refine q_aload_n (pc' := 32) C 0 d_Pc_addPiece_31 rfl rfl ?_
    refine gC_Pc_54 (pc' := 35) C o (rc o 4) ho (ly_2_4 ho).1 d_Pc_addPiece_32 rfl rfl ?_
    refine q_aload_n (pc' := 36) C 0 d_Pc_addPiece_35 rfl rfl ?_
    refine gC_Pc_9 (pc' := 39) C o ho d_Pc_addPiece_36 rfl rfl ?_
    refine q_iconst (pc' := 40) C d_Pc_addPiece_39 ki_2 rfl ?_
    refine q_iload_n (pc' := 41) C 3 d_Pc_addPiece_40 rfl rfl ?_
    refine q_callVv (fr' := 0) (lo' := 0) (pc' := 44) C FC_Tb_put lmC_Pc_98 d_Pc_addPiece_41 (rc o 4) (jCo (ly_2_4 ho).2) (ly_2_4 ho).2 cC_8 [.int (x2 o 5), .int (2 : Int32), .int p3] [] rfl rfl (Nat.le_of_ble_eq_true rfl) ⟨rfl, rfl⟩ (fun x h => cC_Tb_put _ g hi x2 (rc o 4) (ly_2_4 ho).2 (x2 o 5) (2 : Int32) p3 x h) rfl (fun x3 hx3 => ?_)
    refine q_aload_n (pc' := 45) C 0 d_Pc_addPiece_44 rfl rfl ?_
    refine gC_Pc_54 (pc' := 48) C o (rc o 4) ho (ly_2_4 ho).1 d_Pc_addPiece_45 rfl rfl ?_
    refine q_aload_n (pc' := 49) C 0 d_Pc_addPiece_48 rfl rfl ?_
    refine gC_Pc_9 (pc' := 52) C o ho d_Pc_addPiece_49 rfl rfl ?_
    refine q_iconst (pc' := 53) C d_Pc_addPiece_52 ki_3 rfl ?_
    refine q_iload (pc' := 55) C 4 d_Pc_addPiece_53 rfl rfl ?_
    refine q_callVv (fr' := 0) (lo' := 0) (pc' := 58) C FC_Tb_put lmC_Pc_98 d_Pc_addPiece_55 (rc o 4) (jCo (ly_2_4 ho).2) (ly_2_4 ho).2 cC_8 [.int (x3 o 5), .int (3 : Int32), .int p4] [] rfl rfl (Nat.le_of_ble_eq_true rfl) ⟨rfl, rfl⟩ (fun x h => cC_Tb_put _ g hi x3 (rc o 4) (ly_2_4 ho).2 (x3 o 5) (3 : Int32) p4 x h) rfl (fun x4 hx4 => ?_)
    refine q_aload_n (pc' := 59) C 0 d_Pc_addPiece_58 rfl rfl ?_
    refine gC_Pc_54 (pc' := 62) C o (rc o 4) ho (ly_2_4 ho).1 d_Pc_addPiece_59 rfl rfl ?_
    refine q_aload_n (pc' := 63) C 0 d_Pc_addPiece_62 rfl rfl ?_
    refine gC_Pc_9 (pc' := 66) C o ho d_Pc_addPiece_63 rfl rfl ?_
    refine q_iconst (pc' := 67) C d_Pc_addPiece_66 ki_4 rfl ?_
    refine q_aload_n (pc' := 68) C 0 d_Pc_addPiece_67 rfl rfl ?_
    refine gC_Pc_18 (pc' := 71) C o ho d_Pc_addPiece_68 rfl rfl ?_
    refine q_callVv (fr' := 0) (lo' := 0) (pc' := 74) C FC_Tb_put lmC_Pc_98 d_Pc_addPiece_71 (rc o 4) (jCo (ly_2_4 ho).2) (ly_2_4 ho).2 cC_8 [.int (x4 o 5), .int (4 : Int32), .int (x4 o 7)] [] rfl rfl (Nat.le_of_ble_eq_true rfl) ⟨rfl, rfl⟩ (fun x h => cC_Tb_put _ g hi x4 (rc o 4) (ly_2_4 ho).2 (x4 o 5) (4 : Int32) (x4 o 7) x h) rfl (fun x5 hx5 => ?_)
    refine q_aload_n (pc' := 75) C 0 d_Pc_addPiece_74 rfl rfl ?_
    refine gC_Pc_54 (pc' := 78) C o (rc o 4) ho (ly_2_4 ho).1 d_Pc_addPiece_75 rfl rfl ?_
    refine q_aload_n (pc' := 79) C 0 d_Pc_addPiece_78 rfl rfl ?_
    refine gC_Pc_9 (pc' := 82) C o ho d_Pc_addPiece_79 rfl rfl ?_
    refine q_iconst (pc' := 83) C d_Pc_addPiece_82 ki_5 rfl ?_
    refine q_aload_n (pc' := 84) C 0 d_Pc_addPiece_83 rfl rfl ?_
    refine gC_Pc_21 (pc' := 87) C o ho d_Pc_addPiece_84 rfl rfl ?_
    refine q_callVv (fr' := 0) (lo' := 0) (pc' := 90) C FC_Tb_put lmC_Pc_98 d_Pc_addPiece_87 (rc o 4) (jCo (ly_2_4 ho).2) (ly_2_4 ho).2 cC_8 [.int (x5 o 5), .int (5 : Int32), .int (x5 o 8)] [] rfl rfl (Nat.le_of_ble_eq_true rfl) ⟨rfl, rfl⟩ (fun x h => cC_Tb_put _ g hi x5 (rc o 4) (ly_2_4 ho).2 (x5 o 5) (5 : Int32) (x5 o 8) x h) rfl (fun x6 hx6 => ?_)
    refine q_aload_n (pc' := 91) C 0 d_Pc_addPiece_90 rfl rfl ?_
    refine gC_Pc_54 (pc' := 94) C o (rc o 4) ho (ly_2_4 ho).1 d_Pc_addPiece_91 rfl rfl ?_
    refine q_aload_n (pc' := 95) C 0 d_Pc_addPiece_94 rfl rfl ?_
    refine gC_Pc_9 (pc' := 98) C o ho d_Pc_addPiece_95 rfl rfl ?_
    refine q_bipush (pc' := 100) C d_Pc_addPiece_98 kb_6 rfl ?_
    refine q_iload (pc' := 102) C 5 d_Pc_addPiece_100 rfl rfl ?_
    refine q_callVv (fr' := 0) (lo' := 0) (pc' := 105) C FC_Tb_put lmC_Pc_98 d_Pc_addPiece_102 (rc o 4) (jCo (ly_2_4 ho).2) (ly_2_4 ho).2 cC_8 [.int (x6 o 5), .int (6 : Int32), .int p5] [] rfl rfl (Nat.le_of_ble_eq_true rfl) ⟨rfl, rfl⟩ (fun x h => cC_Tb_put _ g hi x6 (rc o 4) (ly_2_4 ho).2 (x6 o 5) (6 : Int32) p5 x h) rfl (fun x7 hx7 => ?_)
    refine q_aload_n (pc' := 106) C 0 d_Pc_addPiece_105 rfl rfl ?_
    refine gC_Pc_54 (pc' := 109) C o (rc o 4) ho (ly_2_4 ho).1 d_Pc_addPiece_106 rfl rfl ?_
    refine q_aload_n (pc' := 110) C 0 d_Pc_addPiece_109 rfl rfl ?_
    refine gC_Pc_9 (pc' := 113) C o ho d_Pc_addPiece_110 rfl rfl ?_
    refine q_bipush (pc' := 115) C d_Pc_addPiece_113 kb_7 rfl ?_
    refine q_iload (pc' := 117) C 6 d_Pc_addPiece_115 rfl rfl ?_
    refine q_callVv (fr' := 0) (lo' := 0) (pc' := 120) C FC_Tb_put lmC_Pc_98 d_Pc_addPiece_117 (rc o 4) (jCo (ly_2_4 ho).2) (ly_2_4 ho).2 cC_8 [.int (x7 o 5), .int (7 : Int32), .int p6] [] rfl rfl (Nat.le_of_ble_eq_true rfl) ⟨rfl, rfl⟩ (fun x h => cC_Tb_put _ g hi x7 (rc o 4) (ly_2_4 ho).2 (x7 o 5) (7 : Int32) p6 x h) rfl (fun x8 hx8 => ?_)
    refine q_aload_n (pc' := 121) C 0 d_Pc_addPiece_120 rfl rfl ?_
    refine q_dup (pc' := 122) C d_Pc_addPiece_121 rfl rfl ?_
    refine gC_Pc_9 (pc' := 125) C o ho d_Pc_addPiece_122 rfl rfl ?_
    refine q_iconst (pc' := 126) C d_Pc_addPiece_125 ki_1 rfl ?_
    refine q_iadd (pc' := 127) C d_Pc_addPiece_126 rfl ?_
    refine pC_Pc_9 (pc' := 130) C o ho d_Pc_addPiece_127 rfl rfl ?_
    refine q_let (fun σ9 e9 => ?_)
    refine q_state e9 ?_
    refine q_aload_n (pc' := 131) C 0 d_Pc_addPiece_130 rfl rfl ?_
    refine q_iload (pc' := 133) C 5 d_Pc_addPiece_131 rfl rfl ?_
    refine pC_Pc_18 (pc' := 136) C o ho d_Pc_addPiece_133 rfl rfl ?_
    refine q_let (fun σ10 e10 => ?_)
    refine q_state e10 ?_
    refine q_aload_n (pc' := 137) C 0 d_Pc_addPiece_136 rfl rfl ?_
    refine q_iload (pc' := 139) C 6 d_Pc_addPiece_137 rfl rfl ?_
    refine pC_Pc_21 (pc' := 142) C o ho d_Pc_addPiece_139 rfl rfl ?_
    refine q_let (fun σ11 e11 => ?_)
    refine q_state e11 ?_
    exact q_vret C rfl d_Pc_addPiece_142 rfl
  · exact q_vret C rfl d_Pc_addPiece_4 rfl
theorem d_Pc_drawArc_0 : decode qC_Pc_drawArc.1 0 = .ok (.aload_n 0, 1) := by decide +kernel
theorem d_Pc_drawArc_1 : decode qC_Pc_drawArc.1 1 = .ok (.getfield 48, 3) := by decide +kernel
theorem d_Pc_drawArc_4 : decode qC_Pc_drawArc.1 4 = .ok (.iload_n 1, 1) := by decide +kernel
theorem d_Pc_drawArc_5 : decode qC_Pc_drawArc.1 5 = .ok (.bipush 12, 2) := by decide +kernel
theorem d_Pc_drawArc_7 : decode qC_Pc_drawArc.1 7 = .ok (.invokevirtual 59, 3) := by decide +kernel
theorem d_Pc_drawArc_10 : decode qC_Pc_drawArc.1 10 = .ok (.invokestatic 101, 3) := by decide +kernel
theorem d_Pc_drawArc_13 : decode qC_Pc_drawArc.1 13 = .ok (.istore 4, 2) := by decide +kernel
theorem d_Pc_drawArc_15 : decode qC_Pc_drawArc.1 15 = .ok (.aload_n 0, 1) := by decide +kernel
theorem d_Pc_drawArc_16 : decode qC_Pc_drawArc.1 16 = .ok (.getfield 48, 3) := by decide +kernel
theorem d_Pc_drawArc_19 : decode qC_Pc_drawArc.1 19 = .ok (.iload_n 1, 1) := by decide +kernel
theorem d_Pc_drawArc_20 : decode qC_Pc_drawArc.1 20 = .ok (.bipush 13, 2) := by decide +kernel
theorem d_Pc_drawArc_22 : decode qC_Pc_drawArc.1 22 = .ok (.invokevirtual 59, 3) := by decide +kernel
theorem d_Pc_drawArc_25 : decode qC_Pc_drawArc.1 25 = .ok (.iload 4, 2) := by decide +kernel
theorem d_Pc_drawArc_27 : decode qC_Pc_drawArc.1 27 = .ok (.invokestatic 106, 3) := by decide +kernel
theorem d_Pc_drawArc_30 : decode qC_Pc_drawArc.1 30 = .ok (.istore 5, 2) := by decide +kernel
theorem d_Pc_drawArc_32 : decode qC_Pc_drawArc.1 32 = .ok (.aload_n 0, 1) := by decide +kernel
theorem d_Pc_drawArc_33 : decode qC_Pc_drawArc.1 33 = .ok (.aload_n 0, 1) := by decide +kernel
theorem d_Pc_drawArc_34 : decode qC_Pc_drawArc.1 34 = .ok (.getfield 48, 3) := by decide +kernel
theorem d_Pc_drawArc_37 : decode qC_Pc_drawArc.1 37 = .ok (.iload_n 1, 1) := by decide +kernel
theorem d_Pc_drawArc_38 : decode qC_Pc_drawArc.1 38 = .ok (.iconst 0, 1) := by decide +kernel
theorem d_Pc_drawArc_39 : decode qC_Pc_drawArc.1 39 = .ok (.invokevirtual 59, 3) := by decide +kernel
theorem d_Pc_drawArc_42 : decode qC_Pc_drawArc.1 42 = .ok (.iconst 1, 1) := by decide +kernel
theorem d_Pc_drawArc_43 : decode qC_Pc_drawArc.1 43 = .ok (.iload 5, 2) := by decide +kernel
theorem d_Pc_drawArc_45 : decode qC_Pc_drawArc.1 45 = .ok (.aload_n 0, 1) := by decide +kernel
theorem d_Pc_drawArc_46 : decode qC_Pc_drawArc.1 46 = .ok (.getfield 48, 3) := by decide +kernel
theorem d_Pc_drawArc_49 : decode qC_Pc_drawArc.1 49 = .ok (.iload_n 1, 1) := by decide +kernel
theorem d_Pc_drawArc_50 : decode qC_Pc_drawArc.1 50 = .ok (.bipush 6, 2) := by decide +kernel
theorem d_Pc_drawArc_52 : decode qC_Pc_drawArc.1 52 = .ok (.invokevirtual 59, 3) := by decide +kernel
theorem d_Pc_drawArc_55 : decode qC_Pc_drawArc.1 55 = .ok (.iload_n 2, 1) := by decide +kernel
theorem d_Pc_drawArc_56 : decode qC_Pc_drawArc.1 56 = .ok (.iload_n 3, 1) := by decide +kernel
theorem d_Pc_drawArc_57 : decode qC_Pc_drawArc.1 57 = .ok (.invokevirtual 111, 3) := by decide +kernel
theorem d_Pc_drawArc_60 : decode qC_Pc_drawArc.1 60 = .ok (.return_, 1) := by decide +kernel
set_option maxRecDepth 100000 in
def f_Pc_drawArc (σ : St) (o : Nat) (p1 : Int32) (p2 : Int32) (p3 : Int32) : Option (St) :=
  Option.bind (f_Tb_get σ (rc o 3) p1 (12 : Int32)) fun x1 =>
  Lt ((iabs x1) : Int32) fun x2 =>
  Option.bind (f_Tb_get σ (rc o 3) p1 (13 : Int32)) fun x3 =>
  Option.bind (f_Cm_arcLength x3 x2) fun x4 =>
  Option.bind (f_Tb_get σ (rc o 3) p1 (0 : Int32)) fun x5 =>
  Option.bind (f_Tb_get σ (rc o 3) p1 (6 : Int32)) fun x6 =>
  Option.bind (f_Pc_addPiece σ o x5 (1 : Int32) x4 x6 p2 p3) fun x7 =>
  some x7
set_option maxHeartbeats 4000000 in
set_option maxRecDepth 100000 in
theorem cC_Pc_drawArc (l : Launch) (g : Ge) (hi : injB wC.2 g) (σ : St) (o : Nat) (ho : wC.2.2.1 o = .inr (2, 11)) (p1 : Int32) (p2 : Int32) (p3 : Int32) (x : St) (h : f_Pc_drawArc σ o p1 p2 p3 = some x) : Ct l wC g yC_Pc_drawArc qC_Pc_drawArc 2 49 [.ref (g.1 o), .int p1, .int p2, .int p3] σ (none, x) := by
  refine Ct.of (out := o_v) FC_Pc_drawArc rfl hi rfl h (fun z hz C => ?_)
  clear h
  subst hz
  unfold f_Pc_drawArc
  show Rt z qC_Pc_drawArc wC g o_v 0 [(0, .ref (g.1 o)), (1, .int p1), (2, .int p2), (3, .int p3)] [] σ _
  refine q_aload_n (pc' := 1) C 0 d_Pc_drawArc_0 rfl rfl ?_
  refine gC_Pc_48 (pc' := 4) C o (rc o 3) ho (ly_2_3 ho).1 d_Pc_drawArc_1 rfl rfl ?_
  refine q_iload_n (pc' := 5) C 1 d_Pc_drawArc_4 rfl rfl ?_
  refine q_bipush (pc' := 7) C d_Pc_drawArc_5 kb_12 rfl ?_
  refine q_callVr (fr' := 0) (lo' := 0) (pc' := 10) C FC_Tb_get lmC_Pc_59 d_Pc_drawArc_7 (rc o 3) (jCo (ly_2_3 ho).2) (ly_2_3 ho).2 cC_8 [.int p1, .int (12 : Int32)] [] rfl rfl (Nat.le_of_ble_eq_true rfl) ⟨rfl, rfl⟩ (fun x h => cC_Tb_get _ g hi σ (rc o 3) (ly_2_3 ho).2 p1 (12 : Int32) x h) rfl (fun x1 hx1 => ?_)
  refine q_mabs (pc' := 13) C lj_abs_Pc_101 (Nat.le_of_ble_eq_true rfl) ⟨rfl, rfl⟩ d_Pc_drawArc_10 rfl ?_
  refine q_let (fun x2 e2 => ?_)
  refine q_topi e2 ?_
  refine q_istore (pc' := 15) (lv' := [(4, .int x2), (0, .ref (g.1 o)), (1, .int p1), (2, .int p2), (3, .int p3)]) C d_Pc_drawArc_13 (by decide) rfl rfl ?_
  refine q_aload_n (pc' := 16) C 1 d_Pc_drawArc_15 rfl rfl ?_
  refine gC_Pc_48 (pc' := 19) C o (rc o 3) ho (ly_2_3 ho).1 d_Pc_drawArc_16 rfl rfl ?_
  refine q_iload_n (pc' := 20) C 2 d_Pc_drawArc_19 rfl rfl ?_
  refine q_bipush (pc' := 22) C d_Pc_drawArc_20 kb_13 rfl ?_
  refine q_callVr (fr' := 0) (lo' := 0) (pc' := 25) C FC_Tb_get lmC_Pc_59 d_Pc_drawArc_22 (rc o 3) (jCo (ly_2_3 ho).2) (ly_2_3 ho).2 cC_8 [.int p1, .int (13 : Int32)] [] rfl rfl (Nat.le_of_ble_eq_true rfl) ⟨rfl, rfl⟩ (fun x h => cC_Tb_get _ g hi σ (rc o 3) (ly_2_3 ho).2 p1 (13 : Int32) x h) rfl (fun x3 hx3 => ?_)
  refine q_iload (pc' := 27) C 0 d_Pc_drawArc_25 rfl rfl ?_
  refine q_callSr (fr' := 0) (lo' := 0) (pc' := 30) C FC_Cm_arcLength lmC_Pc_106 d_Pc_drawArc_27 [.int x3, .int x2] [] rfl rfl (Nat.le_of_ble_eq_true rfl) ⟨rfl, rfl⟩ (fun x h => cC_Cm_arcLength _ g hi σ x3 x2 x h) rfl (fun x4 hx4 => ?_)
  refine q_istore (pc' := 32) (lv' := [(5, .int x4), (4, .int x2), (0, .ref (g.1 o)), (1, .int p1), (2, .int p2), (3, .int p3)]) C d_Pc_drawArc_30 (by decide) rfl rfl ?_
  refine q_aload_n (pc' := 33) C 2 d_Pc_drawArc_32 rfl rfl ?_
  refine q_aload_n (pc' := 34) C 2 d_Pc_drawArc_33 rfl rfl ?_
  refine gC_Pc_48 (pc' := 37) C o (rc o 3) ho (ly_2_3 ho).1 d_Pc_drawArc_34 rfl rfl ?_
  refine q_iload_n (pc' := 38) C 3 d_Pc_drawArc_37 rfl rfl ?_
  refine q_iconst (pc' := 39) C d_Pc_drawArc_38 ki_0 rfl ?_
  refine q_callVr (fr' := 0) (lo' := 0) (pc' := 42) C FC_Tb_get lmC_Pc_59 d_Pc_drawArc_39 (rc o 3) (jCo (ly_2_3 ho).2) (ly_2_3 ho).2 cC_8 [.int p1, .int (0 : Int32)] [.ref (g.1 o)] rfl rfl (Nat.le_of_ble_eq_true rfl) ⟨rfl, rfl⟩ (fun x h => cC_Tb_get _ g hi σ (rc o 3) (ly_2_3 ho).2 p1 (0 : Int32) x h) rfl (fun x5 hx5 => ?_)
  refine q_iconst (pc' := 43) C d_Pc_drawArc_42 ki_1 rfl ?_
  refine q_iload (pc' := 45) C 0 d_Pc_drawArc_43 rfl rfl ?_
  refine q_aload_n (pc' := 46) C 2 d_Pc_drawArc_45 rfl rfl ?_
  refine gC_Pc_48 (pc' := 49) C o (rc o 3) ho (ly_2_3 ho).1 d_Pc_drawArc_46 rfl rfl ?_
  refine q_iload_n (pc' := 50) C 3 d_Pc_drawArc_49 rfl rfl ?_
  refine q_bipush (pc' := 52) C d_Pc_drawArc_50 kb_6 rfl ?_
  refine q_callVr (fr' := 0) (lo' := 0) (pc' := 55) C FC_Tb_get lmC_Pc_59 d_Pc_drawArc_52 (rc o 3) (jCo (ly_2_3 ho).2) (ly_2_3 ho).2 cC_8 [.int p1, .int (6 : Int32)] [.int x4, .int (1 : Int32), .int x5, .ref (g.1 o)] rfl rfl (Nat.le_of_ble_eq_true rfl) ⟨rfl, rfl⟩ (fun x h => cC_Tb_get _ g hi σ (rc o 3) (ly_2_3 ho).2 p1 (6 : Int32) x h) rfl (fun x6 hx6 => ?_)
  refine q_iload_n (pc' := 56) C 4 d_Pc_drawArc_55 rfl rfl ?_
  refine q_iload_n (pc' := 57) C 5 d_Pc_drawArc_56 rfl rfl ?_
  refine q_callVv (fr' := 1) (lo' := 23) (pc' := 60) C FC_Pc_addPiece lmC_Pc_111 d_Pc_drawArc_57 o (jCo ho) ho cC_2 [.int x5, .int (1 : Int32), .int x4, .int x6, .int p2, .int p3] [] rfl rfl (Nat.le_of_ble_eq_true rfl) ⟨rfl, rfl⟩ (fun x h => cC_Pc_addPiece _ g hi σ o ho x5 (1 : Int32) x4 x6 p2 p3 x h) rfl (fun x7 hx7 => ?_)
  exact q_vret C rfl d_Pc_drawArc_60 rfl
