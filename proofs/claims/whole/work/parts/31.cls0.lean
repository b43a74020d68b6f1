/-! the methods of the program, 0 -/
theorem d_Cm_course_0 : decode qC_Cm_course.1 0 = .ok (.iload_n 0, 1) := by decide +kernel
theorem d_Cm_course_1 : decode qC_Cm_course.1 1 = .ok (.bipush 24, 2) := by decide +kernel
theorem d_Cm_course_3 : decode qC_Cm_course.1 3 = .ok (.irem, 1) := by decide +kernel
theorem d_Cm_course_4 : decode qC_Cm_course.1 4 = .ok (.bipush 24, 2) := by decide +kernel
theorem d_Cm_course_6 : decode qC_Cm_course.1 6 = .ok (.iadd, 1) := by decide +kernel
theorem d_Cm_course_7 : decode qC_Cm_course.1 7 = .ok (.bipush 24, 2) := by decide +kernel
theorem d_Cm_course_9 : decode qC_Cm_course.1 9 = .ok (.irem, 1) := by decide +kernel
theorem d_Cm_course_10 : decode qC_Cm_course.1 10 = .ok (.ireturn, 1) := by decide +kernel
set_option maxRecDepth 100000 in
def f_Cm_course (p0 : Int32) : Option (Int32) :=
  some (((p0 - p0 / (24 : Int32) * (24 : Int32)) + (24 : Int32)) - ((p0 - p0 / (24 : Int32) * (24 : Int32)) + (24 : Int32)) / (24 : Int32) * (24 : Int32))
set_option maxHeartbeats 4000000 in
set_option maxRecDepth 100000 in
theorem cC_Cm_course (l : Launch) (g : Ge) (hi : injB wC.2 g) (σ : St) (p0 : Int32) (x : Int32) (h : f_Cm_course p0 = some x) : Ct l wC g yC_Cm_course qC_Cm_course 0 0 [.int p0] σ (some (.int x), σ) := by
  refine Ct.of (out := (o_r σ)) FC_Cm_course rfl hi rfl h (fun z hz C => ?_)
  clear h
  subst hz
  unfold f_Cm_course
  show Rt z qC_Cm_course wC g (o_r σ) 0 [(0, .int p0)] [] σ _
  refine q_iload_n (pc' := 1) C 0 d_Cm_course_0 rfl rfl ?_
  refine q_bipush (pc' := 3) C d_Cm_course_1 kb_24 rfl ?_
  refine q_irem (pc' := 4) C (by decide) d_Cm_course_3 rfl ?_
  refine q_bipush (pc' := 6) C d_Cm_course_4 kb_24 rfl ?_
  refine q_iadd (pc' := 7) C d_Cm_course_6 rfl ?_
  refine q_bipush (pc' := 9) C d_Cm_course_7 kb_24 rfl ?_
  refine q_irem (pc' := 10) C (by decide) d_Cm_course_9 rfl ?_
  exact q_iret C rfl d_Cm_course_10 rfl
theorem d_Cm_east_0 : decode qC_Cm_east.1 0 = .ok (.getstatic 9, 3) := by decide +kernel
theorem d_Cm_east_3 : decode qC_Cm_east.1 3 = .ok (.iload_n 0, 1) := by decide +kernel
theorem d_Cm_east_4 : decode qC_Cm_east.1 4 = .ok (.bipush 24, 2) := by decide +kernel
theorem d_Cm_east_6 : decode qC_Cm_east.1 6 = .ok (.irem, 1) := by decide +kernel
theorem d_Cm_east_7 : decode qC_Cm_east.1 7 = .ok (.bipush 24, 2) := by decide +kernel
theorem d_Cm_east_9 : decode qC_Cm_east.1 9 = .ok (.iadd, 1) := by decide +kernel
theorem d_Cm_east_10 : decode qC_Cm_east.1 10 = .ok (.bipush 24, 2) := by decide +kernel
theorem d_Cm_east_12 : decode qC_Cm_east.1 12 = .ok (.irem, 1) := by decide +kernel
theorem d_Cm_east_13 : decode qC_Cm_east.1 13 = .ok (.iaload, 1) := by decide +kernel
theorem d_Cm_east_14 : decode qC_Cm_east.1 14 = .ok (.ireturn, 1) := by decide +kernel
set_option maxRecDepth 100000 in
def f_Cm_east (σ : St) (p0 : Int32) : Option (Int32) :=
  Gd (Ix (((p0 - p0 / (24 : Int32) * (24 : Int32)) + (24 : Int32)) - ((p0 - p0 / (24 : Int32) * (24 : Int32)) + (24 : Int32)) / (24 : Int32) * (24 : Int32)) 24) <|
  some (SINS.getD (Int32.toNatClampNeg (((p0 - p0 / (24 : Int32) * (24 : Int32)) + (24 : Int32)) - ((p0 - p0 / (24 : Int32) * (24 : Int32)) + (24 : Int32)) / (24 : Int32) * (24 : Int32))) 0)
set_option maxHeartbeats 4000000 in
set_option maxRecDepth 100000 in
theorem cC_Cm_east (l : Launch) (g : Ge) (hi : injB wC.2 g) (σ : St) (p0 : Int32) (x : Int32) (h : f_Cm_east σ p0 = some x) : Ct l wC g yC_Cm_east qC_Cm_east 0 0 [.int p0] σ (some (.int x), σ) := by
  refine Ct.of (out := (o_r σ)) FC_Cm_east rfl hi rfl h (fun z hz C => ?_)
  clear h
  subst hz
  unfold f_Cm_east
  show Rt z qC_Cm_east wC g (o_r σ) 0 [(0, .int p0)] [] σ _
  refine q_gsin (pc' := 3) C rfl lfC_Cm_9 d_Cm_east_0 rfl ?_
  refine q_iload_n (pc' := 4) C 0 d_Cm_east_3 rfl rfl ?_
  refine q_bipush (pc' := 6) C d_Cm_east_4 kb_24 rfl ?_
  refine q_irem (pc' := 7) C (by decide) d_Cm_east_6 rfl ?_
  refine q_bipush (pc' := 9) C d_Cm_east_7 kb_24 rfl ?_
  refine q_iadd (pc' := 10) C d_Cm_east_9 rfl ?_
  refine q_bipush (pc' := 12) C d_Cm_east_10 kb_24 rfl ?_
  refine q_irem (pc' := 13) C (by decide) d_Cm_east_12 rfl ?_
  refine q_tsin (pc' := 14) C rfl d_Cm_east_13 rfl ?_
  exact q_iret C rfl d_Cm_east_14 rfl
theorem d_Cm_north_0 : decode qC_Cm_north.1 0 = .ok (.getstatic 9, 3) := by decide +kernel
theorem d_Cm_north_3 : decode qC_Cm_north.1 3 = .ok (.iload_n 0, 1) := by decide +kernel
theorem d_Cm_north_4 : decode qC_Cm_north.1 4 = .ok (.bipush 6, 2) := by decide +kernel
theorem d_Cm_north_6 : decode qC_Cm_north.1 6 = .ok (.iadd, 1) := by decide +kernel
theorem d_Cm_north_7 : decode qC_Cm_north.1 7 = .ok (.bipush 24, 2) := by decide +kernel
theorem d_Cm_north_9 : decode qC_Cm_north.1 9 = .ok (.irem, 1) := by decide +kernel
theorem d_Cm_north_10 : decode qC_Cm_north.1 10 = .ok (.bipush 24, 2) := by decide +kernel
theorem d_Cm_north_12 : decode qC_Cm_north.1 12 = .ok (.iadd, 1) := by decide +kernel
theorem d_Cm_north_13 : decode qC_Cm_north.1 13 = .ok (.bipush 24, 2) := by decide +kernel
theorem d_Cm_north_15 : decode qC_Cm_north.1 15 = .ok (.irem, 1) := by decide +kernel
theorem d_Cm_north_16 : decode qC_Cm_north.1 16 = .ok (.iaload, 1) := by decide +kernel
theorem d_Cm_north_17 : decode qC_Cm_north.1 17 = .ok (.ireturn, 1) := by decide +kernel
set_option maxRecDepth 100000 in
def f_Cm_north (σ : St) (p0 : Int32) : Option (Int32) :=
  Gd (Ix ((((p0 + (6 : Int32)) - (p0 + (6 : Int32)) / (24 : Int32) * (24 : Int32)) + (24 : Int32)) - (((p0 + (6 : Int32)) - (p0 + (6 : Int32)) / (24 : Int32) * (24 : Int32)) + (24 : Int32)) / (24 : Int32) * (24 : Int32)) 24) <|
  some (SINS.getD (Int32.toNatClampNeg ((((p0 + (6 : Int32)) - (p0 + (6 : Int32)) / (24 : Int32) * (24 : Int32)) + (24 : Int32)) - (((p0 + (6 : Int32)) - (p0 + (6 : Int32)) / (24 : Int32) * (24 : Int32)) + (24 : Int32)) / (24 : Int32) * (24 : Int32))) 0)
set_option maxHeartbeats 4000000 in
set_option maxRecDepth 100000 in
theorem cC_Cm_north (l : Launch) (g : Ge) (hi : injB wC.2 g) (σ : St) (p0 : Int32) (x : Int32) (h : f_Cm_north σ p0 = some x) : Ct l wC g yC_Cm_north qC_Cm_north 0 0 [.int p0] σ (some (.int x), σ) := by
  refine Ct.of (out := (o_r σ)) FC_Cm_north rfl hi rfl h (fun z hz C => ?_)
  clear h
  subst hz
  unfold f_Cm_north
  show Rt z qC_Cm_north wC g (o_r σ) 0 [(0, .int p0)] [] σ _
  refine q_gsin (pc' := 3) C rfl lfC_Cm_9 d_Cm_north_0 rfl ?_
  refine q_iload_n (pc' := 4) C 0 d_Cm_north_3 rfl rfl ?_
  refine q_bipush (pc' := 6) C d_Cm_north_4 kb_6 rfl ?_
  refine q_iadd (pc' := 7) C d_Cm_north_6 rfl ?_
  refine q_bipush (pc' := 9) C d_Cm_north_7 kb_24 rfl ?_
  refine q_irem (pc' := 10) C (by decide) d_Cm_north_9 rfl ?_
  refine q_bipush (pc' := 12) C d_Cm_north_10 kb_24 rfl ?_
  refine q_iadd (pc' := 13) C d_Cm_north_12 rfl ?_
  refine q_bipush (pc' := 15) C d_Cm_north_13 kb_24 rfl ?_
  refine q_irem (pc' := 16) C (by decide) d_Cm_north_15 rfl ?_
  refine q_tsin (pc' := 17) C rfl d_Cm_north_16 rfl ?_
  exact q_iret C rfl d_Cm_north_17 rfl
theorem d_Cm_pointX_0 : decode qC_Cm_pointX.1 0 = .ok (.iload_n 0, 1) := by decide +kernel
theorem d_Cm_pointX_1 : decode qC_Cm_pointX.1 1 = .ok (.i2l, 1) := by decide +kernel
theorem d_Cm_pointX_2 : decode qC_Cm_pointX.1 2 = .ok (.iload_n 2, 1) := by decide +kernel
theorem d_Cm_pointX_3 : decode qC_Cm_pointX.1 3 = .ok (.i2l, 1) := by decide +kernel
theorem d_Cm_pointX_4 : decode qC_Cm_pointX.1 4 = .ok (.iload_n 1, 1) := by decide +kernel
theorem d_Cm_pointX_5 : decode qC_Cm_pointX.1 5 = .ok (.invokestatic 15, 3) := by decide +kernel
theorem d_Cm_pointX_8 : decode qC_Cm_pointX.1 8 = .ok (.i2l, 1) := by decide +kernel
theorem d_Cm_pointX_9 : decode qC_Cm_pointX.1 9 = .ok (.lmul, 1) := by decide +kernel
theorem d_Cm_pointX_10 : decode qC_Cm_pointX.1 10 = .ok (.ldc2_w 19, 3) := by decide +kernel
theorem d_Cm_pointX_13 : decode qC_Cm_pointX.1 13 = .ok (.ldiv, 1) := by decide +kernel
theorem d_Cm_pointX_14 : decode qC_Cm_pointX.1 14 = .ok (.ladd, 1) := by decide +kernel
theorem d_Cm_pointX_15 : decode qC_Cm_pointX.1 15 = .ok (.l2i, 1) := by decide +kernel
theorem d_Cm_pointX_16 : decode qC_Cm_pointX.1 16 = .ok (.ireturn, 1) := by decide +kernel
set_option maxRecDepth 100000 in
def f_Cm_pointX (σ : St) (p0 : Int32) (p1 : Int32) (p2 : Int32) : Option (Int32) :=
  Option.bind (f_Cm_east σ p1) fun x1 =>
  some (Int64.toInt32 ((Int32.toInt64 p0) + (((Int32.toInt64 p2) * (Int32.toInt64 x1)) / (1000 : Int64))))
set_option maxHeartbeats 4000000 in
set_option maxRecDepth 100000 in
theorem cC_Cm_pointX (l : Launch) (g : Ge) (hi : injB wC.2 g) (σ : St) (p0 : Int32) (p1 : Int32) (p2 : Int32) (x : Int32) (h : f_Cm_pointX σ p0 p1 p2 = some x) : Ct l wC g yC_Cm_pointX qC_Cm_pointX 1 20 [.int p0, .int p1, .int p2] σ (some (.int x), σ) := by
  refine Ct.of (out := (o_r σ)) FC_Cm_pointX rfl hi rfl h (fun z hz C => ?_)
  clear h
  subst hz
  unfold f_Cm_pointX
  show Rt z qC_Cm_pointX wC g (o_r σ) 0 [(0, .int p0), (1, .int p1), (2, .int p2)] [] σ _
  refine q_iload_n (pc' := 1) C 0 d_Cm_pointX_0 rfl rfl ?_
  refine q_i2l (pc' := 2) C d_Cm_pointX_1 rfl ?_
  refine q_iload_n (pc' := 3) C 2 d_Cm_pointX_2 rfl rfl ?_
  refine q_i2l (pc' := 4) C d_Cm_pointX_3 rfl ?_
  refine q_iload_n (pc' := 5) C 1 d_Cm_pointX_4 rfl rfl ?_
  refine q_callSr (fr' := 0) (lo' := 0) (pc' := 8) C FC_Cm_east lmC_Cm_15 d_Cm_pointX_5 [.int p1] [.long (Int32.toInt64 p2), .long (Int32.toInt64 p0)] rfl rfl (Nat.le_of_ble_eq_true rfl) ⟨rfl, rfl⟩ (fun x h => cC_Cm_east _ g hi σ p1 x h) rfl (fun x1 hx1 => ?_)
  refine q_i2l (pc' := 9) C d_Cm_pointX_8 rfl ?_
  refine q_lmul (pc' := 10) C d_Cm_pointX_9 rfl ?_
  refine q_ldc2 (pc' := 13) C lLC_Cm_19 d_Cm_pointX_10 rfl ?_
  refine q_ldiv (pc' := 14) C (by decide) d_Cm_pointX_13 rfl ?_
  refine q_ladd (pc' := 15) C d_Cm_pointX_14 rfl ?_
  refine q_l2i (pc' := 16) C d_Cm_pointX_15 rfl ?_
  exact q_iret C rfl d_Cm_pointX_16 rfl
theorem d_Cm_pointY_0 : decode qC_Cm_pointY.1 0 = .ok (.iload_n 0, 1) := by decide +kernel
theorem d_Cm_pointY_1 : decode qC_Cm_pointY.1 1 = .ok (.i2l, 1) := by decide +kernel
theorem d_Cm_pointY_2 : decode qC_Cm_pointY.1 2 = .ok (.iload_n 2, 1) := by decide +kernel
theorem d_Cm_pointY_3 : decode qC_Cm_pointY.1 3 = .ok (.i2l, 1) := by decide +kernel
theorem d_Cm_pointY_4 : decode qC_Cm_pointY.1 4 = .ok (.iload_n 1, 1) := by decide +kernel
theorem d_Cm_pointY_5 : decode qC_Cm_pointY.1 5 = .ok (.invokestatic 21, 3) := by decide +kernel
theorem d_Cm_pointY_8 : decode qC_Cm_pointY.1 8 = .ok (.i2l, 1) := by decide +kernel
theorem d_Cm_pointY_9 : decode qC_Cm_pointY.1 9 = .ok (.lmul, 1) := by decide +kernel
theorem d_Cm_pointY_10 : decode qC_Cm_pointY.1 10 = .ok (.ldc2_w 19, 3) := by decide +kernel
theorem d_Cm_pointY_13 : decode qC_Cm_pointY.1 13 = .ok (.ldiv, 1) := by decide +kernel
theorem d_Cm_pointY_14 : decode qC_Cm_pointY.1 14 = .ok (.ladd, 1) := by decide +kernel
theorem d_Cm_pointY_15 : decode qC_Cm_pointY.1 15 = .ok (.l2i, 1) := by decide +kernel
theorem d_Cm_pointY_16 : decode qC_Cm_pointY.1 16 = .ok (.ireturn, 1) := by decide +kernel
set_option maxRecDepth 100000 in
def f_Cm_pointY (σ : St) (p0 : Int32) (p1 : Int32) (p2 : Int32) : Option (Int32) :=
  Option.bind (f_Cm_north σ p1) fun x1 =>
  some (Int64.toInt32 ((Int32.toInt64 p0) + (((Int32.toInt64 p2) * (Int32.toInt64 x1)) / (1000 : Int64))))
set_option maxHeartbeats 4000000 in
set_option maxRecDepth 100000 in
theorem cC_Cm_pointY (l : Launch) (g : Ge) (hi : injB wC.2 g) (σ : St) (p0 : Int32) (p1 : Int32) (p2 : Int32) (x : Int32) (h : f_Cm_pointY σ p0 p1 p2 = some x) : Ct l wC g yC_Cm_pointY qC_Cm_pointY 1 20 [.int p0, .int p1, .int p2] σ (some (.int x), σ) := by
  refine Ct.of (out := (o_r σ)) FC_Cm_pointY rfl hi rfl h (fun z hz C => ?_)
  clear h
  subst hz
  unfold f_Cm_pointY
  show Rt z qC_Cm_pointY wC g (o_r σ) 0 [(0, .int p0), (1, .int p1), (2, .int p2)] [] σ _
  refine q_iload_n (pc' := 1) C 0 d_Cm_pointY_0 rfl rfl ?_
  refine q_i2l (pc' := 2) C d_Cm_pointY_1 rfl ?_
  refine q_iload_n (pc' := 3) C 2 d_Cm_pointY_2 rfl rfl ?_
  refine q_i2l (pc' := 4) C d_Cm_pointY_3 rfl ?_
  refine q_iload_n (pc' := 5) C 1 d_Cm_pointY_4 rfl rfl ?_
  refine q_callSr (fr' := 0) (lo' := 0) (pc' := 8) C FC_Cm_north lmC_Cm_21 d_Cm_pointY_5 [.int p1] [.long (Int32.toInt64 p2), .long (Int32.toInt64 p0)] rfl rfl (Nat.le_of_ble_eq_true rfl) ⟨rfl, rfl⟩ (fun x h => cC_Cm_north _ g hi σ p1 x h) rfl (fun x1 hx1 => ?_)
  refine q_i2l (pc' := 9) C d_Cm_pointY_8 rfl ?_
  refine q_lmul (pc' := 10) C d_Cm_pointY_9 rfl ?_
  refine q_ldc2 (pc' := 13) C lLC_Cm_19 d_Cm_pointY_10 rfl ?_
  refine q_ldiv (pc' := 14) C (by decide) d_Cm_pointY_13 rfl ?_
  refine q_ladd (pc' := 15) C d_Cm_pointY_14 rfl ?_
  refine q_l2i (pc' := 16) C d_Cm_pointY_15 rfl ?_
  exact q_iret C rfl d_Cm_pointY_16 rfl
theorem d_Cm_root_0 : decode qC_Cm_root.1 0 = .ok (.lload_n 0, 1) := by decide +kernel
theorem d_Cm_root_1 : decode qC_Cm_root.1 1 = .ok (.lstore_n 2, 1) := by decide +kernel
theorem d_Cm_root_2 : decode qC_Cm_root.1 2 = .ok (.lconst 0, 1) := by decide +kernel
theorem d_Cm_root_3 : decode qC_Cm_root.1 3 = .ok (.lstore 4, 2) := by decide +kernel
theorem d_Cm_root_5 : decode qC_Cm_root.1 5 = .ok (.ldc2_w 28, 3) := by decide +kernel
theorem d_Cm_root_8 : decode qC_Cm_root.1 8 = .ok (.lstore 6, 2) := by decide +kernel
theorem d_Cm_root_10 : decode qC_Cm_root.1 10 = .ok (.lload 6, 2) := by decide +kernel
theorem d_Cm_root_12 : decode qC_Cm_root.1 12 = .ok (.lconst 0, 1) := by decide +kernel
theorem d_Cm_root_13 : decode qC_Cm_root.1 13 = .ok (.lcmp, 1) := by decide +kernel
theorem d_Cm_root_14 : decode qC_Cm_root.1 14 = .ok (.ifCond .le 48, 3) := by decide +kernel
theorem d_Cm_root_17 : decode qC_Cm_root.1 17 = .ok (.lload_n 2, 1) := by decide +kernel
theorem d_Cm_root_18 : decode qC_Cm_root.1 18 = .ok (.lload 4, 2) := by decide +kernel
theorem d_Cm_root_20 : decode qC_Cm_root.1 20 = .ok (.lload 6, 2) := by decide +kernel
theorem d_Cm_root_22 : decode qC_Cm_root.1 22 = .ok (.ladd, 1) := by decide +kernel
theorem d_Cm_root_23 : decode qC_Cm_root.1 23 = .ok (.lcmp, 1) := by decide +kernel
theorem d_Cm_root_24 : decode qC_Cm_root.1 24 = .ok (.ifCond .lt 23, 3) := by decide +kernel
theorem d_Cm_root_27 : decode qC_Cm_root.1 27 = .ok (.lload_n 2, 1) := by decide +kernel
theorem d_Cm_root_28 : decode qC_Cm_root.1 28 = .ok (.lload 4, 2) := by decide +kernel
theorem d_Cm_root_30 : decode qC_Cm_root.1 30 = .ok (.lload 6, 2) := by decide +kernel
theorem d_Cm_root_32 : decode qC_Cm_root.1 32 = .ok (.ladd, 1) := by decide +kernel
theorem d_Cm_root_33 : decode qC_Cm_root.1 33 = .ok (.lsub, 1) := by decide +kernel
theorem d_Cm_root_34 : decode qC_Cm_root.1 34 = .ok (.lstore_n 2, 1) := by decide +kernel
theorem d_Cm_root_35 : decode qC_Cm_root.1 35 = .ok (.lload 4, 2) := by decide +kernel
theorem d_Cm_root_37 : decode qC_Cm_root.1 37 = .ok (.iconst 1, 1) := by decide +kernel
theorem d_Cm_root_38 : decode qC_Cm_root.1 38 = .ok (.lshr, 1) := by decide +kernel
theorem d_Cm_root_39 : decode qC_Cm_root.1 39 = .ok (.lload 6, 2) := by decide +kernel
theorem d_Cm_root_41 : decode qC_Cm_root.1 41 = .ok (.ladd, 1) := by decide +kernel
theorem d_Cm_root_42 : decode qC_Cm_root.1 42 = .ok (.lstore 4, 2) := by decide +kernel
theorem d_Cm_root_44 : decode qC_Cm_root.1 44 = .ok (.goto 9, 3) := by decide +kernel
theorem d_Cm_root_47 : decode qC_Cm_root.1 47 = .ok (.lload 4, 2) := by decide +kernel
theorem d_Cm_root_49 : decode qC_Cm_root.1 49 = .ok (.iconst 1, 1) := by decide +kernel
theorem d_Cm_root_50 : decode qC_Cm_root.1 50 = .ok (.lshr, 1) := by decide +kernel
theorem d_Cm_root_51 : decode qC_Cm_root.1 51 = .ok (.lstore 4, 2) := by decide +kernel
theorem d_Cm_root_53 : decode qC_Cm_root.1 53 = .ok (.lload 6, 2) := by decide +kernel
theorem d_Cm_root_55 : decode qC_Cm_root.1 55 = .ok (.iconst 2, 1) := by decide +kernel
theorem d_Cm_root_56 : decode qC_Cm_root.1 56 = .ok (.lshr, 1) := by decide +kernel
theorem d_Cm_root_57 : decode qC_Cm_root.1 57 = .ok (.lstore 6, 2) := by decide +kernel
theorem d_Cm_root_59 : decode qC_Cm_root.1 59 = .ok (.goto (-49), 3) := by decide +kernel
theorem d_Cm_root_62 : decode qC_Cm_root.1 62 = .ok (.lload 4, 2) := by decide +kernel
theorem d_Cm_root_64 : decode qC_Cm_root.1 64 = .ok (.l2i, 1) := by decide +kernel
theorem d_Cm_root_65 : decode qC_Cm_root.1 65 = .ok (.ireturn, 1) := by decide +kernel
set_option maxRecDepth 100000 in
def lb_f_Cm_root_10 (J2 : Int64 → Option (Int32)) (ih4 : Int64 × Int64 × Int64 → Option (Int32)) (a3 : Int64 × Int64 × Int64) : Option (Int32) :=
  if (a3.2.2 : Int64) ≤ (0 : Int64) then (
  J2 a3.2.1
  ) else (
  Jn (fun (x5 : Int64) (x6 : Int64) =>
  Lt ((a3.2.2 >>> (Int32.toInt64 (2 : Int32) &&& 63)) : Int64) fun x8 =>
  ih4 (x5, x6, x8)
  ) fun J7 =>
  if (a3.1 : Int64) < (a3.2.1 + a3.2.2) then (
  Lt ((a3.2.1 >>> (Int32.toInt64 (1 : Int32) &&& 63)) : Int64) fun x9 =>
  J7 a3.1 x9
  ) else (
  Lt ((a3.1 - (a3.2.1 + a3.2.2)) : Int64) fun x10 =>
  Lt (((a3.2.1 >>> (Int32.toInt64 (1 : Int32) &&& 63)) + a3.2.2) : Int64) fun x11 =>
  J7 x10 x11
  )
  )
set_option maxRecDepth 100000 in
def f_Cm_root (p0 : Int64) : Option (Int32) :=
  Jn (fun (x1 : Int64) =>
  some (Int64.toInt32 x1)
  ) fun J2 =>
  lp (lb_f_Cm_root_10 J2) 4000 (p0, (0 : Int64), (1152921504606846976 : Int64))
set_option maxHeartbeats 4000000 in
set_option maxRecDepth 100000 in
theorem cC_Cm_root (l : Launch) (g : Ge) (hi : injB wC.2 g) (σ : St) (p0 : Int64) (x : Int32) (h : f_Cm_root p0 = some x) : Ct l wC g yC_Cm_root qC_Cm_root 0 0 [.long p0] σ (some (.int x), σ) := by
  refine Ct.of (out := (o_r σ)) FC_Cm_root rfl hi rfl h (fun z hz C => ?_)
  clear h
  subst hz
  unfold f_Cm_root
  show Rt z qC_Cm_root wC g (o_r σ) 0 [(0, .long p0)] [] σ _
  refine q_lload_n (pc' := 1) C 0 d_Cm_root_0 rfl rfl ?_
  refine q_lstore_n (pc' := 2) (lv' := [(2, .long p0), (0, .long p0)]) C d_Cm_root_1 (by decide) rfl rfl ?_
  refine q_lconst (pc' := 3) C d_Cm_root_2 kl_0 rfl ?_
  refine q_lstore (pc' := 5) (lv' := [(4, .long (0 : Int64)), (2, .long p0), (0, .long p0)]) C d_Cm_root_3 (by decide) rfl rfl ?_
  refine q_ldc2 (pc' := 8) C lLC_Cm_28 d_Cm_root_5 rfl ?_
  refine q_lstore (pc' := 10) (lv' := [(6, .long (1152921504606846976 : Int64)), (4, .long (0 : Int64)), (2, .long p0), (0, .long p0)]) C d_Cm_root_8 (by decide) rfl rfl ?_
  refine q_join (fun J2 : Int64 → Option (Int32) => ∀ (x1 : Int64), Rt z qC_Cm_root wC g (o_r σ) 62 [(4, .long x1)] [] σ (J2 x1)) (fun x1 => ?_) (fun J2 hJ2 => ?_)
  · refine q_lload (pc' := 64) C 0 d_Cm_root_62 rfl rfl ?_
    refine q_l2i (pc' := 65) C d_Cm_root_64 rfl ?_
    exact q_iret C rfl d_Cm_root_65 rfl
  refine Rt.sub [2, 1, 0] rfl (q_lp (fun a3 : Int64 × Int64 × Int64 => [(2, .long a3.1), (4, .long a3.2.1), (6, .long a3.2.2)]) (fun a3 => []) (fun a3 => σ) (fun ih4 hih4 a3 => ?_) 4000 (p0, (0 : Int64), (1152921504606846976 : Int64)))
  unfold lb_f_Cm_root_10
  refine q_lload (pc' := 12) C 2 d_Cm_root_10 rfl rfl ?_
  refine q_lconst (pc' := 13) C d_Cm_root_12 kl_0 rfl ?_
  refine q_lcmp_le (tgt := 62) (pc' := 17) C d_Cm_root_13 d_Cm_root_14 rfl rfl ?_ ?_
  · exact Rt.sub [1] rfl (hJ2 a3.2.1)
  · refine q_lload_n (pc' := 18) C 0 d_Cm_root_17 rfl rfl ?_
    refine q_lload (pc' := 20) C 1 d_Cm_root_18 rfl rfl ?_
    refine q_lload (pc' := 22) C 2 d_Cm_root_20 rfl rfl ?_
    refine q_ladd (pc' := 23) C d_Cm_root_22 rfl ?_
    refine q_join (fun J7 : Int64 → Int64 → Option (Int32) => ∀ (x5 : Int64) (x6 : Int64), Rt z qC_Cm_root wC g (o_r σ) 53 [(2, .long x5), (4, .long x6), (6, .long a3.2.2)] [] σ (J7 x5 x6)) (fun x5 x6 => ?_) (fun J7 hJ7 => ?_)
    · refine q_lload (pc' := 55) C 2 d_Cm_root_53 rfl rfl ?_
      refine q_iconst (pc' := 56) C d_Cm_root_55 ki_2 rfl ?_
      refine q_lshr (pc' := 57) C d_Cm_root_56 rfl ?_
      refine q_let (fun x8 e8 => ?_)
      refine q_topl e8 ?_
      refine q_lstore (pc' := 59) (lv' := [(6, .long x8), (2, .long x5), (4, .long x6)]) C d_Cm_root_57 (by decide) rfl rfl ?_
      refine q_goto (tgt := 10) C d_Cm_root_59 rfl ?_
      exact Rt.sub [1, 2, 0] rfl (hih4 (x5, x6, x8))
    refine q_lcmp_lt (tgt := 47) (pc' := 27) C d_Cm_root_23 d_Cm_root_24 rfl rfl ?_ ?_
    · refine q_lload (pc' := 49) C 1 d_Cm_root_47 rfl rfl ?_
      refine q_iconst (pc' := 50) C d_Cm_root_49 ki_1 rfl ?_
      refine q_lshr (pc' := 51) C d_Cm_root_50 rfl ?_
      refine q_let (fun x9 e9 => ?_)
      refine q_topl e9 ?_
      refine q_lstore (pc' := 53) (lv' := [(4, .long x9), (2, .long a3.1), (6, .long a3.2.2)]) C d_Cm_root_51 (by decide) rfl rfl ?_
      exact Rt.sub [1, 0, 2] rfl (hJ7 a3.1 x9)
    · refine q_lload_n (pc' := 28) C 0 d_Cm_root_27 rfl rfl ?_
      refine q_lload (pc' := 30) C 1 d_Cm_root_28 rfl rfl ?_
      refine q_lload (pc' := 32) C 2 d_Cm_root_30 rfl rfl ?_
      refine q_ladd (pc' := 33) C d_Cm_root_32 rfl ?_
      refine q_lsub (pc' := 34) C d_Cm_root_33 rfl ?_
      refine q_let (fun x10 e10 => ?_)
      refine q_topl e10 ?_
      refine q_lstore_n (pc' := 35) (lv' := [(2, .long x10), (4, .long a3.2.1), (6, .long a3.2.2)]) C d_Cm_root_34 (by decide) rfl rfl ?_
      refine q_lload (pc' := 37) C 1 d_Cm_root_35 rfl rfl ?_
      refine q_iconst (pc' := 38) C d_Cm_root_37 ki_1 rfl ?_
      refine q_lshr (pc' := 39) C d_Cm_root_38 rfl ?_
      refine q_lload (pc' := 41) C 2 d_Cm_root_39 rfl rfl ?_
      refine q_ladd (pc' := 42) C d_Cm_root_41 rfl ?_
      refine q_let (fun x11 e11 => ?_)
      refine q_topl e11 ?_
      refine q_lstore (pc' := 44) (lv' := [(4, .long x11), (2, .long x10), (6, .long a3.2.2)]) C d_Cm_root_42 (by decide) rfl rfl ?_
      refine q_goto (tgt := 53) C d_Cm_root_44 rfl ?_
      exact Rt.sub [1, 0, 2] rfl (hJ7 x10 x11)
theorem d_Cm_distance_0 : decode qC_Cm_distance.1 0 = .ok (.iload_n 2, 1) := by decide +kernel
theorem d_Cm_distance_1 : decode qC_Cm_distance.1 1 = .ok (.i2l, 1) := by decide +kernel
theorem d_Cm_distance_2 : decode qC_Cm_distance.1 2 = .ok (.iload_n 0, 1) := by decide +kernel
theorem d_Cm_distance_3 : decode qC_Cm_distance.1 3 = .ok (.i2l, 1) := by decide +kernel
theorem d_Cm_distance_4 : decode qC_Cm_distance.1 4 = .ok (.lsub, 1) := by decide +kernel
theorem d_Cm_distance_5 : decode qC_Cm_distance.1 5 = .ok (.lstore 4, 2) := by decide +kernel
theorem d_Cm_distance_7 : decode qC_Cm_distance.1 7 = .ok (.iload_n 3, 1) := by decide +kernel
theorem d_Cm_distance_8 : decode qC_Cm_distance.1 8 = .ok (.i2l, 1) := by decide +kernel
theorem d_Cm_distance_9 : decode qC_Cm_distance.1 9 = .ok (.iload_n 1, 1) := by decide +kernel
theorem d_Cm_distance_10 : decode qC_Cm_distance.1 10 = .ok (.i2l, 1) := by decide +kernel
theorem d_Cm_distance_11 : decode qC_Cm_distance.1 11 = .ok (.lsub, 1) := by decide +kernel
theorem d_Cm_distance_12 : decode qC_Cm_distance.1 12 = .ok (.lstore 6, 2) := by decide +kernel
theorem d_Cm_distance_14 : decode qC_Cm_distance.1 14 = .ok (.lload 4, 2) := by decide +kernel
theorem d_Cm_distance_16 : decode qC_Cm_distance.1 16 = .ok (.lload 4, 2) := by decide +kernel
theorem d_Cm_distance_18 : decode qC_Cm_distance.1 18 = .ok (.lmul, 1) := by decide +kernel
theorem d_Cm_distance_19 : decode qC_Cm_distance.1 19 = .ok (.lload 6, 2) := by decide +kernel
theorem d_Cm_distance_21 : decode qC_Cm_distance.1 21 = .ok (.lload 6, 2) := by decide +kernel
theorem d_Cm_distance_23 : decode qC_Cm_distance.1 23 = .ok (.lmul, 1) := by decide +kernel
theorem d_Cm_distance_24 : decode qC_Cm_distance.1 24 = .ok (.ladd, 1) := by decide +kernel
theorem d_Cm_distance_25 : decode qC_Cm_distance.1 25 = .ok (.invokestatic 24, 3) := by decide +kernel
theorem d_Cm_distance_28 : decode qC_Cm_distance.1 28 = .ok (.ireturn, 1) := by decide +kernel
set_option maxRecDepth 100000 in
def f_Cm_distance (p0 : Int32) (p1 : Int32) (p2 : Int32) (p3 : Int32) : Option (Int32) :=
  Lt (((Int32.toInt64 p2) - (Int32.toInt64 p0)) : Int64) fun x1 =>
  Lt (((Int32.toInt64 p3) - (Int32.toInt64 p1)) : Int64) fun x2 =>
  Option.bind (f_Cm_root ((x1 * x1) + (x2 * x2))) fun x3 =>
  some x3
set_option maxHeartbeats 4000000 in
set_option maxRecDepth 100000 in
theorem cC_Cm_distance (l : Launch) (g : Ge) (hi : injB wC.2 g) (σ : St) (p0 : Int32) (p1 : Int32) (p2 : Int32) (p3 : Int32) (x : Int32) (h : f_Cm_distance p0 p1 p2 p3 = some x) : Ct l wC g yC_Cm_distance qC_Cm_distance 1 27 [.int p0, .int p1, .int p2, .int p3] σ (some (.int x), σ) := by
  refine Ct.of (out := (o_r σ)) FC_Cm_distance rfl hi rfl h (fun z hz C => ?_)
  clear h
  subst hz
  unfold f_Cm_distance
  show Rt z qC_Cm_distance wC g (o_r σ) 0 [(0, .int p0), (1, .int p1), (2, .int p2), (3, .int p3)] [] σ _
  refine q_iload_n (pc' := 1) C 2 d_Cm_distance_0 rfl rfl ?_
  refine q_i2l (pc' := 2) C d_Cm_distance_1 rfl ?_
  refine q_iload_n (pc' := 3) C 0 d_Cm_distance_2 rfl rfl ?_
  refine q_i2l (pc' := 4) C d_Cm_distance_3 rfl ?_
  refine q_lsub (pc' := 5) C d_Cm_distance_4 rfl ?_
  refine q_let (fun x1 e1 => ?_)
  refine q_topl e1 ?_
  refine q_lstore (pc' := 7) (lv' := [(4, .long x1), (0, .int p0), (1, .int p1), (2, .int p2), (3, .int p3)]) C d_Cm_distance_5 (by decide) rfl rfl ?_
  refine q_iload_n (pc' := 8) C 4 d_Cm_distance_7 rfl rfl ?_
  refine q_i2l (pc' := 9) C d_Cm_distance_8 rfl ?_
  refine q_iload_n (pc' := 10) C 2 d_Cm_distance_9 rfl rfl ?_
  refine q_i2l (pc' := 11) C d_Cm_distance_10 rfl ?_
  refine q_lsub (pc' := 12) C d_Cm_distance_11 rfl ?_
  refine q_let (fun x2 e2 => ?_)
  refine q_topl e2 ?_
  refine q_lstore (pc' := 14) (lv' := [(6, .long x2), (4, .long x1), (0, .int p0), (1, .int p1), (2, .int p2), (3, .int p3)]) C d_Cm_distance_12 (by decide) rfl rfl ?_
  refine q_lload (pc' := 16) C 1 d_Cm_distance_14 rfl rfl ?_
  refine q_lload (pc' := 18) C 1 d_Cm_distance_16 rfl rfl ?_
  refine q_lmul (pc' := 19) C d_Cm_distance_18 rfl ?_
  refine q_lload (pc' := 21) C 0 d_Cm_distance_19 rfl rfl ?_
  refine q_lload (pc' := 23) C 0 d_Cm_distance_21 rfl rfl ?_
  refine q_lmul (pc' := 24) C d_Cm_distance_23 rfl ?_
  refine q_ladd (pc' := 25) C d_Cm_distance_24 rfl ?_
  refine q_callSr (fr' := 0) (lo' := 0) (pc' := 28) C FC_Cm_root lmC_Cm_24 d_Cm_distance_25 [.long ((x1 * x1) + (x2 * x2))] [] rfl rfl (Nat.le_of_ble_eq_true rfl) ⟨rfl, rfl⟩ (fun x h => cC_Cm_root _ g hi σ ((x1 * x1) + (x2 * x2)) x h) rfl (fun x3 hx3 => ?_)
  exact q_iret C rfl d_Cm_distance_28 rfl
theorem d_Cm_courseBetween_0 : decode qC_Cm_courseBetween.1 0 = .ok (.iload_n 2, 1) := by decide +kernel
theorem d_Cm_courseBetween_1 : decode qC_Cm_courseBetween.1 1 = .ok (.i2l, 1) := by decide +kernel
theorem d_Cm_courseBetween_2 : decode qC_Cm_courseBetween.1 2 = .ok (.iload_n 0, 1) := by decide +kernel
theorem d_Cm_courseBetween_3 : decode qC_Cm_courseBetween.1 3 = .ok (.i2l, 1) := by decide +kernel
theorem d_Cm_courseBetween_4 : decode qC_Cm_courseBetween.1 4 = .ok (.lsub, 1) := by decide +kernel
theorem d_Cm_courseBetween_5 : decode qC_Cm_courseBetween.1 5 = .ok (.lstore 4, 2) := by decide +kernel
theorem d_Cm_courseBetween_7 : decode qC_Cm_courseBetween.1 7 = .ok (.iload_n 3, 1) := by decide +kernel
theorem d_Cm_courseBetween_8 : decode qC_Cm_courseBetween.1 8 = .ok (.i2l, 1) := by decide +kernel
theorem d_Cm_courseBetween_9 : decode qC_Cm_courseBetween.1 9 = .ok (.iload_n 1, 1) := by decide +kernel
theorem d_Cm_courseBetween_10 : decode qC_Cm_courseBetween.1 10 = .ok (.i2l, 1) := by decide +kernel
theorem d_Cm_courseBetween_11 : decode qC_Cm_courseBetween.1 11 = .ok (.lsub, 1) := by decide +kernel
theorem d_Cm_courseBetween_12 : decode qC_Cm_courseBetween.1 12 = .ok (.lstore 6, 2) := by decide +kernel
theorem d_Cm_courseBetween_14 : decode qC_Cm_courseBetween.1 14 = .ok (.iconst 0, 1) := by decide +kernel
theorem d_Cm_courseBetween_15 : decode qC_Cm_courseBetween.1 15 = .ok (.istore 8, 2) := by decide +kernel
theorem d_Cm_courseBetween_17 : decode qC_Cm_courseBetween.1 17 = .ok (.lload 4, 2) := by decide +kernel
theorem d_Cm_courseBetween_19 : decode qC_Cm_courseBetween.1 19 = .ok (.iconst 0, 1) := by decide +kernel
theorem d_Cm_courseBetween_20 : decode qC_Cm_courseBetween.1 20 = .ok (.invokestatic 15, 3) := by decide +kernel
theorem d_Cm_courseBetween_23 : decode qC_Cm_courseBetween.1 23 = .ok (.i2l, 1) := by decide +kernel
theorem d_Cm_courseBetween_24 : decode qC_Cm_courseBetween.1 24 = .ok (.lmul, 1) := by decide +kernel
theorem d_Cm_courseBetween_25 : decode qC_Cm_courseBetween.1 25 = .ok (.lload 6, 2) := by decide +kernel
theorem d_Cm_courseBetween_27 : decode qC_Cm_courseBetween.1 27 = .ok (.iconst 0, 1) := by decide +kernel
theorem d_Cm_courseBetween_28 : decode qC_Cm_courseBetween.1 28 = .ok (.invokestatic 21, 3) := by decide +kernel
theorem d_Cm_courseBetween_31 : decode qC_Cm_courseBetween.1 31 = .ok (.i2l, 1) := by decide +kernel
theorem d_Cm_courseBetween_32 : decode qC_Cm_courseBetween.1 32 = .ok (.lmul, 1) := by decide +kernel
theorem d_Cm_courseBetween_33 : decode qC_Cm_courseBetween.1 33 = .ok (.ladd, 1) := by decide +kernel
theorem d_Cm_courseBetween_34 : decode qC_Cm_courseBetween.1 34 = .ok (.lstore 9, 2) := by decide +kernel
theorem d_Cm_courseBetween_36 : decode qC_Cm_courseBetween.1 36 = .ok (.iconst 1, 1) := by decide +kernel
theorem d_Cm_courseBetween_37 : decode qC_Cm_courseBetween.1 37 = .ok (.istore 11, 2) := by decide +kernel
theorem d_Cm_courseBetween_39 : decode qC_Cm_courseBetween.1 39 = .ok (.iload 11, 2) := by decide +kernel
theorem d_Cm_courseBetween_41 : decode qC_Cm_courseBetween.1 41 = .ok (.bipush 23, 2) := by decide +kernel
theorem d_Cm_courseBetween_43 : decode qC_Cm_courseBetween.1 43 = .ok (.if_icmp .gt 46, 3) := by decide +kernel
theorem d_Cm_courseBetween_46 : decode qC_Cm_courseBetween.1 46 = .ok (.lload 4, 2) := by decide +kernel
theorem d_Cm_courseBetween_48 : decode qC_Cm_courseBetween.1 48 = .ok (.iload 11, 2) := by decide +kernel
theorem d_Cm_courseBetween_50 : decode qC_Cm_courseBetween.1 50 = .ok (.invokestatic 15, 3) := by decide +kernel
theorem d_Cm_courseBetween_53 : decode qC_Cm_courseBetween.1 53 = .ok (.i2l, 1) := by decide +kernel
theorem d_Cm_courseBetween_54 : decode qC_Cm_courseBetween.1 54 = .ok (.lmul, 1) := by decide +kernel
theorem d_Cm_courseBetween_55 : decode qC_Cm_courseBetween.1 55 = .ok (.lload 6, 2) := by decide +kernel
theorem d_Cm_courseBetween_57 : decode qC_Cm_courseBetween.1 57 = .ok (.iload 11, 2) := by decide +kernel
theorem d_Cm_courseBetween_59 : decode qC_Cm_courseBetween.1 59 = .ok (.invokestatic 21, 3) := by decide +kernel
theorem d_Cm_courseBetween_62 : decode qC_Cm_courseBetween.1 62 = .ok (.i2l, 1) := by decide +kernel
theorem d_Cm_courseBetween_63 : decode qC_Cm_courseBetween.1 63 = .ok (.lmul, 1) := by decide +kernel
theorem d_Cm_courseBetween_64 : decode qC_Cm_courseBetween.1 64 = .ok (.ladd, 1) := by decide +kernel
theorem d_Cm_courseBetween_65 : decode qC_Cm_courseBetween.1 65 = .ok (.lstore 12, 2) := by decide +kernel
theorem d_Cm_courseBetween_67 : decode qC_Cm_courseBetween.1 67 = .ok (.lload 12, 2) := by decide +kernel
theorem d_Cm_courseBetween_69 : decode qC_Cm_courseBetween.1 69 = .ok (.lload 9, 2) := by decide +kernel
theorem d_Cm_courseBetween_71 : decode qC_Cm_courseBetween.1 71 = .ok (.lcmp, 1) := by decide +kernel
theorem d_Cm_courseBetween_72 : decode qC_Cm_courseBetween.1 72 = .ok (.ifCond .le 11, 3) := by decide +kernel
theorem d_Cm_courseBetween_75 : decode qC_Cm_courseBetween.1 75 = .ok (.lload 12, 2) := by decide +kernel
theorem d_Cm_courseBetween_77 : decode qC_Cm_courseBetween.1 77 = .ok (.lstore 9, 2) := by decide +kernel
theorem d_Cm_courseBetween_79 : decode qC_Cm_courseBetween.1 79 = .ok (.iload 11, 2) := by decide +kernel
theorem d_Cm_courseBetween_81 : decode qC_Cm_courseBetween.1 81 = .ok (.istore 8, 2) := by decide +kernel
theorem d_Cm_courseBetween_83 : decode qC_Cm_courseBetween.1 83 = .ok (.iinc 11 1, 3) := by decide +kernel
theorem d_Cm_courseBetween_86 : decode qC_Cm_courseBetween.1 86 = .ok (.goto (-47), 3) := by decide +kernel
theorem d_Cm_courseBetween_89 : decode qC_Cm_courseBetween.1 89 = .ok (.iload 8, 2) := by decide +kernel
theorem d_Cm_courseBetween_91 : decode qC_Cm_courseBetween.1 91 = .ok (.ireturn, 1) := by decide +kernel
set_option maxRecDepth 100000 in
def lb_f_Cm_courseBetween_39 (σ : St) (x1 : Int64) (x2 : Int64) (J7 : Int32 → Option (Int32)) (ih9 : Int32 × Int64 × Int32 → Option (Int32)) (a8 : Int32 × Int64 × Int32) : Option (Int32) :=
  if ((23 : Int32) : Int32) < a8.2.2 then (
  J7 a8.1
  ) else (
  Option.bind (f_Cm_east σ a8.2.2) fun x10 =>
  Option.bind (f_Cm_north σ a8.2.2) fun x11 =>
  Lt (((x1 * (Int32.toInt64 x10)) + (x2 * (Int32.toInt64 x11))) : Int64) fun x12 =>
  Jn (fun (x13 : Int32) (x14 : Int64) =>
  Lt (a8.2.2 + (1 : Int32) : Int32) fun x16 =>
  ih9 (x13, x14, x16)
  ) fun J15 =>
  if (x12 : Int64) ≤ a8.2.1 then (
  J15 a8.1 a8.2.1
  ) else (
  J15 a8.2.2 x12
  )
  )
set_option maxRecDepth 100000 in
def f_Cm_courseBetween (σ : St) (p0 : Int32) (p1 : Int32) (p2 : Int32) (p3 : Int32) : Option (Int32) :=
  Lt (((Int32.toInt64 p2) - (Int32.toInt64 p0)) : Int64) fun x1 =>
  Lt (((Int32.toInt64 p3) - (Int32.toInt64 p1)) : Int64) fun x2 =>
  Option.bind (f_Cm_east σ (0 : Int32)) fun x3 =>
  Option.bind (f_Cm_north σ (0 : Int32)) fun x4 =>
  Lt (((x1 * (Int32.toInt64 x3)) + (x2 * (Int32.toInt64 x4))) : Int64) fun x5 =>
  Jn (fun (x6 : Int32) =>
  some x6
  ) fun J7 =>
  lp (lb_f_Cm_courseBetween_39 σ x1 x2 J7) 4000 ((0 : Int32), x5, (1 : Int32))
set_option maxHeartbeats 4000000 in
set_option maxRecDepth 100000 in
theorem cC_Cm_courseBetween (l : Launch) (g : Ge) (hi : injB wC.2 g) (σ : St) (p0 : Int32) (p1 : Int32) (p2 : Int32) (p3 : Int32) (x : Int32) (h : f_Cm_courseBetween σ p0 p1 p2 p3 = some x) : Ct l wC g yC_Cm_courseBetween qC_Cm_courseBetween 1 20 [.int p0, .int p1, .int p2, .int p3] σ (some (.int x), σ) := by
  refine Ct.of (out := (o_r σ)) FC_Cm_courseBetween rfl hi rfl h (fun z hz C => ?_)
  clear h
  subst hz
  unfold f_Cm_courseBetween
  show Rt z qC_Cm_courseBetween wC g (o_r σ) 0 [(0, .int p0), (1, .int p1), (2, .int p2), (3, .int p3)] [] σ _
  refine q_iload_n (pc' := 1) C 2 d_Cm_courseBetween_0 rfl rfl ?_
  refine q_i2l (pc' := 2) C d_Cm_courseBetween_1 rfl ?_
  refine q_iload_n (pc' := 3) C 0 d_Cm_courseBetween_2 rfl rfl ?_
  refine q_i2l (pc' := 4) C d_Cm_courseBetween_3 rfl ?_
  refine q_lsub (pc' := 5) C d_Cm_courseBetween_4 rfl ?_
  refine q_let (fun x1 e1 => ?_)
  refine q_topl e1 ?_
  refine q_lstore (pc' := 7) (lv' := [(4, .long x1), (0, .int p0), (1, .int p1), (2, .int p2), (3, .int p3)]) C d_Cm_courseBetween_5 (by decide) rfl rfl ?_
  refine q_iload_n (pc' := 8) C 4 d_Cm_courseBetween_7 rfl rfl ?_
  refine q_i2l (pc' := 9) C d_Cm_courseBetween_8 rfl ?_
  refine q_iload_n (pc' := 10) C 2 d_Cm_courseBetween_9 rfl rfl ?_
  refine q_i2l (pc' := 11) C d_Cm_courseBetween_10 rfl ?_
  refine q_lsub (pc' := 12) C d_Cm_courseBetween_11 rfl ?_
  refine q_let (fun x2 e2 => ?_)
  refine q_topl e2 ?_
  refine q_lstore (pc' := 14) (lv' := [(6, .long x2), (4, .long x1), (0, .int p0), (1, .int p1), (2, .int p2), (3, .int p3)]) C d_Cm_courseBetween_12 (by decide) rfl rfl ?_
  refine q_iconst (pc' := 15) C d_Cm_courseBetween_14 ki_0 rfl ?_
  refine q_istore (pc' := 17) (lv' := [(8, .int (0 : Int32)), (6, .long x2), (4, .long x1), (0, .int p0), (1, .int p1), (2, .int p2), (3, .int p3)]) C d_Cm_courseBetween_15 (by decide) rfl rfl ?_
  refine q_lload (pc' := 19) C 2 d_Cm_courseBetween_17 rfl rfl ?_
  refine q_iconst (pc' := 20) C d_Cm_courseBetween_19 ki_0 rfl ?_
  refine q_callSr (fr' := 0) (lo' := 0) (pc' := 23) C FC_Cm_east lmC_Cm_15 d_Cm_courseBetween_20 [.int (0 : Int32)] [.long x1] rfl rfl (Nat.le_of_ble_eq_true rfl) ⟨rfl, rfl⟩ (fun x h => cC_Cm_east _ g hi σ (0 : Int32) x h) rfl (fun x3 hx3 => ?_)
  refine q_i2l (pc' := 24) C d_Cm_courseBetween_23 rfl ?_
  refine q_lmul (pc' := 25) C d_Cm_courseBetween_24 rfl ?_
  refine q_lload (pc' := 27) C 1 d_Cm_courseBetween_25 rfl rfl ?_
  refine q_iconst (pc' := 28) C d_Cm_courseBetween_27 ki_0 rfl ?_
  refine q_callSr (fr' := 0) (lo' := 0) (pc' := 31) C FC_Cm_north lmC_Cm_21 d_Cm_courseBetween_28 [.int (0 : Int32)] [.long x2, .long (x1 * (Int32.toInt64 x3))] rfl rfl (Nat.le_of_ble_eq_true rfl) ⟨rfl, rfl⟩ (fun x h => cC_Cm_north _ g hi σ (0 : Int32) x h) rfl (fun x4 hx4 => ?_)
  refine q_i2l (pc' := 32) C d_Cm_courseBetween_31 rfl ?_
  refine q_lmul (pc' := 33) C d_Cm_courseBetween_32 rfl ?_
  refine q_ladd (pc' := 34) C d_Cm_courseBetween_33 rfl ?_
  refine q_let (fun x5 e5 => ?_)
  refine q_topl e5 ?_
  refine q_lstore (pc' := 36) (lv' := [(9, .long x5), (8, .int (0 : Int32)), (6, .long x2), (4, .long x1), (0, .int p0), (1, .int p1), (2, .int p2), (3, .int p3)]) C d_Cm_courseBetween_34 (by decide) rfl rfl ?_
  refine q_iconst (pc' := 37) C d_Cm_courseBetween_36 ki_1 rfl ?_
  refine q_istore (pc' := 39) (lv' := [(11, .int (1 : Int32)), (9, .long x5), (8, .int (0 : Int32)), (6, .long x2), (4, .long x1), (0, .int p0), (1, .int p1), (2, .int p2), (3, .int p3)]) C d_Cm_courseBetween_37 (by decide) rfl rfl ?_
  refine q_join (fun J7 : Int32 → Option (Int32) => ∀ (x6 : Int32), Rt z qC_Cm_courseBetween wC g (o_r σ) 89 [(8, .int x6)] [] σ (J7 x6)) (fun x6 => ?_) (fun J7 hJ7 => ?_)
  · refine q_iload (pc' := 91) C 0 d_Cm_courseBetween_89 rfl rfl ?_
    exact q_iret C rfl d_Cm_courseBetween_91 rfl
  refine Rt.sub [4, 3, 2, 1, 0] rfl (q_lp (fun a8 : Int32 × Int64 × Int32 => [(4, .long x1), (6, .long x2), (8, .int a8.1), (9, .long a8.2.1), (11, .int a8.2.2)]) (fun a8 => []) (fun a8 => σ) (fun ih9 hih9 a8 => ?_) 4000 ((0 : Int32), x5, (1 : Int32)))
  unfold lb_f_Cm_courseBetween_39
  refine q_iload (pc' := 41) C 4 d_Cm_courseBetween_39 rfl rfl ?_
  refine q_bipush (pc' := 43) C d_Cm_courseBetween_41 kb_23 rfl ?_
  refine q_icmp_gt (tgt := 89) (pc' := 46) C d_Cm_courseBetween_43 rfl rfl ?_ ?_
  · exact Rt.sub [2] rfl (hJ7 a8.1)
  · refine q_lload (pc' := 48) C 0 d_Cm_courseBetween_46 rfl rfl ?_
    refine q_iload (pc' := 50) C 4 d_Cm_courseBetween_48 rfl rfl ?_
    refine q_callSr (fr' := 0) (lo' := 0) (pc' := 53) C FC_Cm_east lmC_Cm_15 d_Cm_courseBetween_50 [.int a8.2.2] [.long x1] rfl rfl (Nat.le_of_ble_eq_true rfl) ⟨rfl, rfl⟩ (fun x h => cC_Cm_east _ g hi σ a8.2.2 x h) rfl (fun x10 hx10 => ?_)
    refine q_i2l (pc' := 54) C d_Cm_courseBetween_53 rfl ?_
    refine q_lmul (pc' := 55) C d_Cm_courseBetween_54 rfl ?_
    refine q_lload (pc' := 57) C 1 d_Cm_courseBetween_55 rfl rfl ?_
    refine q_iload (pc' := 59) C 4 d_Cm_courseBetween_57 rfl rfl ?_
    refine q_callSr (fr' := 0) (lo' := 0) (pc' := 62) C FC_Cm_north lmC_Cm_21 d_Cm_courseBetween_59 [.int a8.2.2] [.long x2, .long (x1 * (Int32.toInt64 x10))] rfl rfl (Nat.le_of_ble_eq_true rfl) ⟨rfl, rfl⟩ (fun x h => cC_Cm_north _ g hi σ a8.2.2 x h) rfl (fun x11 hx11 => ?_)
    refine q_i2l (pc' := 63) C d_Cm_courseBetween_62 rfl ?_
    refine q_lmul (pc' := 64) C d_Cm_courseBetween_63 rfl ?_
    refine q_ladd (pc' := 65) C d_Cm_courseBetween_64 rfl ?_
    refine q_let (fun x12 e12 => ?_)
    refine q_topl e12 ?_
    refine q_lstore (pc' := 67) (lv' := [(12, .long x12), (4, .long x1), (6, .long x2), (8, .int a8.1), (9, .long a8.2.1), (11, .int a8.2.2)]) C d_Cm_courseBetween_65 (by decide) rfl rfl ?_
    refine q_lload (pc' := 69) C 0 d_Cm_courseBetween_67 rfl rfl ?_
    refine q_lload (pc' := 71) C 4 d_Cm_courseBetween_69 rfl rfl ?_
    refine q_join (fun J15 : Int32 → Int64 → Option (Int32) => ∀ (x13 : Int32) (x14 : Int64), Rt z qC_Cm_courseBetween wC g (o_r σ) 83 [(4, .long x1), (6, .long x2), (8, .int x13), (9, .long x14), (11, .int a8.2.2)] [] σ (J15 x13 x14)) (fun x13 x14 => ?_) (fun J15 hJ15 => ?_)
    · refine q_let (fun x16 e16 => ?_)
      refine q_iinc (pc' := 86) (lv' := [(11, .int x16), (4, .long x1), (6, .long x2), (8, .int x13), (9, .long x14)]) C 4 d_Cm_courseBetween_83 rfl (by rw [e16, ki_1]) (by decide) rfl rfl ?_
      refine q_goto (tgt := 39) C d_Cm_courseBetween_86 rfl ?_
      exact Rt.sub [1, 2, 3, 4, 0] rfl (hih9 (x13, x14, x16))
    refine q_lcmp_le (tgt := 83) (pc' := 75) C d_Cm_courseBetween_71 d_Cm_courseBetween_72 rfl rfl ?_ ?_
    · exact Rt.sub [1, 2, 3, 4, 5] rfl (hJ15 a8.1 a8.2.1)
    · refine q_lload (pc' := 77) C 0 d_Cm_courseBetween_75 rfl rfl ?_
      refine q_lstore (pc' := 79) (lv' := [(9, .long x12), (12, .long x12), (4, .long x1), (6, .long x2), (8, .int a8.1), (11, .int a8.2.2)]) C d_Cm_courseBetween_77 (by decide) rfl rfl ?_
      refine q_iload (pc' := 81) C 5 d_Cm_courseBetween_79 rfl rfl ?_
      refine q_istore (pc' := 83) (lv' := [(8, .int a8.2.2), (9, .long x12), (12, .long x12), (4, .long x1), (6, .long x2), (11, .int a8.2.2)]) C d_Cm_courseBetween_81 (by decide) rfl rfl ?_
      exact Rt.sub [3, 4, 0, 1, 5] rfl (hJ15 a8.2.2 x12)
theorem d_Cm_before_0 : decode qC_Cm_before.1 0 = .ok (.iload_n 3, 1) := by decide +kernel
theorem d_Cm_before_1 : decode qC_Cm_before.1 1 = .ok (.ifCond .ne 5, 3) := by decide +kernel
theorem d_Cm_before_4 : decode qC_Cm_before.1 4 = .ok (.iload_n 1, 1) := by decide +kernel
theorem d_Cm_before_5 : decode qC_Cm_before.1 5 = .ok (.ireturn, 1) := by decide +kernel
theorem d_Cm_before_6 : decode qC_Cm_before.1 6 = .ok (.iload_n 2, 1) := by decide +kernel
theorem d_Cm_before_7 : decode qC_Cm_before.1 7 = .ok (.iload_n 3, 1) := by decide +kernel
theorem d_Cm_before_8 : decode qC_Cm_before.1 8 = .ok (.if_icmp .le 5, 3) := by decide +kernel
theorem d_Cm_before_11 : decode qC_Cm_before.1 11 = .ok (.iload_n 0, 1) := by decide +kernel
theorem d_Cm_before_12 : decode qC_Cm_before.1 12 = .ok (.ireturn, 1) := by decide +kernel
theorem d_Cm_before_13 : decode qC_Cm_before.1 13 = .ok (.iload_n 1, 1) := by decide +kernel
theorem d_Cm_before_14 : decode qC_Cm_before.1 14 = .ok (.i2l, 1) := by decide +kernel
theorem d_Cm_before_15 : decode qC_Cm_before.1 15 = .ok (.iload_n 0, 1) := by decide +kernel
theorem d_Cm_before_16 : decode qC_Cm_before.1 16 = .ok (.i2l, 1) := by decide +kernel
theorem d_Cm_before_17 : decode qC_Cm_before.1 17 = .ok (.iload_n 1, 1) := by decide +kernel
theorem d_Cm_before_18 : decode qC_Cm_before.1 18 = .ok (.i2l, 1) := by decide +kernel
theorem d_Cm_before_19 : decode qC_Cm_before.1 19 = .ok (.lsub, 1) := by decide +kernel
theorem d_Cm_before_20 : decode qC_Cm_before.1 20 = .ok (.iload_n 2, 1) := by decide +kernel
theorem d_Cm_before_21 : decode qC_Cm_before.1 21 = .ok (.i2l, 1) := by decide +kernel
theorem d_Cm_before_22 : decode qC_Cm_before.1 22 = .ok (.lmul, 1) := by decide +kernel
theorem d_Cm_before_23 : decode qC_Cm_before.1 23 = .ok (.iload_n 3, 1) := by decide +kernel
theorem d_Cm_before_24 : decode qC_Cm_before.1 24 = .ok (.i2l, 1) := by decide +kernel
theorem d_Cm_before_25 : decode qC_Cm_before.1 25 = .ok (.ldiv, 1) := by decide +kernel
theorem d_Cm_before_26 : decode qC_Cm_before.1 26 = .ok (.ladd, 1) := by decide +kernel
theorem d_Cm_before_27 : decode qC_Cm_before.1 27 = .ok (.l2i, 1) := by decide +kernel
theorem d_Cm_before_28 : decode qC_Cm_before.1 28 = .ok (.ireturn, 1) := by decide +kernel
set_option maxRecDepth 100000 in
def f_Cm_before (p0 : Int32) (p1 : Int32) (p2 : Int32) (p3 : Int32) : Option (Int32) :=
  if (p3 : Int32) = 0 then (
  some p1
  ) else (
  if (p2 : Int32) ≤ p3 then (
  Gd (¬ ((Int32.toInt64 p3) : Int64) = 0) <|
  some (Int64.toInt32 ((Int32.toInt64 p1) + ((((Int32.toInt64 p0) - (Int32.toInt64 p1)) * (Int32.toInt64 p2)) / (Int32.toInt64 p3))))
  ) else (
  some p0
  )
  )
set_option maxHeartbeats 4000000 in
set_option maxRecDepth 100000 in
theorem cC_Cm_before (l : Launch) (g : Ge) (hi : injB wC.2 g) (σ : St) (p0 : Int32) (p1 : Int32) (p2 : Int32) (p3 : Int32) (x : Int32) (h : f_Cm_before p0 p1 p2 p3 = some x) : Ct l wC g yC_Cm_before qC_Cm_before 0 0 [.int p0, .int p1, .int p2, .int p3] σ (some (.int x), σ) := by
  refine Ct.of (out := (o_r σ)) FC_Cm_before rfl hi rfl h (fun z hz C => ?_)
  clear h
  subst hz
  unfold f_Cm_before
  show Rt z qC_Cm_before wC g (o_r σ) 0 [(0, .int p0), (1, .int p1), (2, .int p2), (3, .int p3)] [] σ _
  refine q_iload_n (pc' := 1) C 3 d_Cm_before_0 rfl rfl ?_
  refine q_if_ne (tgt := 6) (pc' := 4) C d_Cm_before_1 rfl rfl ?_ ?_
  · refine q_iload_n (pc' := 7) C 2 d_Cm_before_6 rfl rfl ?_
    refine q_iload_n (pc' := 8) C 3 d_Cm_before_7 rfl rfl ?_
    refine q_icmp_le (tgt := 13) (pc' := 11) C d_Cm_before_8 rfl rfl ?_ ?_
    · refine q_iload_n (pc' := 14) C 1 d_Cm_before_13 rfl rfl ?_
      refine q_i2l (pc' := 15) C d_Cm_before_14 rfl ?_
      refine q_iload_n (pc' := 16) C 0 d_Cm_before_15 rfl rfl ?_
      refine q_i2l (pc' := 17) C d_Cm_before_16 rfl ?_
      refine q_iload_n (pc' := 18) C 1 d_Cm_before_17 rfl rfl ?_
      refine q_i2l (pc' := 19) C d_Cm_before_18 rfl ?_
      refine q_lsub (pc' := 20) C d_Cm_before_19 rfl ?_
      refine q_iload_n (pc' := 21) C 2 d_Cm_before_20 rfl rfl ?_
      refine q_i2l (pc' := 22) C d_Cm_before_21 rfl ?_
      refine q_lmul (pc' := 23) C d_Cm_before_22 rfl ?_
      refine q_iload_n (pc' := 24) C 3 d_Cm_before_23 rfl rfl ?_
      refine q_i2l (pc' := 25) C d_Cm_before_24 rfl ?_
      refine q_guard (fun gx1 => ?_)
      refine q_ldiv (pc' := 26) C gx1 d_Cm_before_25 rfl ?_
      refine q_ladd (pc' := 27) C d_Cm_before_26 rfl ?_
      refine q_l2i (pc' := 28) C d_Cm_before_27 rfl ?_
      exact q_iret C rfl d_Cm_before_28 rfl
    · refine q_iload_n (pc' := 12) C 0 d_Cm_before_11 rfl rfl ?_
      exact q_iret C rfl d_Cm_before_12 rfl
  · refine q_iload_n (pc' := 5) C 1 d_Cm_before_4 rfl rfl ?_
    exact q_iret C rfl d_Cm_before_5 rfl
theorem d_Cm_entry_0 : decode qC_Cm_entry.1 0 = .ok (.iload_n 2, 1) := by decide +kernel
theorem d_Cm_entry_1 : decode qC_Cm_entry.1 1 = .ok (.ifCond .eq 9, 3) := by decide +kernel
theorem d_Cm_entry_4 : decode qC_Cm_entry.1 4 = .ok (.iload_n 0, 1) := by decide +kernel
theorem d_Cm_entry_5 : decode qC_Cm_entry.1 5 = .ok (.iload_n 1, 1) := by decide +kernel
theorem d_Cm_entry_6 : decode qC_Cm_entry.1 6 = .ok (.isub, 1) := by decide +kernel
theorem d_Cm_entry_7 : decode qC_Cm_entry.1 7 = .ok (.goto 6, 3) := by decide +kernel
theorem d_Cm_entry_10 : decode qC_Cm_entry.1 10 = .ok (.iload_n 1, 1) := by decide +kernel
theorem d_Cm_entry_11 : decode qC_Cm_entry.1 11 = .ok (.iload_n 0, 1) := by decide +kernel
theorem d_Cm_entry_12 : decode qC_Cm_entry.1 12 = .ok (.isub, 1) := by decide +kernel
theorem d_Cm_entry_13 : decode qC_Cm_entry.1 13 = .ok (.invokestatic 30, 3) := by decide +kernel
theorem d_Cm_entry_16 : decode qC_Cm_entry.1 16 = .ok (.istore_n 3, 1) := by decide +kernel
theorem d_Cm_entry_17 : decode qC_Cm_entry.1 17 = .ok (.iload_n 3, 1) := by decide +kernel
theorem d_Cm_entry_18 : decode qC_Cm_entry.1 18 = .ok (.bipush 7, 2) := by decide +kernel
theorem d_Cm_entry_20 : decode qC_Cm_entry.1 20 = .ok (.if_icmp .le 9, 3) := by decide +kernel
theorem d_Cm_entry_23 : decode qC_Cm_entry.1 23 = .ok (.iload_n 3, 1) := by decide +kernel
theorem d_Cm_entry_24 : decode qC_Cm_entry.1 24 = .ok (.bipush 20, 2) := by decide +kernel
theorem d_Cm_entry_26 : decode qC_Cm_entry.1 26 = .ok (.if_icmp .lt 5, 3) := by decide +kernel
theorem d_Cm_entry_29 : decode qC_Cm_entry.1 29 = .ok (.iconst 0, 1) := by decide +kernel
theorem d_Cm_entry_30 : decode qC_Cm_entry.1 30 = .ok (.ireturn, 1) := by decide +kernel
theorem d_Cm_entry_31 : decode qC_Cm_entry.1 31 = .ok (.iload_n 3, 1) := by decide +kernel
theorem d_Cm_entry_32 : decode qC_Cm_entry.1 32 = .ok (.bipush 11, 2) := by decide +kernel
theorem d_Cm_entry_34 : decode qC_Cm_entry.1 34 = .ok (.if_icmp .gt 7, 3) := by decide +kernel
theorem d_Cm_entry_37 : decode qC_Cm_entry.1 37 = .ok (.iconst 1, 1) := by decide +kernel
theorem d_Cm_entry_38 : decode qC_Cm_entry.1 38 = .ok (.goto 4, 3) := by decide +kernel
theorem d_Cm_entry_41 : decode qC_Cm_entry.1 41 = .ok (.iconst 2, 1) := by decide +kernel
theorem d_Cm_entry_42 : decode qC_Cm_entry.1 42 = .ok (.ireturn, 1) := by decide +kernel
set_option maxRecDepth 100000 in
def f_Cm_entry (p0 : Int32) (p1 : Int32) (p2 : Int32) : Option (Int32) :=
  Jn (fun (x1 : Int32) =>
  Option.bind (f_Cm_course x1) fun x3 =>
  Jn (fun (_ : Unit) =>
  some (0 : Int32)
  ) fun J4 =>
  if (x3 : Int32) ≤ (7 : Int32) then (
  J4 ()
  ) else (
  if (x3 : Int32) < (20 : Int32) then (
  Jn (fun (x5 : Int32) =>
  some x5
  ) fun J6 =>
  if ((11 : Int32) : Int32) < x3 then (
  J6 (2 : Int32)
  ) else (
  J6 (1 : Int32)
  )
  ) else (
  J4 ()
  )
  )
  ) fun J2 =>
  if (p2 : Int32) = 0 then (
  J2 (p1 - p0)
  ) else (
  J2 (p0 - p1)
  )
set_option maxHeartbeats 4000000 in
set_option maxRecDepth 100000 in
theorem cC_Cm_entry (l : Launch) (g : Ge) (hi : injB wC.2 g) (σ : St) (p0 : Int32) (p1 : Int32) (p2 : Int32) (x : Int32) (h : f_Cm_entry p0 p1 p2 = some x) : Ct l wC g yC_Cm_entry qC_Cm_entry 1 20 [.int p0, .int p1, .int p2] σ (some (.int x), σ) := by
  refine Ct.of (out := (o_r σ)) FC_Cm_entry rfl hi rfl h (fun z hz C => ?_)
  clear h
  subst hz
  unfold f_Cm_entry
  show Rt z qC_Cm_entry wC g (o_r σ) 0 [(0, .int p0), (1, .int p1), (2, .int p2)] [] σ _
  refine q_iload_n (pc' := 1) C 2 d_Cm_entry_0 rfl rfl ?_
  refine q_join (fun J2 : Int32 → Option (Int32) => ∀ (x1 : Int32), Rt z qC_Cm_entry wC g (o_r σ) 13 [] [.int x1] σ (J2 x1)) (fun x1 => ?_) (fun J2 hJ2 => ?_)
  · refine q_callSr (fr' := 0) (lo' := 0) (pc' := 16) C FC_Cm_course lmC_Cm_30 d_Cm_entry_13 [.int x1] [] rfl rfl (Nat.le_of_ble_eq_true rfl) ⟨rfl, rfl⟩ (fun x h => cC_Cm_course _ g hi σ x1 x h) rfl (fun x3 hx3 => ?_)
    refine q_istore_n (pc' := 17) (lv' := [(3, .int x3)]) C d_Cm_entry_16 (by decide) rfl rfl ?_
    refine q_iload_n (pc' := 18) C 0 d_Cm_entry_17 rfl rfl ?_
    refine q_bipush (pc' := 20) C d_Cm_entry_18 kb_7 rfl ?_
    refine q_join (fun J4 : Unit → Option (Int32) => ∀ (_ : Unit), Rt z qC_Cm_entry wC g (o_r σ) 29 [] [] σ (J4 ())) (fun _ => ?_) (fun J4 hJ4 => ?_)
    · refine q_iconst (pc' := 30) C d_Cm_entry_29 ki_0 rfl ?_
      exact q_iret C rfl d_Cm_entry_30 rfl
    refine q_icmp_le (tgt := 29) (pc' := 23) C d_Cm_entry_20 rfl rfl ?_ ?_
    · exact Rt.sub [] rfl (hJ4 ())
    · refine q_iload_n (pc' := 24) C 0 d_Cm_entry_23 rfl rfl ?_
      refine q_bipush (pc' := 26) C d_Cm_entry_24 kb_20 rfl ?_
      refine q_icmp_lt (tgt := 31) (pc' := 29) C d_Cm_entry_26 rfl rfl ?_ ?_
      · refine q_iload_n (pc' := 32) C 0 d_Cm_entry_31 rfl rfl ?_
        refine q_bipush (pc' := 34) C d_Cm_entry_32 kb_11 rfl ?_
        refine q_join (fun J6 : Int32 → Option (Int32) => ∀ (x5 : Int32), Rt z qC_Cm_entry wC g (o_r σ) 42 [] [.int x5] σ (J6 x5)) (fun x5 => ?_) (fun J6 hJ6 => ?_)
        · exact q_iret C rfl d_Cm_entry_42 rfl
        refine q_icmp_gt (tgt := 41) (pc' := 37) C d_Cm_entry_34 rfl rfl ?_ ?_
        · refine q_iconst (pc' := 42) C d_Cm_entry_41 ki_2 rfl ?_
          exact Rt.sub [] rfl (hJ6 (2 : Int32))
        · refine q_iconst (pc' := 38) C d_Cm_entry_37 ki_1 rfl ?_
          refine q_goto (tgt := 42) C d_Cm_entry_38 rfl ?_
          exact Rt.sub [] rfl (hJ6 (1 : Int32))
      · exact Rt.sub [] rfl (hJ4 ())
  refine q_if_eq (tgt := 10) (pc' := 4) C d_Cm_entry_1 rfl rfl ?_ ?_
  · refine q_iload_n (pc' := 11) C 1 d_Cm_entry_10 rfl rfl ?_
    refine q_iload_n (pc' := 12) C 0 d_Cm_entry_11 rfl rfl ?_
    refine q_isub (pc' := 13) C d_Cm_entry_12 rfl ?_
    exact Rt.sub [] rfl (hJ2 (p1 - p0))
  · refine q_iload_n (pc' := 5) C 0 d_Cm_entry_4 rfl rfl ?_
    refine q_iload_n (pc' := 6) C 1 d_Cm_entry_5 rfl rfl ?_
    refine q_isub (pc' := 7) C d_Cm_entry_6 rfl ?_
    refine q_goto (tgt := 13) C d_Cm_entry_7 rfl ?_
    exact Rt.sub [] rfl (hJ2 (p0 - p1))
theorem d_Cm_turnRadiusAt_0 : decode qC_Cm_turnRadiusAt.1 0 = .ok (.iconst 1, 1) := by decide +kernel
theorem d_Cm_turnRadiusAt_1 : decode qC_Cm_turnRadiusAt.1 1 = .ok (.iload_n 0, 1) := by decide +kernel
theorem d_Cm_turnRadiusAt_2 : decode qC_Cm_turnRadiusAt.1 2 = .ok (.iload_n 0, 1) := by decide +kernel
theorem d_Cm_turnRadiusAt_3 : decode qC_Cm_turnRadiusAt.1 3 = .ok (.imul, 1) := by decide +kernel
theorem d_Cm_turnRadiusAt_4 : decode qC_Cm_turnRadiusAt.1 4 = .ok (.sipush 3200, 3) := by decide +kernel
theorem d_Cm_turnRadiusAt_7 : decode qC_Cm_turnRadiusAt.1 7 = .ok (.idiv, 1) := by decide +kernel
theorem d_Cm_turnRadiusAt_8 : decode qC_Cm_turnRadiusAt.1 8 = .ok (.invokestatic 33, 3) := by decide +kernel
theorem d_Cm_turnRadiusAt_11 : decode qC_Cm_turnRadiusAt.1 11 = .ok (.ireturn, 1) := by decide +kernel
set_option maxRecDepth 100000 in
def f_Cm_turnRadiusAt (p0 : Int32) : Option (Int32) :=
  some (imax (1 : Int32) ((p0 * p0) / (3200 : Int32)))
set_option maxHeartbeats 4000000 in
set_option maxRecDepth 100000 in
theorem cC_Cm_turnRadiusAt (l : Launch) (g : Ge) (hi : injB wC.2 g) (σ : St) (p0 : Int32) (x : Int32) (h : f_Cm_turnRadiusAt p0 = some x) : Ct l wC g yC_Cm_turnRadiusAt qC_Cm_turnRadiusAt 1 21 [.int p0] σ (some (.int x), σ) := by
  refine Ct.of (out := (o_r σ)) FC_Cm_turnRadiusAt rfl hi rfl h (fun z hz C => ?_)
  clear h
  subst hz
  unfold f_Cm_turnRadiusAt
  show Rt z qC_Cm_turnRadiusAt wC g (o_r σ) 0 [(0, .int p0)] [] σ _
  refine q_iconst (pc' := 1) C d_Cm_turnRadiusAt_0 ki_1 rfl ?_
  refine q_iload_n (pc' := 2) C 0 d_Cm_turnRadiusAt_1 rfl rfl ?_
  refine q_iload_n (pc' := 3) C 0 d_Cm_turnRadiusAt_2 rfl rfl ?_
  refine q_imul (pc' := 4) C d_Cm_turnRadiusAt_3 rfl ?_
  refine q_sipush (pc' := 7) C d_Cm_turnRadiusAt_4 ks_3200 rfl ?_
  refine q_idiv (pc' := 8) C (by decide) d_Cm_turnRadiusAt_7 rfl ?_
  refine q_mmax (pc' := 11) C lj_max_Cm_33 (Nat.le_of_ble_eq_true rfl) ⟨rfl, rfl⟩ d_Cm_turnRadiusAt_8 rfl ?_
  exact q_iret C rfl d_Cm_turnRadiusAt_11 rfl
theorem d_Cm_arcLength_0 : decode qC_Cm_arcLength.1 0 = .ok (.iload_n 0, 1) := by decide +kernel
theorem d_Cm_arcLength_1 : decode qC_Cm_arcLength.1 1 = .ok (.iload_n 1, 1) := by decide +kernel
theorem d_Cm_arcLength_2 : decode qC_Cm_arcLength.1 2 = .ok (.imul, 1) := by decide +kernel
theorem d_Cm_arcLength_3 : decode qC_Cm_arcLength.1 3 = .ok (.sipush 262, 3) := by decide +kernel
theorem d_Cm_arcLength_6 : decode qC_Cm_arcLength.1 6 = .ok (.imul, 1) := by decide +kernel
theorem d_Cm_arcLength_7 : decode qC_Cm_arcLength.1 7 = .ok (.sipush 1000, 3) := by decide +kernel
theorem d_Cm_arcLength_10 : decode qC_Cm_arcLength.1 10 = .ok (.idiv, 1) := by decide +kernel
theorem d_Cm_arcLength_11 : decode qC_Cm_arcLength.1 11 = .ok (.ireturn, 1) := by decide +kernel
set_option maxRecDepth 100000 in
def f_Cm_arcLength (p0 : Int32) (p1 : Int32) : Option (Int32) :=
  some (((p0 * p1) * (262 : Int32)) / (1000 : Int32))
set_option maxHeartbeats 4000000 in
set_option maxRecDepth 100000 in
theorem cC_Cm_arcLength (l : Launch) (g : Ge) (hi : injB wC.2 g) (σ : St) (p0 : Int32) (p1 : Int32) (x : Int32) (h : f_Cm_arcLength p0 p1 = some x) : Ct l wC g yC_Cm_arcLength qC_Cm_arcLength 0 0 [.int p0, .int p1] σ (some (.int x), σ) := by
  refine Ct.of (out := (o_r σ)) FC_Cm_arcLength rfl hi rfl h (fun z hz C => ?_)
  clear h
  subst hz
  unfold f_Cm_arcLength
  show Rt z qC_Cm_arcLength wC g (o_r σ) 0 [(0, .int p0), (1, .int p1)] [] σ _
  refine q_iload_n (pc' := 1) C 0 d_Cm_arcLength_0 rfl rfl ?_
  refine q_iload_n (pc' := 2) C 1 d_Cm_arcLength_1 rfl rfl ?_
  refine q_imul (pc' := 3) C d_Cm_arcLength_2 rfl ?_
  refine q_sipush (pc' := 6) C d_Cm_arcLength_3 ks_262 rfl ?_
  refine q_imul (pc' := 7) C d_Cm_arcLength_6 rfl ?_
  refine q_sipush (pc' := 10) C d_Cm_arcLength_7 ks_1000 rfl ?_
  refine q_idiv (pc' := 11) C (by decide) d_Cm_arcLength_10 rfl ?_
  exact q_iret C rfl d_Cm_arcLength_11 rfl
theorem d_Tb_put_0 : decode qC_Tb_put.1 0 = .ok (.iload_n 1, 1) := by decide +kernel
theorem d_Tb_put_1 : decode qC_Tb_put.1 1 = .ok (.ifCond .lt 37, 3) := by decide +kernel
theorem d_Tb_put_4 : decode qC_Tb_put.1 4 = .ok (.iload_n 1, 1) := by decide +kernel
theorem d_Tb_put_5 : decode qC_Tb_put.1 5 = .ok (.aload_n 0, 1) := by decide +kernel
theorem d_Tb_put_6 : decode qC_Tb_put.1 6 = .ok (.getfield 16, 3) := by decide +kernel
theorem d_Tb_put_9 : decode qC_Tb_put.1 9 = .ok (.if_icmp .ge 29, 3) := by decide +kernel
theorem d_Tb_put_12 : decode qC_Tb_put.1 12 = .ok (.iload_n 2, 1) := by decide +kernel
theorem d_Tb_put_13 : decode qC_Tb_put.1 13 = .ok (.ifCond .lt 25, 3) := by decide +kernel
theorem d_Tb_put_16 : decode qC_Tb_put.1 16 = .ok (.iload_n 2, 1) := by decide +kernel
theorem d_Tb_put_17 : decode qC_Tb_put.1 17 = .ok (.aload_n 0, 1) := by decide +kernel
theorem d_Tb_put_18 : decode qC_Tb_put.1 18 = .ok (.getfield 22, 3) := by decide +kernel
theorem d_Tb_put_21 : decode qC_Tb_put.1 21 = .ok (.if_icmp .ge 17, 3) := by decide +kernel
theorem d_Tb_put_24 : decode qC_Tb_put.1 24 = .ok (.aload_n 0, 1) := by decide +kernel
theorem d_Tb_put_25 : decode qC_Tb_put.1 25 = .ok (.getfield 25, 3) := by decide +kernel
theorem d_Tb_put_28 : decode qC_Tb_put.1 28 = .ok (.iload_n 1, 1) := by decide +kernel
theorem d_Tb_put_29 : decode qC_Tb_put.1 29 = .ok (.aload_n 0, 1) := by decide +kernel
theorem d_Tb_put_30 : decode qC_Tb_put.1 30 = .ok (.getfield 22, 3) := by decide +kernel
theorem d_Tb_put_33 : decode qC_Tb_put.1 33 = .ok (.imul, 1) := by decide +kernel
theorem d_Tb_put_34 : decode qC_Tb_put.1 34 = .ok (.iload_n 2, 1) := by decide +kernel
theorem d_Tb_put_35 : decode qC_Tb_put.1 35 = .ok (.iadd, 1) := by decide +kernel
theorem d_Tb_put_36 : decode qC_Tb_put.1 36 = .ok (.iload_n 3, 1) := by decide +kernel
theorem d_Tb_put_37 : decode qC_Tb_put.1 37 = .ok (.iastore, 1) := by decide +kernel
theorem d_Tb_put_38 : decode qC_Tb_put.1 38 = .ok (.return_, 1) := by decide +kernel
set_option maxRecDepth 100000 in
def f_Tb_put (σ : St) (o : Nat) (p1 : Int32) (p2 : Int32) (p3 : Int32) : Option (St) :=
  Jn (fun (σ1 : St) =>
  some σ1
  ) fun J2 =>
  if (p1 : Int32) < 0 then (
  J2 σ
  ) else (
  if ((σ o 0) : Int32) ≤ p1 then (
  J2 σ
  ) else (
  if (p2 : Int32) < 0 then (
  J2 σ
  ) else (
  if ((σ o 1) : Int32) ≤ p2 then (
  J2 σ
  ) else (
  Gd (Ix ((p1 * (σ o 1)) + p2) (ln (rc o 2))) <|
  Lt (s2 σ (rc o 2) (Int32.toNatClampNeg ((p1 * (σ o 1)) + p2)) p3) fun σ3 =>
  J2 σ3
  )
  )
  )
  )
set_option maxHeartbeats 4000000 in
set_option maxRecDepth 100000 in
theorem cC_Tb_put (l : Launch) (g : Ge) (hi : injB wC.2 g) (σ : St) (o : Nat) (ho : wC.2.2.1 o = .inr (8, 3)) (p1 : Int32) (p2 : Int32) (p3 : Int32) (x : St) (h : f_Tb_put σ o p1 p2 p3 = some x) : Ct l wC g yC_Tb_put qC_Tb_put 0 0 [.ref (g.1 o), .int p1, .int p2, .int p3] σ (none, x) := by
  refine Ct.of (out := o_v) FC_Tb_put rfl hi rfl h (fun z hz C => ?_)
  clear h
  subst hz
  unfold f_Tb_put
  show Rt z qC_Tb_put wC g o_v 0 [(0, .ref (g.1 o)), (1, .int p1), (2, .int p2), (3, .int p3)] [] σ _
  refine q_iload_n (pc' := 1) C 1 d_Tb_put_0 rfl rfl ?_
  refine q_join (fun J2 : St → Option (St) => ∀ (σ1 : St), Rt z qC_Tb_put wC g o_v 38 [] [] σ1 (J2 σ1)) (fun σ1 => ?_) (fun J2 hJ2 => ?_)
  · exact q_vret C rfl d_Tb_put_38 rfl
  refine q_if_lt (tgt := 38) (pc' := 4) C d_Tb_put_1 rfl rfl ?_ ?_
  · exact Rt.sub [] rfl (hJ2 σ)
  · refine q_iload_n (pc' := 5) C 1 d_Tb_put_4 rfl rfl ?_
    refine q_aload_n (pc' := 6) C 0 d_Tb_put_5 rfl rfl ?_
    refine gC_Tb_16 (pc' := 9) C o ho d_Tb_put_6 rfl rfl ?_
    refine q_icmp_ge (tgt := 38) (pc' := 12) C d_Tb_put_9 rfl rfl ?_ ?_
    · exact Rt.sub [] rfl (hJ2 σ)
    · refine q_iload_n (pc' := 13) C 2 d_Tb_put_12 rfl rfl ?_
      refine q_if_lt (tgt := 38) (pc' := 16) C d_Tb_put_13 rfl rfl ?_ ?_
      · exact Rt.sub [] rfl (hJ2 σ)
      · refine q_iload_n (pc' := 17) C 2 d_Tb_put_16 rfl rfl ?_
        refine q_aload_n (pc' := 18) C 0 d_Tb_put_17 rfl rfl ?_
        refine gC_Tb_22 (pc' := 21) C o ho d_Tb_put_18 rfl rfl ?_
        refine q_icmp_ge (tgt := 38) (pc' := 24) C d_Tb_put_21 rfl rfl ?_ ?_
        · exact Rt.sub [] rfl (hJ2 σ)
        · refine q_aload_n (pc' := 25) C 0 d_Tb_put_24 rfl rfl ?_
          refine gC_Tb_25 (pc' := 28) C o (rc o 2) ho (ly_8_2 ho).1 d_Tb_put_25 rfl rfl ?_
          refine q_iload_n (pc' := 29) C 1 d_Tb_put_28 rfl rfl ?_
          refine q_aload_n (pc' := 30) C 0 d_Tb_put_29 rfl rfl ?_
          refine gC_Tb_22 (pc' := 33) C o ho d_Tb_put_30 rfl rfl ?_
          refine q_imul (pc' := 34) C d_Tb_put_33 rfl ?_
          refine q_iload_n (pc' := 35) C 2 d_Tb_put_34 rfl rfl ?_
          refine q_iadd (pc' := 36) C d_Tb_put_35 rfl ?_
          refine q_iload_n (pc' := 37) C 3 d_Tb_put_36 rfl rfl ?_
          refine q_iast (pc' := 38) C (rc o 2) (jCa (ly_8_2 ho).2) (ly_8_2 ho).2 d_Tb_put_37 rfl ?_
          refine q_let (fun σ3 e3 => ?_)
          refine q_state e3 ?_
          exact Rt.sub [] rfl (hJ2 σ3)
theorem d_Tb_copyRows_0 : decode qC_Tb_copyRows.1 0 = .ok (.aload_n 1, 1) := by decide +kernel
theorem d_Tb_copyRows_1 : decode qC_Tb_copyRows.1 1 = .ok (.getfield 22, 3) := by decide +kernel
theorem d_Tb_copyRows_4 : decode qC_Tb_copyRows.1 4 = .ok (.aload_n 0, 1) := by decide +kernel
theorem d_Tb_copyRows_5 : decode qC_Tb_copyRows.1 5 = .ok (.getfield 22, 3) := by decide +kernel
theorem d_Tb_copyRows_8 : decode qC_Tb_copyRows.1 8 = .ok (.if_icmp .ne 16, 3) := by decide +kernel
theorem d_Tb_copyRows_11 : decode qC_Tb_copyRows.1 11 = .ok (.iload 4, 2) := by decide +kernel
theorem d_Tb_copyRows_13 : decode qC_Tb_copyRows.1 13 = .ok (.ifCond .le 11, 3) := by decide +kernel
theorem d_Tb_copyRows_16 : decode qC_Tb_copyRows.1 16 = .ok (.iload_n 2, 1) := by decide +kernel
theorem d_Tb_copyRows_17 : decode qC_Tb_copyRows.1 17 = .ok (.ifCond .lt 7, 3) := by decide +kernel
theorem d_Tb_copyRows_20 : decode qC_Tb_copyRows.1 20 = .ok (.iload_n 3, 1) := by decide +kernel
theorem d_Tb_copyRows_21 : decode qC_Tb_copyRows.1 21 = .ok (.ifCond .ge 4, 3) := by decide +kernel
theorem d_Tb_copyRows_24 : decode qC_Tb_copyRows.1 24 = .ok (.return_, 1) := by decide +kernel
theorem d_Tb_copyRows_25 : decode qC_Tb_copyRows.1 25 = .ok (.iload_n 2, 1) := by decide +kernel
theorem d_Tb_copyRows_26 : decode qC_Tb_copyRows.1 26 = .ok (.aload_n 1, 1) := by decide +kernel
theorem d_Tb_copyRows_27 : decode qC_Tb_copyRows.1 27 = .ok (.getfield 16, 3) := by decide +kernel
theorem d_Tb_copyRows_30 : decode qC_Tb_copyRows.1 30 = .ok (.iload 4, 2) := by decide +kernel
theorem d_Tb_copyRows_32 : decode qC_Tb_copyRows.1 32 = .ok (.isub, 1) := by decide +kernel
theorem d_Tb_copyRows_33 : decode qC_Tb_copyRows.1 33 = .ok (.if_icmp .gt 44, 3) := by decide +kernel
theorem d_Tb_copyRows_36 : decode qC_Tb_copyRows.1 36 = .ok (.iload_n 3, 1) := by decide +kernel
theorem d_Tb_copyRows_37 : decode qC_Tb_copyRows.1 37 = .ok (.aload_n 0, 1) := by decide +kernel
theorem d_Tb_copyRows_38 : decode qC_Tb_copyRows.1 38 = .ok (.getfield 16, 3) := by decide +kernel
theorem d_Tb_copyRows_41 : decode qC_Tb_copyRows.1 41 = .ok (.iload 4, 2) := by decide +kernel
theorem d_Tb_copyRows_43 : decode qC_Tb_copyRows.1 43 = .ok (.isub, 1) := by decide +kernel
theorem d_Tb_copyRows_44 : decode qC_Tb_copyRows.1 44 = .ok (.if_icmp .gt 33, 3) := by decide +kernel
theorem d_Tb_copyRows_47 : decode qC_Tb_copyRows.1 47 = .ok (.aload_n 1, 1) := by decide +kernel
theorem d_Tb_copyRows_48 : decode qC_Tb_copyRows.1 48 = .ok (.getfield 25, 3) := by decide +kernel
theorem d_Tb_copyRows_51 : decode qC_Tb_copyRows.1 51 = .ok (.iload_n 2, 1) := by decide +kernel
theorem d_Tb_copyRows_52 : decode qC_Tb_copyRows.1 52 = .ok (.aload_n 0, 1) := by decide +kernel
theorem d_Tb_copyRows_53 : decode qC_Tb_copyRows.1 53 = .ok (.getfield 22, 3) := by decide +kernel
theorem d_Tb_copyRows_56 : decode qC_Tb_copyRows.1 56 = .ok (.imul, 1) := by decide +kernel
theorem d_Tb_copyRows_57 : decode qC_Tb_copyRows.1 57 = .ok (.aload_n 0, 1) := by decide +kernel
theorem d_Tb_copyRows_58 : decode qC_Tb_copyRows.1 58 = .ok (.getfield 25, 3) := by decide +kernel
theorem d_Tb_copyRows_61 : decode qC_Tb_copyRows.1 61 = .ok (.iload_n 3, 1) := by decide +kernel
theorem d_Tb_copyRows_62 : decode qC_Tb_copyRows.1 62 = .ok (.aload_n 0, 1) := by decide +kernel
theorem d_Tb_copyRows_63 : decode qC_Tb_copyRows.1 63 = .ok (.getfield 22, 3) := by decide +kernel
theorem d_Tb_copyRows_66 : decode qC_Tb_copyRows.1 66 = .ok (.imul, 1) := by decide +kernel
theorem d_Tb_copyRows_67 : decode qC_Tb_copyRows.1 67 = .ok (.iload 4, 2) := by decide +kernel
theorem d_Tb_copyRows_69 : decode qC_Tb_copyRows.1 69 = .ok (.aload_n 0, 1) := by decide +kernel
theorem d_Tb_copyRows_70 : decode qC_Tb_copyRows.1 70 = .ok (.getfield 22, 3) := by decide +kernel
theorem d_Tb_copyRows_73 : decode qC_Tb_copyRows.1 73 = .ok (.imul, 1) := by decide +kernel
theorem d_Tb_copyRows_74 : decode qC_Tb_copyRows.1 74 = .ok (.invokestatic 35, 3) := by decide +kernel
theorem d_Tb_copyRows_77 : decode qC_Tb_copyRows.1 77 = .ok (.return_, 1) := by decide +kernel
set_option maxRecDepth 100000 in
def f_Tb_copyRows (σ : St) (o : Nat) (p1 : Nat) (p2 : Int32) (p3 : Int32) (p4 : Int32) : Option (St) :=
  Jn (fun (_ : Unit) =>
  some σ
  ) fun J1 =>
  if ((σ p1 1) : Int32) = (σ o 1) then (
  if (p4 : Int32) ≤ 0 then (
  J1 ()
  ) else (
  if (p2 : Int32) < 0 then (
  J1 ()
  ) else (
  if (0 : Int32) ≤ p3 then (
  Jn (fun (σ2 : St) =>
  some σ2
  ) fun J3 =>
  if (((σ p1 0) - p4) : Int32) < p2 then (
  J3 σ
  ) else (
  if (((σ o 0) - p4) : Int32) < p3 then (
  J3 σ
  ) else (
  Gd (Cpy (p2 * (σ o 1)) (p3 * (σ o 1)) (p4 * (σ o 1)) (ln (rc p1 2)) (ln (rc o 2))) <|
  Lt (scp σ (rc p1 2) (rc o 2) (Int32.toNatClampNeg (p2 * (σ o 1))) (Int32.toNatClampNeg (p3 * (σ o 1))) (Int32.toNatClampNeg (p4 * (σ o 1)))) fun σ4 =>
  J3 σ4
  )
  )
  ) else (
  J1 ()
  )
  )
  )
  ) else (
  J1 ()
  )
set_option maxHeartbeats 4000000 in
set_option maxRecDepth 100000 in
theorem cC_Tb_copyRows (l : Launch) (g : Ge) (hi : injB wC.2 g) (σ : St) (o : Nat) (ho : wC.2.2.1 o = .inr (8, 3)) (p1 : Nat) (h1 : wC.2.2.1 p1 = .inr (8, 3)) (p2 : Int32) (p3 : Int32) (p4 : Int32) (x : St) (h : f_Tb_copyRows σ o p1 p2 p3 p4 = some x) : Ct l wC g yC_Tb_copyRows qC_Tb_copyRows 1 26 [.ref (g.1 o), .ref (g.1 p1), .int p2, .int p3, .int p4] σ (none, x) := by
  refine Ct.of (out := o_v) FC_Tb_copyRows rfl hi rfl h (fun z hz C => ?_)
  clear h
  subst hz
  unfold f_Tb_copyRows
  show Rt z qC_Tb_copyRows wC g o_v 0 [(0, .ref (g.1 o)), (1, .ref (g.1 p1)), (2, .int p2), (3, .int p3), (4, .int p4)] [] σ _
  refine q_aload_n (pc' := 1) C 1 d_Tb_copyRows_0 rfl rfl ?_
  refine gC_Tb_22 (pc' := 4) C p1 h1 d_Tb_copyRows_1 rfl rfl ?_
  refine q_aload_n (pc' := 5) C 0 d_Tb_copyRows_4 rfl rfl ?_
  refine gC_Tb_22 (pc' := 8) C o ho d_Tb_copyRows_5 rfl rfl ?_
  refine q_join (fun J1 : Unit → Option (St) => ∀ (_ : Unit), Rt z qC_Tb_copyRows wC g o_v 24 [] [] σ (J1 ())) (fun _ => ?_) (fun J1 hJ1 => ?_)
  · exact q_vret C rfl d_Tb_copyRows_24 rfl
  refine q_icmp_ne (tgt := 24) (pc' := 11) C d_Tb_copyRows_8 rfl rfl ?_ ?_
  · exact Rt.sub [] rfl (hJ1 ())
  · refine q_iload (pc' := 13) C 4 d_Tb_copyRows_11 rfl rfl ?_
    refine q_if_le (tgt := 24) (pc' := 16) C d_Tb_copyRows_13 rfl rfl ?_ ?_
    · exact Rt.sub [] rfl (hJ1 ())
    · refine q_iload_n (pc' := 17) C 2 d_Tb_copyRows_16 rfl rfl ?_
      refine q_if_lt (tgt := 24) (pc' := 20) C d_Tb_copyRows_17 rfl rfl ?_ ?_
      · exact Rt.sub [] rfl (hJ1 ())
      · refine q_iload_n (pc' := 21) C 3 d_Tb_copyRows_20 rfl rfl ?_
        refine q_if_ge (tgt := 25) (pc' := 24) C d_Tb_copyRows_21 rfl rfl ?_ ?_
        · refine q_iload_n (pc' := 26) C 2 d_Tb_copyRows_25 rfl rfl ?_
          refine q_aload_n (pc' := 27) C 1 d_Tb_copyRows_26 rfl rfl ?_
          refine gC_Tb_16 (pc' := 30) C p1 h1 d_Tb_copyRows_27 rfl rfl ?_
          refine q_iload (pc' := 32) C 4 d_Tb_copyRows_30 rfl rfl ?_
          refine q_isub (pc' := 33) C d_Tb_copyRows_32 rfl ?_
          refine q_join (fun J3 : St → Option (St) => ∀ (σ2 : St), Rt z qC_Tb_copyRows wC g o_v 77 [] [] σ2 (J3 σ2)) (fun σ2 => ?_) (fun J3 hJ3 => ?_)
          · exact q_vret C rfl d_Tb_copyRows_77 rfl
          refine q_icmp_gt (tgt := 77) (pc' := 36) C d_Tb_copyRows_33 rfl rfl ?_ ?_
          · exact Rt.sub [] rfl (hJ3 σ)
          · refine q_iload_n (pc' := 37) C 3 d_Tb_copyRows_36 rfl rfl ?_
            refine q_aload_n (pc' := 38) C 0 d_Tb_copyRows_37 rfl rfl ?_
            refine gC_Tb_16 (pc' := 41) C o ho d_Tb_copyRows_38 rfl rfl ?_
            refine q_iload (pc' := 43) C 4 d_Tb_copyRows_41 rfl rfl ?_
            refine q_isub (pc' := 44) C d_Tb_copyRows_43 rfl ?_
            refine q_icmp_gt (tgt := 77) (pc' := 47) C d_Tb_copyRows_44 rfl rfl ?_ ?_
            · exact Rt.sub [] rfl (hJ3 σ)
            · refine q_aload_n (pc' := 48) C 1 d_Tb_copyRows_47 rfl rfl ?_
              refine gC_Tb_25 (pc' := 51) C p1 (rc p1 2) h1 (ly_8_2 h1).1 d_Tb_copyRows_48 rfl rfl ?_
              refine q_iload_n (pc' := 52) C 2 d_Tb_copyRows_51 rfl rfl ?_
              refine q_aload_n (pc' := 53) C 0 d_Tb_copyRows_52 rfl rfl ?_
              refine gC_Tb_22 (pc' := 56) C o ho d_Tb_copyRows_53 rfl rfl ?_
              refine q_imul (pc' := 57) C d_Tb_copyRows_56 rfl ?_
              refine q_aload_n (pc' := 58) C 0 d_Tb_copyRows_57 rfl rfl ?_
              refine gC_Tb_25 (pc' := 61) C o (rc o 2) ho (ly_8_2 ho).1 d_Tb_copyRows_58 rfl rfl ?_
              refine q_iload_n (pc' := 62) C 3 d_Tb_copyRows_61 rfl rfl ?_
              refine q_aload_n (pc' := 63) C 0 d_Tb_copyRows_62 rfl rfl ?_
              refine gC_Tb_22 (pc' := 66) C o ho d_Tb_copyRows_63 rfl rfl ?_
              refine q_imul (pc' := 67) C d_Tb_copyRows_66 rfl ?_
              refine q_iload (pc' := 69) C 4 d_Tb_copyRows_67 rfl rfl ?_
              refine q_aload_n (pc' := 70) C 0 d_Tb_copyRows_69 rfl rfl ?_
              refine gC_Tb_22 (pc' := 73) C o ho d_Tb_copyRows_70 rfl rfl ?_
              refine q_imul (pc' := 74) C d_Tb_copyRows_73 rfl ?_
              refine q_copy (pc' := 77) C lj_arraycopy_Tb_35 (rc p1 2) (rc o 2) (jCa (ly_8_2 h1).2) (ly_8_2 h1).2 (jCa (ly_8_2 ho).2) (ly_8_2 ho).2 (Nat.le_of_ble_eq_true rfl) ⟨rfl, rfl⟩ d_Tb_copyRows_74 rfl ?_
              refine q_let (fun σ4 e4 => ?_)
              refine q_state e4 ?_
              exact Rt.sub [] rfl (hJ3 σ4)
        · exact Rt.sub [] rfl (hJ1 ())
theorem d_Hi_record_0 : decode qC_Hi_record.1 0 = .ok (.aload_n 0, 1) := by decide +kernel
theorem d_Hi_record_1 : decode qC_Hi_record.1 1 = .ok (.getfield 16, 3) := by decide +kernel
theorem d_Hi_record_4 : decode qC_Hi_record.1 4 = .ok (.aload_n 0, 1) := by decide +kernel
theorem d_Hi_record_5 : decode qC_Hi_record.1 5 = .ok (.getfield 25, 3) := by decide +kernel
theorem d_Hi_record_8 : decode qC_Hi_record.1 8 = .ok (.iconst 0, 1) := by decide +kernel
theorem d_Hi_record_9 : decode qC_Hi_record.1 9 = .ok (.iload_n 1, 1) := by decide +kernel
theorem d_Hi_record_10 : decode qC_Hi_record.1 10 = .ok (.ifCond .eq 7, 3) := by decide +kernel
theorem d_Hi_record_13 : decode qC_Hi_record.1 13 = .ok (.iconst 1, 1) := by decide +kernel
theorem d_Hi_record_14 : decode qC_Hi_record.1 14 = .ok (.goto 4, 3) := by decide +kernel
theorem d_Hi_record_17 : decode qC_Hi_record.1 17 = .ok (.iconst 0, 1) := by decide +kernel
theorem d_Hi_record_18 : decode qC_Hi_record.1 18 = .ok (.invokevirtual 32, 3) := by decide +kernel
theorem d_Hi_record_21 : decode qC_Hi_record.1 21 = .ok (.aload_n 0, 1) := by decide +kernel
theorem d_Hi_record_22 : decode qC_Hi_record.1 22 = .ok (.getfield 16, 3) := by decide +kernel
theorem d_Hi_record_25 : decode qC_Hi_record.1 25 = .ok (.aload_n 0, 1) := by decide +kernel
theorem d_Hi_record_26 : decode qC_Hi_record.1 26 = .ok (.getfield 25, 3) := by decide +kernel
theorem d_Hi_record_29 : decode qC_Hi_record.1 29 = .ok (.iconst 1, 1) := by decide +kernel
theorem d_Hi_record_30 : decode qC_Hi_record.1 30 = .ok (.aload_n 2, 1) := by decide +kernel
theorem d_Hi_record_31 : decode qC_Hi_record.1 31 = .ok (.getfield 36, 3) := by decide +kernel
theorem d_Hi_record_34 : decode qC_Hi_record.1 34 = .ok (.invokevirtual 32, 3) := by decide +kernel
theorem d_Hi_record_37 : decode qC_Hi_record.1 37 = .ok (.aload_n 0, 1) := by decide +kernel
theorem d_Hi_record_38 : decode qC_Hi_record.1 38 = .ok (.getfield 16, 3) := by decide +kernel
theorem d_Hi_record_41 : decode qC_Hi_record.1 41 = .ok (.aload_n 0, 1) := by decide +kernel
theorem d_Hi_record_42 : decode qC_Hi_record.1 42 = .ok (.getfield 25, 3) := by decide +kernel
theorem d_Hi_record_45 : decode qC_Hi_record.1 45 = .ok (.iconst 2, 1) := by decide +kernel
theorem d_Hi_record_46 : decode qC_Hi_record.1 46 = .ok (.aload_n 2, 1) := by decide +kernel
theorem d_Hi_record_47 : decode qC_Hi_record.1 47 = .ok (.getfield 39, 3) := by decide +kernel
theorem d_Hi_record_50 : decode qC_Hi_record.1 50 = .ok (.invokevirtual 32, 3) := by decide +kernel
theorem d_Hi_record_53 : decode qC_Hi_record.1 53 = .ok (.aload_n 0, 1) := by decide +kernel
theorem d_Hi_record_54 : decode qC_Hi_record.1 54 = .ok (.getfield 16, 3) := by decide +kernel
theorem d_Hi_record_57 : decode qC_Hi_record.1 57 = .ok (.aload_n 0, 1) := by decide +kernel
theorem d_Hi_record_58 : decode qC_Hi_record.1 58 = .ok (.getfield 25, 3) := by decide +kernel
theorem d_Hi_record_61 : decode qC_Hi_record.1 61 = .ok (.iconst 3, 1) := by decide +kernel
theorem d_Hi_record_62 : decode qC_Hi_record.1 62 = .ok (.aload_n 2, 1) := by decide +kernel
theorem d_Hi_record_63 : decode qC_Hi_record.1 63 = .ok (.getfield 42, 3) := by decide +kernel
theorem d_Hi_record_66 : decode qC_Hi_record.1 66 = .ok (.ifCond .eq 7, 3) := by decide +kernel
theorem d_Hi_record_69 : decode qC_Hi_record.1 69 = .ok (.iconst 1, 1) := by decide +kernel
theorem d_Hi_record_70 : decode qC_Hi_record.1 70 = .ok (.goto 4, 3) := by decide +kernel
theorem d_Hi_record_73 : decode qC_Hi_record.1 73 = .ok (.iconst 0, 1) := by decide +kernel
theorem d_Hi_record_74 : decode qC_Hi_record.1 74 = .ok (.invokevirtual 32, 3) := by decide +kernel
theorem d_Hi_record_77 : decode qC_Hi_record.1 77 = .ok (.aload_n 0, 1) := by decide +kernel
theorem d_Hi_record_78 : decode qC_Hi_record.1 78 = .ok (.getfield 22, 3) := by decide +kernel
theorem d_Hi_record_81 : decode qC_Hi_record.1 81 = .ok (.aload_n 2, 1) := by decide +kernel
theorem d_Hi_record_82 : decode qC_Hi_record.1 82 = .ok (.getfield 46, 3) := by decide +kernel
theorem d_Hi_record_85 : decode qC_Hi_record.1 85 = .ok (.iconst 0, 1) := by decide +kernel
theorem d_Hi_record_86 : decode qC_Hi_record.1 86 = .ok (.aload_n 0, 1) := by decide +kernel
theorem d_Hi_record_87 : decode qC_Hi_record.1 87 = .ok (.getfield 25, 3) := by decide +kernel
theorem d_Hi_record_90 : decode qC_Hi_record.1 90 = .ok (.bipush 20, 2) := by decide +kernel
theorem d_Hi_record_92 : decode qC_Hi_record.1 92 = .ok (.imul, 1) := by decide +kernel
theorem d_Hi_record_93 : decode qC_Hi_record.1 93 = .ok (.aload_n 2, 1) := by decide +kernel
theorem d_Hi_record_94 : decode qC_Hi_record.1 94 = .ok (.getfield 36, 3) := by decide +kernel
theorem d_Hi_record_97 : decode qC_Hi_record.1 97 = .ok (.bipush 20, 2) := by decide +kernel
theorem d_Hi_record_99 : decode qC_Hi_record.1 99 = .ok (.invokestatic 47, 3) := by decide +kernel
theorem d_Hi_record_102 : decode qC_Hi_record.1 102 = .ok (.invokevirtual 53, 3) := by decide +kernel
theorem d_Hi_record_105 : decode qC_Hi_record.1 105 = .ok (.aload_n 0, 1) := by decide +kernel
theorem d_Hi_record_106 : decode qC_Hi_record.1 106 = .ok (.aload_n 0, 1) := by decide +kernel
theorem d_Hi_record_107 : decode qC_Hi_record.1 107 = .ok (.getfield 25, 3) := by decide +kernel
theorem d_Hi_record_110 : decode qC_Hi_record.1 110 = .ok (.iconst 1, 1) := by decide +kernel
theorem d_Hi_record_111 : decode qC_Hi_record.1 111 = .ok (.iadd, 1) := by decide +kernel
theorem d_Hi_record_112 : decode qC_Hi_record.1 112 = .ok (.bipush 6, 2) := by decide +kernel
theorem d_Hi_record_114 : decode qC_Hi_record.1 114 = .ok (.irem, 1) := by decide +kernel
theorem d_Hi_record_115 : decode qC_Hi_record.1 115 = .ok (.putfield 25, 3) := by decide +kernel
theorem d_Hi_record_118 : decode qC_Hi_record.1 118 = .ok (.aload_n 0, 1) := by decide +kernel
theorem d_Hi_record_119 : decode qC_Hi_record.1 119 = .ok (.aload_n 0, 1) := by decide +kernel
theorem d_Hi_record_120 : decode qC_Hi_record.1 120 = .ok (.getfield 29, 3) := by decide +kernel
theorem d_Hi_record_123 : decode qC_Hi_record.1 123 = .ok (.iconst 1, 1) := by decide +kernel
theorem d_Hi_record_124 : decode qC_Hi_record.1 124 = .ok (.iadd, 1) := by decide +kernel
theorem d_Hi_record_125 : decode qC_Hi_record.1 125 = .ok (.bipush 6, 2) := by decide +kernel
theorem d_Hi_record_127 : decode qC_Hi_record.1 127 = .ok (.invokestatic 47, 3) := by decide +kernel
theorem d_Hi_record_130 : decode qC_Hi_record.1 130 = .ok (.putfield 29, 3) := by decide +kernel
theorem d_Hi_record_133 : decode qC_Hi_record.1 133 = .ok (.return_, 1) := by decide +kernel
set_option maxRecDepth 100000 in
def f_Hi_record (σ : St) (o : Nat) (p1 : Int32) (p2 : Nat) : Option (St) :=
  Jn (fun (x1 : Int32) =>
  Option.bind (f_Tb_put σ (rc o 0) (σ o 2) (0 : Int32) x1) fun x3 =>
  Option.bind (f_Tb_put x3 (rc o 0) (x3 o 2) (1 : Int32) (x3 p2 1)) fun x4 =>
  Option.bind (f_Tb_put x4 (rc o 0) (x4 o 2) (2 : Int32) (x4 p2 2)) fun x5 =>
  Jn (fun (x6 : Int32) =>
  Option.bind (f_Tb_put x5 (rc o 0) (x5 o 2) (3 : Int32) x6) fun x8 =>
  Option.bind (f_Tb_copyRows x8 (rc o 1) (rc p2 0) (0 : Int32) ((x8 o 2) * (20 : Int32)) (imin (x8 p2 1) (20 : Int32))) fun x9 =>
  Lt (s2 x9 o 2 (((x9 o 2) + (1 : Int32)) - ((x9 o 2) + (1 : Int32)) / (6 : Int32) * (6 : Int32))) fun σ10 =>
  Lt (s2 σ10 o 3 (imin ((σ10 o 3) + (1 : Int32)) (6 : Int32))) fun σ11 =>
  some σ11
  ) fun J7 =>
  if ((x5 p2 3) : Int32) = 0 then (
  J7 (0 : Int32)
  ) else (
  J7 (1 : Int32)
  )
  ) fun J2 =>
  if (p1 : Int32) = 0 then (
  J2 (0 : Int32)
  ) else (
  J2 (1 : Int32)
  )
set_option maxHeartbeats 4000000 in
set_option maxRecDepth 100000 in
theorem cC_Hi_record (l : Launch) (g : Ge) (hi : injB wC.2 g) (σ : St) (o : Nat) (ho : wC.2.2.1 o = .inr (0, 4)) (p1 : Int32) (p2 : Nat) (h2 : wC.2.2.1 p2 = .inr (3, 4)) (x : St) (h : f_Hi_record σ o p1 p2 = some x) : Ct l wC g yC_Hi_record qC_Hi_record 2 50 [.ref (g.1 o), .int p1, .ref (g.1 p2)] σ (none, x) := by
  refine Ct.of (out := o_v) FC_Hi_record rfl hi rfl h (fun z hz C => ?_)
  clear h
  subst hz
  unfold f_Hi_record
  show Rt z qC_Hi_record wC g o_v 0 [(0, .ref (g.1 o)), (1, .int p1), (2, .ref (g.1 p2))] [] σ _
  refine q_aload_n (pc' := 1) C 0 d_Hi_record_0 rfl rfl ?_
  refine gC_Hi_16 (pc' := 4) C o (rc o 0) ho (ly_0_0 ho).1 d_Hi_record_1 rfl rfl ?_
  refine q_aload_n (pc' := 5) C 0 d_Hi_record_4 rfl rfl ?_
  refine gC_Hi_25 (pc' := 8) C o ho d_Hi_record_5 rfl rfl ?_
  refine q_iconst (pc' := 9) C d_Hi_record_8 ki_0 rfl ?_
  refine q_iload_n (pc' := 10) C 1 d_Hi_record_9 rfl rfl ?_
  refine q_join (fun J2 : Int32 → Option (St) => ∀ (x1 : Int32), Rt z qC_Hi_record wC g o_v 18 [(0, .ref (g.1 o)), (2, .ref (g.1 p2))] [.int x1, .int (0 : Int32), .int (σ o 2), .ref (g.1 (rc o 0))] σ (J2 x1)) (fun x1 => ?_) (fun J2 hJ2 => ?_)
  · refine q_callVv (fr' := 0) (lo' := 0) (pc' := 21) C FC_Tb_put lmC_Hi_32 d_Hi_record_18 (rc o 0) (jCo (ly_0_0 ho).2) (ly_0_0 ho).2 cC_8 [.int (σ o 2), .int (0 : Int32), .int x1] [] rfl rfl (Nat.le_of_ble_eq_true rfl) ⟨rfl, rfl⟩ (fun x h => cC_Tb_put _ g hi σ (rc o 0) (ly_0_0 ho).2 (σ o 2) (0 : Int32) x1 x h) rfl (fun x3 hx3 => ?_)
    refine q_aload_n (pc' := 22) C 0 d_Hi_record_21 rfl rfl ?_
    refine gC_Hi_16 (pc' := 25) C o (rc o 0) ho (ly_0_0 ho).1 d_Hi_record_22 rfl rfl ?_
    refine q_aload_n (pc' := 26) C 0 d_Hi_record_25 rfl rfl ?_
    refine gC_Hi_25 (pc' := 29) C o ho d_Hi_record_26 rfl rfl ?_
    refine q_iconst (pc' := 30) C d_Hi_record_29 ki_1 rfl ?_
    refine q_aload_n (pc' := 31) C 1 d_Hi_record_30 rfl rfl ?_
    refine gC_Hi_36 (pc' := 34) C p2 h2 d_Hi_record_31 rfl rfl ?_
    refine q_callVv (fr' := 0) (lo' := 0) (pc' := 37) C FC_Tb_put lmC_Hi_32 d_Hi_record_34 (rc o 0) (jCo (ly_0_0 ho).2) (ly_0_0 ho).2 cC_8 [.int (x3 o 2), .int (1 : Int32), .int (x3 p2 1)] [] rfl rfl (Nat.le_of_ble_eq_true rfl) ⟨rfl, rfl⟩ (fun x h => cC_Tb_put _ g hi x3 (rc o 0) (ly_0_0 ho).2 (x3 o 2) (1 : Int32) (x3 p2 1) x h) rfl (fun x4 hx4 => ?_)
    refine q_aload_n (pc' := 38) C 0 d_Hi_record_37 rfl rfl ?_
    refine gC_Hi_16 (pc' := 41) C o (rc o 0) ho (ly_0_0 ho).1 d_Hi_record_38 rfl rfl ?_
    refine q_aload_n (pc' := 42) C 0 d_Hi_record_41 rfl rfl ?_
    refine gC_Hi_25 (pc' := 45) C o ho d_Hi_record_42 rfl rfl ?_
    refine q_iconst (pc' := 46) C d_Hi_record_45 ki_2 rfl ?_
    refine q_aload_n (pc' := 47) C 1 d_Hi_record_46 rfl rfl ?_
    refine gC_Hi_39 (pc' := 50) C p2 h2 d_Hi_record_47 rfl rfl ?_
    refine q_callVv (fr' := 0) (lo' := 0) (pc' := 53) C FC_Tb_put lmC_Hi_32 d_Hi_record_50 (rc o 0) (jCo (ly_0_0 ho).2) (ly_0_0 ho).2 cC_8 [.int (x4 o 2), .int (2 : Int32), .int (x4 p2 2)] [] rfl rfl (Nat.le_of_ble_eq_true rfl) ⟨rfl, rfl⟩ (fun x h => cC_Tb_put _ g hi x4 (rc o 0) (ly_0_0 ho).2 (x4 o 2) (2 : Int32) (x4 p2 2) x h) rfl (fun x5 hx5 => ?_)
    refine q_aload_n (pc' := 54) C 0 d_Hi_record_53 rfl rfl ?_
    refine gC_Hi_16 (pc' := 57) C o (rc o 0) ho (ly_0_0 ho).1 d_Hi_record_54 rfl rfl ?_
    refine q_aload_n (pc' := 58) C 0 d_Hi_record_57 rfl rfl ?_
    refine gC_Hi_25 (pc' := 61) C o ho d_Hi_record_58 rfl rfl ?_
    refine q_iconst (pc' := 62) C d_Hi_record_61 ki_3 rfl ?_
    refine q_aload_n (pc' := 63) C 1 d_Hi_record_62 rfl rfl ?_
    refine gC_Hi_42 (pc' := 66) C p2 h2 d_Hi_record_63 rfl rfl ?_
    refine q_join (fun J7 : Int32 → Option (St) => ∀ (x6 : Int32), Rt z qC_Hi_record wC g o_v 74 [(0, .ref (g.1 o)), (2, .ref (g.1 p2))] [.int x6, .int (3 : Int32), .int (x5 o 2), .ref (g.1 (rc o 0))] x5 (J7 x6)) (fun x6 => ?_) (fun J7 hJ7 => ?_)
    · refine q_callVv (fr' := 0) (lo' := 0) (pc' := 77) C FC_Tb_put lmC_Hi_32 d_Hi_record_74 (rc o 0) (jCo (ly_0_0 ho).2) (ly_0_0 ho).2 cC_8 [.int (x5 o 2), .int (3 : Int32), .int x6] [] rfl rfl (Nat.le_of_ble_eq_true rfl) ⟨rfl, rfl⟩ (fun x h => cC_Tb_put _ g hi x5 (rc o 0) (ly_0_0 ho).2 (x5 o 2) (3 : Int32) x6 x h) rfl (fun x8 hx8 => ?_)
      refine q_aload_n (pc' := 78) C 0 d_Hi_record_77 rfl rfl ?_
      refine gC_Hi_22 (pc' := 81) C o (rc o 1) ho (ly_0_1 ho).1 d_Hi_record_78 rfl rfl ?_
      refine q_aload_n (pc' := 82) C 1 d_Hi_record_81 rfl rfl ?_
      refine gC_Hi_46 (pc' := 85) C p2 (rc p2 0) h2 (ly_3_0 h2).1 d_Hi_record_82 rfl rfl ?_
      refine q_iconst (pc' := 86) C d_Hi_record_85 ki_0 rfl ?_
      refine q_aload_n (pc' := 87) C 0 d_Hi_record_86 rfl rfl ?_
      refine gC_Hi_25 (pc' := 90) C o ho d_Hi_record_87 rfl rfl ?_
      refine q_bipush (pc' := 92) C d_Hi_record_90 kb_20 rfl ?_
      refine q_imul (pc' := 93) C d_Hi_record_92 rfl ?_
      refine q_aload_n (pc' := 94) C 1 d_Hi_record_93 rfl rfl ?_
      refine gC_Hi_36 (pc' := 97) C p2 h2 d_Hi_record_94 rfl rfl ?_
      refine q_bipush (pc' := 99) C d_Hi_record_97 kb_20 rfl ?_
      refine q_mmin (pc' := 102) C lj_min_Hi_47 (Nat.le_of_ble_eq_true rfl) ⟨rfl, rfl⟩ d_Hi_record_99 rfl ?_
      refine q_callVv (fr' := 1) (lo' := 26) (pc' := 105) C FC_Tb_copyRows lmC_Hi_53 d_Hi_record_102 (rc o 1) (jCo (ly_0_1 ho).2) (ly_0_1 ho).2 cC_8 [.ref (g.1 (rc p2 0)), .int (0 : Int32), .int ((x8 o 2) * (20 : Int32)), .int (imin (x8 p2 1) (20 : Int32))] [] rfl rfl (Nat.le_of_ble_eq_true rfl) ⟨rfl, rfl⟩ (fun x h => cC_Tb_copyRows _ g hi x8 (rc o 1) (ly_0_1 ho).2 (rc p2 0) (ly_3_0 h2).2 (0 : Int32) ((x8 o 2) * (20 : Int32)) (imin (x8 p2 1) (20 : Int32)) x h) rfl (fun x9 hx9 => ?_)
      refine q_aload_n (pc' := 106) C 0 d_Hi_record_105 rfl rfl ?_
      refine q_aload_n (pc' := 107) C 0 d_Hi_record_106 rfl rfl ?_
      refine gC_Hi_25 (pc' := 110) C o ho d_Hi_record_107 rfl rfl ?_
      refine q_iconst (pc' := 111) C d_Hi_record_110 ki_1 rfl ?_
      refine q_iadd (pc' := 112) C d_Hi_record_111 rfl ?_
      refine q_bipush (pc' := 114) C d_Hi_record_112 kb_6 rfl ?_
      refine q_irem (pc' := 115) C (by decide) d_Hi_record_114 rfl ?_
      refine pC_Hi_25 (pc' := 118) C o ho d_Hi_record_115 rfl rfl ?_
      refine q_let (fun σ10 e10 => ?_)
      refine q_state e10 ?_
      refine q_aload_n (pc' := 119) C 0 d_Hi_record_118 rfl rfl ?_
      refine q_aload_n (pc' := 120) C 0 d_Hi_record_119 rfl rfl ?_
      refine gC_Hi_29 (pc' := 123) C o ho d_Hi_record_120 rfl rfl ?_
      refine q_iconst (pc' := 124) C d_Hi_record_123 ki_1 rfl ?_
      refine q_iadd (pc' := 125) C d_Hi_record_124 rfl ?_
      refine q_bipush (pc' := 127) C d_Hi_record_125 kb_6 rfl ?_
      refine q_mmin (pc' := 130) C lj_min_Hi_47 (Nat.le_of_ble_eq_true rfl) ⟨rfl, rfl⟩ d_Hi_record_127 rfl ?_
      refine pC_Hi_29 (pc' := 133) C o ho d_Hi_record_130 rfl rfl ?_
      refine q_let (fun σ11 e11 => ?_)
      refine q_state e11 ?_
      exact q_vret C rfl d_Hi_record_133 rfl
    refine q_if_eq (tgt := 73) (pc' := 69) C d_Hi_record_66 rfl rfl ?_ ?_
    · refine q_iconst (pc' := 74) C d_Hi_record_73 ki_0 rfl ?_
      exact Rt.sub [0, 1] rfl (hJ7 (0 : Int32))
    · refine q_iconst (pc' := 70) C d_Hi_record_69 ki_1 rfl ?_
      refine q_goto (tgt := 74) C d_Hi_record_70 rfl ?_
      exact Rt.sub [0, 1] rfl (hJ7 (1 : Int32))
  refine q_if_eq (tgt := 17) (pc' := 13) C d_Hi_record_10 rfl rfl ?_ ?_
  · refine q_iconst (pc' := 18) C d_Hi_record_17 ki_0 rfl ?_
    exact Rt.sub [0, 2] rfl (hJ2 (0 : Int32))
  · refine q_iconst (pc' := 14) C d_Hi_record_13 ki_1 rfl ?_
    refine q_goto (tgt := 18) C d_Hi_record_14 rfl ?_
    exact Rt.sub [0, 2] rfl (hJ2 (1 : Int32))
theorem d_Tb_get_0 : decode qC_Tb_get.1 0 = .ok (.iload_n 1, 1) := by decide +kernel
theorem d_Tb_get_1 : decode qC_Tb_get.1 1 = .ok (.ifCond .lt 23, 3) := by decide +kernel
theorem d_Tb_get_4 : decode qC_Tb_get.1 4 = .ok (.iload_n 1, 1) := by decide +kernel
theorem d_Tb_get_5 : decode qC_Tb_get.1 5 = .ok (.aload_n 0, 1) := by decide +kernel
theorem d_Tb_get_6 : decode qC_Tb_get.1 6 = .ok (.getfield 16, 3) := by decide +kernel
theorem d_Tb_get_9 : decode qC_Tb_get.1 9 = .ok (.if_icmp .ge 15, 3) := by decide +kernel
theorem d_Tb_get_12 : decode qC_Tb_get.1 12 = .ok (.iload_n 2, 1) := by decide +kernel
theorem d_Tb_get_13 : decode qC_Tb_get.1 13 = .ok (.ifCond .lt 11, 3) := by decide +kernel
theorem d_Tb_get_16 : decode qC_Tb_get.1 16 = .ok (.iload_n 2, 1) := by decide +kernel
theorem d_Tb_get_17 : decode qC_Tb_get.1 17 = .ok (.aload_n 0, 1) := by decide +kernel
theorem d_Tb_get_18 : decode qC_Tb_get.1 18 = .ok (.getfield 22, 3) := by decide +kernel
theorem d_Tb_get_21 : decode qC_Tb_get.1 21 = .ok (.if_icmp .lt 5, 3) := by decide +kernel
theorem d_Tb_get_24 : decode qC_Tb_get.1 24 = .ok (.iconst 0, 1) := by decide +kernel
theorem d_Tb_get_25 : decode qC_Tb_get.1 25 = .ok (.ireturn, 1) := by decide +kernel
theorem d_Tb_get_26 : decode qC_Tb_get.1 26 = .ok (.aload_n 0, 1) := by decide +kernel
theorem d_Tb_get_27 : decode qC_Tb_get.1 27 = .ok (.getfield 25, 3) := by decide +kernel
theorem d_Tb_get_30 : decode qC_Tb_get.1 30 = .ok (.iload_n 1, 1) := by decide +kernel
theorem d_Tb_get_31 : decode qC_Tb_get.1 31 = .ok (.aload_n 0, 1) := by decide +kernel
theorem d_Tb_get_32 : decode qC_Tb_get.1 32 = .ok (.getfield 22, 3) := by decide +kernel
theorem d_Tb_get_35 : decode qC_Tb_get.1 35 = .ok (.imul, 1) := by decide +kernel
theorem d_Tb_get_36 : decode qC_Tb_get.1 36 = .ok (.iload_n 2, 1) := by decide +kernel
theorem d_Tb_get_37 : decode qC_Tb_get.1 37 = .ok (.iadd, 1) := by decide +kernel
theorem d_Tb_get_38 : decode qC_Tb_get.1 38 = .ok (.iaload, 1) := by decide +kernel
theorem d_Tb_get_39 : decode qC_Tb_get.1 39 = .ok (.ireturn, 1) := by decide +kernel
set_option maxRecDepth 100000 in
def f_Tb_get (σ : St) (o : Nat) (p1 : Int32) (p2 : Int32) : Option (Int32) :=
  Jn (fun (_ : Unit) =>
  some (0 : Int32)
  ) fun J1 =>
  if (p1 : Int32) < 0 then (
  J1 ()
  ) else (
  if ((σ o 0) : Int32) ≤ p1 then (
  J1 ()
  ) else (
  if (p2 : Int32) < 0 then (
  J1 ()
  ) else (
  if (p2 : Int32) < (σ o 1) then (
  Gd (Ix ((p1 * (σ o 1)) + p2) (ln (rc o 2))) <|
  some (σ (rc o 2) (Int32.toNatClampNeg ((p1 * (σ o 1)) + p2)))
  ) else (
  J1 ()
  )
  )
  )
  )
set_option maxHeartbeats 4000000 in
set_option maxRecDepth 100000 in
theorem cC_Tb_get (l : Launch) (g : Ge) (hi : injB wC.2 g) (σ : St) (o : Nat) (ho : wC.2.2.1 o = .inr (8, 3)) (p1 : Int32) (p2 : Int32) (x : Int32) (h : f_Tb_get σ o p1 p2 = some x) : Ct l wC g yC_Tb_get qC_Tb_get 0 0 [.ref (g.1 o), .int p1, .int p2] σ (some (.int x), σ) := by
  refine Ct.of (out := (o_r σ)) FC_Tb_get rfl hi rfl h (fun z hz C => ?_)
  clear h
  subst hz
  unfold f_Tb_get
  show Rt z qC_Tb_get wC g (o_r σ) 0 [(0, .ref (g.1 o)), (1, .int p1), (2, .int p2)] [] σ _
  refine q_iload_n (pc' := 1) C 1 d_Tb_get_0 rfl rfl ?_
  refine q_join (fun J1 : Unit → Option (Int32) => ∀ (_ : Unit), Rt z qC_Tb_get wC g (o_r σ) 24 [] [] σ (J1 ())) (fun _ => ?_) (fun J1 hJ1 => ?_)
  · refine q_iconst (pc' := 25) C d_Tb_get_24 ki_0 rfl ?_
    exact q_iret C rfl d_Tb_get_25 rfl
  refine q_if_lt (tgt := 24) (pc' := 4) C d_Tb_get_1 rfl rfl ?_ ?_
  · exact Rt.sub [] rfl (hJ1 ())
  · refine q_iload_n (pc' := 5) C 1 d_Tb_get_4 rfl rfl ?_
    refine q_aload_n (pc' := 6) C 0 d_Tb_get_5 rfl rfl ?_
    refine gC_Tb_16 (pc' := 9) C o ho d_Tb_get_6 rfl rfl ?_
    refine q_icmp_ge (tgt := 24) (pc' := 12) C d_Tb_get_9 rfl rfl ?_ ?_
    · exact Rt.sub [] rfl (hJ1 ())
    · refine q_iload_n (pc' := 13) C 2 d_Tb_get_12 rfl rfl ?_
      refine q_if_lt (tgt := 24) (pc' := 16) C d_Tb_get_13 rfl rfl ?_ ?_
      · exact Rt.sub [] rfl (hJ1 ())
      · refine q_iload_n (pc' := 17) C 2 d_Tb_get_16 rfl rfl ?_
        refine q_aload_n (pc' := 18) C 0 d_Tb_get_17 rfl rfl ?_
        refine gC_Tb_22 (pc' := 21) C o ho d_Tb_get_18 rfl rfl ?_
        refine q_icmp_lt (tgt := 26) (pc' := 24) C d_Tb_get_21 rfl rfl ?_ ?_
        · refine q_aload_n (pc' := 27) C 0 d_Tb_get_26 rfl rfl ?_
          refine gC_Tb_25 (pc' := 30) C o (rc o 2) ho (ly_8_2 ho).1 d_Tb_get_27 rfl rfl ?_
          refine q_iload_n (pc' := 31) C 1 d_Tb_get_30 rfl rfl ?_
          refine q_aload_n (pc' := 32) C 0 d_Tb_get_31 rfl rfl ?_
          refine gC_Tb_22 (pc' := 35) C o ho d_Tb_get_32 rfl rfl ?_
          refine q_imul (pc' := 36) C d_Tb_get_35 rfl ?_
          refine q_iload_n (pc' := 37) C 2 d_Tb_get_36 rfl rfl ?_
          refine q_iadd (pc' := 38) C d_Tb_get_37 rfl ?_
          refine q_iald (pc' := 39) C (rc o 2) (jCa (ly_8_2 ho).2) (ly_8_2 ho).2 d_Tb_get_38 rfl ?_
          exact q_iret C rfl d_Tb_get_39 rfl
        · exact Rt.sub [] rfl (hJ1 ())
theorem d_Hi_restore_0 : decode qC_Hi_restore.1 0 = .ok (.aload_n 0, 1) := by decide +kernel
theorem d_Hi_restore_1 : decode qC_Hi_restore.1 1 = .ok (.aload_n 0, 1) := by decide +kernel
theorem d_Hi_restore_2 : decode qC_Hi_restore.1 2 = .ok (.getfield 25, 3) := by decide +kernel
theorem d_Hi_restore_5 : decode qC_Hi_restore.1 5 = .ok (.bipush 6, 2) := by decide +kernel
theorem d_Hi_restore_7 : decode qC_Hi_restore.1 7 = .ok (.iadd, 1) := by decide +kernel
theorem d_Hi_restore_8 : decode qC_Hi_restore.1 8 = .ok (.iconst 1, 1) := by decide +kernel
theorem d_Hi_restore_9 : decode qC_Hi_restore.1 9 = .ok (.isub, 1) := by decide +kernel
theorem d_Hi_restore_10 : decode qC_Hi_restore.1 10 = .ok (.bipush 6, 2) := by decide +kernel
theorem d_Hi_restore_12 : decode qC_Hi_restore.1 12 = .ok (.irem, 1) := by decide +kernel
theorem d_Hi_restore_13 : decode qC_Hi_restore.1 13 = .ok (.putfield 25, 3) := by decide +kernel
theorem d_Hi_restore_16 : decode qC_Hi_restore.1 16 = .ok (.aload_n 0, 1) := by decide +kernel
theorem d_Hi_restore_17 : decode qC_Hi_restore.1 17 = .ok (.iconst 0, 1) := by decide +kernel
theorem d_Hi_restore_18 : decode qC_Hi_restore.1 18 = .ok (.aload_n 0, 1) := by decide +kernel
theorem d_Hi_restore_19 : decode qC_Hi_restore.1 19 = .ok (.getfield 29, 3) := by decide +kernel
theorem d_Hi_restore_22 : decode qC_Hi_restore.1 22 = .ok (.iconst 1, 1) := by decide +kernel
theorem d_Hi_restore_23 : decode qC_Hi_restore.1 23 = .ok (.isub, 1) := by decide +kernel
theorem d_Hi_restore_24 : decode qC_Hi_restore.1 24 = .ok (.invokestatic 57, 3) := by decide +kernel
theorem d_Hi_restore_27 : decode qC_Hi_restore.1 27 = .ok (.putfield 29, 3) := by decide +kernel
theorem d_Hi_restore_30 : decode qC_Hi_restore.1 30 = .ok (.aload_n 1, 1) := by decide +kernel
theorem d_Hi_restore_31 : decode qC_Hi_restore.1 31 = .ok (.aload_n 0, 1) := by decide +kernel
theorem d_Hi_restore_32 : decode qC_Hi_restore.1 32 = .ok (.getfield 16, 3) := by decide +kernel
theorem d_Hi_restore_35 : decode qC_Hi_restore.1 35 = .ok (.aload_n 0, 1) := by decide +kernel
theorem d_Hi_restore_36 : decode qC_Hi_restore.1 36 = .ok (.getfield 25, 3) := by decide +kernel
theorem d_Hi_restore_39 : decode qC_Hi_restore.1 39 = .ok (.iconst 1, 1) := by decide +kernel
theorem d_Hi_restore_40 : decode qC_Hi_restore.1 40 = .ok (.invokevirtual 60, 3) := by decide +kernel
theorem d_Hi_restore_43 : decode qC_Hi_restore.1 43 = .ok (.putfield 36, 3) := by decide +kernel
theorem d_Hi_restore_46 : decode qC_Hi_restore.1 46 = .ok (.aload_n 1, 1) := by decide +kernel
theorem d_Hi_restore_47 : decode qC_Hi_restore.1 47 = .ok (.aload_n 0, 1) := by decide +kernel
theorem d_Hi_restore_48 : decode qC_Hi_restore.1 48 = .ok (.getfield 16, 3) := by decide +kernel
theorem d_Hi_restore_51 : decode qC_Hi_restore.1 51 = .ok (.aload_n 0, 1) := by decide +kernel
theorem d_Hi_restore_52 : decode qC_Hi_restore.1 52 = .ok (.getfield 25, 3) := by decide +kernel
theorem d_Hi_restore_55 : decode qC_Hi_restore.1 55 = .ok (.iconst 2, 1) := by decide +kernel
theorem d_Hi_restore_56 : decode qC_Hi_restore.1 56 = .ok (.invokevirtual 60, 3) := by decide +kernel
theorem d_Hi_restore_59 : decode qC_Hi_restore.1 59 = .ok (.putfield 39, 3) := by decide +kernel
theorem d_Hi_restore_62 : decode qC_Hi_restore.1 62 = .ok (.aload_n 1, 1) := by decide +kernel
theorem d_Hi_restore_63 : decode qC_Hi_restore.1 63 = .ok (.aload_n 0, 1) := by decide +kernel
theorem d_Hi_restore_64 : decode qC_Hi_restore.1 64 = .ok (.getfield 16, 3) := by decide +kernel
theorem d_Hi_restore_67 : decode qC_Hi_restore.1 67 = .ok (.aload_n 0, 1) := by decide +kernel
theorem d_Hi_restore_68 : decode qC_Hi_restore.1 68 = .ok (.getfield 25, 3) := by decide +kernel
theorem d_Hi_restore_71 : decode qC_Hi_restore.1 71 = .ok (.iconst 3, 1) := by decide +kernel
theorem d_Hi_restore_72 : decode qC_Hi_restore.1 72 = .ok (.invokevirtual 60, 3) := by decide +kernel
theorem d_Hi_restore_75 : decode qC_Hi_restore.1 75 = .ok (.iconst 1, 1) := by decide +kernel
theorem d_Hi_restore_76 : decode qC_Hi_restore.1 76 = .ok (.if_icmp .ne 7, 3) := by decide +kernel
theorem d_Hi_restore_79 : decode qC_Hi_restore.1 79 = .ok (.iconst 1, 1) := by decide +kernel
theorem d_Hi_restore_80 : decode qC_Hi_restore.1 80 = .ok (.goto 4, 3) := by decide +kernel
theorem d_Hi_restore_83 : decode qC_Hi_restore.1 83 = .ok (.iconst 0, 1) := by decide +kernel
theorem d_Hi_restore_84 : decode qC_Hi_restore.1 84 = .ok (.putfield 42, 3) := by decide +kernel
theorem d_Hi_restore_87 : decode qC_Hi_restore.1 87 = .ok (.aload_n 1, 1) := by decide +kernel
theorem d_Hi_restore_88 : decode qC_Hi_restore.1 88 = .ok (.getfield 46, 3) := by decide +kernel
theorem d_Hi_restore_91 : decode qC_Hi_restore.1 91 = .ok (.aload_n 0, 1) := by decide +kernel
theorem d_Hi_restore_92 : decode qC_Hi_restore.1 92 = .ok (.getfield 22, 3) := by decide +kernel
theorem d_Hi_restore_95 : decode qC_Hi_restore.1 95 = .ok (.aload_n 0, 1) := by decide +kernel
theorem d_Hi_restore_96 : decode qC_Hi_restore.1 96 = .ok (.getfield 25, 3) := by decide +kernel
theorem d_Hi_restore_99 : decode qC_Hi_restore.1 99 = .ok (.bipush 20, 2) := by decide +kernel
theorem d_Hi_restore_101 : decode qC_Hi_restore.1 101 = .ok (.imul, 1) := by decide +kernel
theorem d_Hi_restore_102 : decode qC_Hi_restore.1 102 = .ok (.iconst 0, 1) := by decide +kernel
theorem d_Hi_restore_103 : decode qC_Hi_restore.1 103 = .ok (.aload_n 1, 1) := by decide +kernel
theorem d_Hi_restore_104 : decode qC_Hi_restore.1 104 = .ok (.getfield 36, 3) := by decide +kernel
theorem d_Hi_restore_107 : decode qC_Hi_restore.1 107 = .ok (.invokevirtual 53, 3) := by decide +kernel
theorem d_Hi_restore_110 : decode qC_Hi_restore.1 110 = .ok (.aload_n 0, 1) := by decide +kernel
theorem d_Hi_restore_111 : decode qC_Hi_restore.1 111 = .ok (.getfield 16, 3) := by decide +kernel
theorem d_Hi_restore_114 : decode qC_Hi_restore.1 114 = .ok (.aload_n 0, 1) := by decide +kernel
theorem d_Hi_restore_115 : decode qC_Hi_restore.1 115 = .ok (.getfield 25, 3) := by decide +kernel
theorem d_Hi_restore_118 : decode qC_Hi_restore.1 118 = .ok (.iconst 0, 1) := by decide +kernel
theorem d_Hi_restore_119 : decode qC_Hi_restore.1 119 = .ok (.invokevirtual 60, 3) := by decide +kernel
theorem d_Hi_restore_122 : decode qC_Hi_restore.1 122 = .ok (.iconst 1, 1) := by decide +kernel
theorem d_Hi_restore_123 : decode qC_Hi_restore.1 123 = .ok (.if_icmp .ne 7, 3) := by decide +kernel
theorem d_Hi_restore_126 : decode qC_Hi_restore.1 126 = .ok (.iconst 1, 1) := by decide +kernel
theorem d_Hi_restore_127 : decode qC_Hi_restore.1 127 = .ok (.goto 4, 3) := by decide +kernel
theorem d_Hi_restore_130 : decode qC_Hi_restore.1 130 = .ok (.iconst 0, 1) := by decide +kernel
theorem d_Hi_restore_131 : decode qC_Hi_restore.1 131 = .ok (.ireturn, 1) := by decide +kernel
set_option maxRecDepth 100000 in
def f_Hi_restore (σ : St) (o : Nat) (p1 : Nat) : Option (Int32 × St) :=
  Lt (s2 σ o 2 ((((σ o 2) + (6 : Int32)) - (1 : Int32)) - (((σ o 2) + (6 : Int32)) - (1 : Int32)) / (6 : Int32) * (6 : Int32))) fun σ1 =>
  Lt (s2 σ1 o 3 (imax (0 : Int32) ((σ1 o 3) - (1 : Int32)))) fun σ2 =>
  Option.bind (f_Tb_get σ2 (rc o 0) (σ2 o 2) (1 : Int32)) fun x3 =>
  Lt (s2 σ2 p1 1 x3) fun σ4 =>
  Option.bind (f_Tb_get σ4 (rc o 0) (σ4 o 2) (2 : Int32)) fun x5 =>
  Lt (s2 σ4 p1 2 x5) fun σ6 =>
  Option.bind (f_Tb_get σ6 (rc o 0) (σ6 o 2) (3 : Int32)) fun x7 =>
  Jn (fun (x8 : Int32) =>
  Gd ((x8 : Int32) &&& 1 = x8) <|
  Lt (s2 σ6 p1 3 x8) fun σ11 =>
  Option.bind (f_Tb_copyRows σ11 (rc p1 0) (rc o 1) ((σ11 o 2) * (20 : Int32)) (0 : Int32) (σ11 p1 1)) fun x12 =>
  Option.bind (f_Tb_get x12 (rc o 0) (x12 o 2) (0 : Int32)) fun x13 =>
  Jn (fun (x14 : Int32) =>
  Gd ((x14 : Int32) &&& 1 = x14) <|
  some (x14, x12)
  ) fun J15 =>
  if (x13 : Int32) = (1 : Int32) then (
  J15 (1 : Int32)
  ) else (
  J15 (0 : Int32)
  )
  ) fun J9 =>
  if (x7 : Int32) = (1 : Int32) then (
  J9 (1 : Int32)
  ) else (
  J9 (0 : Int32)
  )
set_option maxHeartbeats 4000000 in
set_option maxRecDepth 100000 in
theorem cC_Hi_restore (l : Launch) (g : Ge) (hi : injB wC.2 g) (σ : St) (o : Nat) (ho : wC.2.2.1 o = .inr (0, 4)) (p1 : Nat) (h1 : wC.2.2.1 p1 = .inr (3, 4)) (x : Int32 × St) (h : f_Hi_restore σ o p1 = some x) : Ct l wC g yC_Hi_restore qC_Hi_restore 2 50 [.ref (g.1 o), .ref (g.1 p1)] σ (some (.int x.1), x.2) := by
  refine Ct.of (out := o_w) FC_Hi_restore rfl hi rfl h (fun z hz C => ?_)
  clear h
  subst hz
  unfold f_Hi_restore
  show Rt z qC_Hi_restore wC g o_w 0 [(0, .ref (g.1 o)), (1, .ref (g.1 p1))] [] σ _
  refine q_aload_n (pc' := 1) C 0 d_Hi_restore_0 rfl rfl ?_
  refine q_aload_n (pc' := 2) C 0 d_Hi_restore_1 rfl rfl ?_
  refine gC_Hi_25 (pc' := 5) C o ho d_Hi_restore_2 rfl rfl ?_
  refine q_bipush (pc' := 7) C d_Hi_restore_5 kb_6 rfl ?_
  refine q_iadd (pc' := 8) C d_Hi_restore_7 rfl ?_
  refine q_iconst (pc' := 9) C d_Hi_restore_8 ki_1 rfl ?_
  refine q_isub (pc' := 10) C d_Hi_restore_9 rfl ?_
  refine q_bipush (pc' := 12) C d_Hi_restore_10 kb_6 rfl ?_
  refine q_irem (pc' := 13) C (by decide) d_Hi_restore_12 rfl ?_
  refine pC_Hi_25 (pc' := 16) C o ho d_Hi_restore_13 rfl rfl ?_
  refine q_let (fun σ1 e1 => ?_)
  refine q_state e1 ?_
  refine q_aload_n (pc' := 17) C 0 d_Hi_restore_16 rfl rfl ?_
  refine q_iconst (pc' := 18) C d_Hi_restore_17 ki_0 rfl ?_
  refine q_aload_n (pc' := 19) C 0 d_Hi_restore_18 rfl rfl ?_
  refine gC_Hi_29 (pc' := 22) C o ho d_Hi_restore_19 rfl rfl ?_
  refine q_iconst (pc' := 23) C d_Hi_restore_22 ki_1 rfl ?_
  refine q_isub (pc' := 24) C d_Hi_restore_23 rfl ?_
  refine q_mmax (pc' := 27) C lj_max_Hi_57 (Nat.le_of_ble_eq_true rfl) ⟨rfl, rfl⟩ d_Hi_restore_24 rfl ?_
  refine pC_Hi_29 (pc' := 30) C o ho d_Hi_restore_27 rfl rfl ?_
  refine q_let (fun σ2 e2 => ?_)
  refine q_state e2 ?_
  refine q_aload_n (pc' := 31) C 1 d_Hi_restore_30 rfl rfl ?_
  refine q_aload_n (pc' := 32) C 0 d_Hi_restore_31 rfl rfl ?_
  refine gC_Hi_16 (pc' := 35) C o (rc o 0) ho (ly_0_0 ho).1 d_Hi_restore_32 rfl rfl ?_
  refine q_aload_n (pc' := 36) C 0 d_Hi_restore_35 rfl rfl ?_
  refine gC_Hi_25 (pc' := 39) C o ho d_Hi_restore_36 rfl rfl ?_
  refine q_iconst (pc' := 40) C d_Hi_restore_39 ki_1 rfl ?_
  refine q_callVr (fr' := 0) (lo' := 0) (pc' := 43) C FC_Tb_get lmC_Hi_60 d_Hi_restore_40 (rc o 0) (jCo (ly_0_0 ho).2) (ly_0_0 ho).2 cC_8 [.int (σ2 o 2), .int (1 : Int32)] [.ref (g.1 p1)] rfl rfl (Nat.le_of_ble_eq_true rfl) ⟨rfl, rfl⟩ (fun x h => cC_Tb_get _ g hi σ2 (rc o 0) (ly_0_0 ho).2 (σ2 o 2) (1 : Int32) x h) rfl (fun x3 hx3 => ?_)
  refine pC_Hi_36 (pc' := 46) C p1 h1 d_Hi_restore_43 rfl rfl ?_
  refine q_let (fun σ4 e4 => ?_)
  refine q_state e4 ?_
  refine q_aload_n (pc' := 47) C 1 d_Hi_restore_46 rfl rfl ?_
  refine q_aload_n (pc' := 48) C 0 d_Hi_restore_47 rfl rfl ?_
  refine gC_Hi_16 (pc' := 51) C o (rc o 0) ho (ly_0_0 ho).1 d_Hi_restore_48 rfl rfl ?_
  refine q_aload_n (pc' := 52) C 0 d_Hi_restore_51 rfl rfl ?_
  refine gC_Hi_25 (pc' := 55) C o ho d_Hi_restore_52 rfl rfl ?_
  refine q_iconst (pc' := 56) C d_Hi_restore_55 ki_2 rfl ?_
  refine q_callVr (fr' := 0) (lo' := 0) (pc' := 59) C FC_Tb_get lmC_Hi_60 d_Hi_restore_56 (rc o 0) (jCo (ly_0_0 ho).2) (ly_0_0 ho).2 cC_8 [.int (σ4 o 2), .int (2 : Int32)] [.ref (g.1 p1)] rfl rfl (Nat.le_of_ble_eq_true rfl) ⟨rfl, rfl⟩ (fun x h => cC_Tb_get _ g hi σ4 (rc o 0) (ly_0_0 ho).2 (σ4 o 2) (2 : Int32) x h) rfl (fun x5 hx5 => ?_)
  refine pC_Hi_39 (pc' := 62) C p1 h1 d_Hi_restore_59 rfl rfl ?_
  refine q_let (fun σ6 e6 => ?_)
  refine q_state e6 ?_
  refine q_aload_n (pc' := 63) C 1 d_Hi_restore_62 rfl rfl ?_
  refine q_aload_n (pc' := 64) C 0 d_Hi_restore_63 rfl rfl ?_
  refine gC_Hi_16 (pc' := 67) C o (rc o 0) ho (ly_0_0 ho).1 d_Hi_restore_64 rfl rfl ?_
  refine q_aload_n (pc' := 68) C 0 d_Hi_restore_67 rfl rfl ?_
  refine gC_Hi_25 (pc' := 71) C o ho d_Hi_restore_68 rfl rfl ?_
  refine q_iconst (pc' := 72) C d_Hi_restore_71 ki_3 rfl ?_
  refine q_callVr (fr' := 0) (lo' := 0) (pc' := 75) C FC_Tb_get lmC_Hi_60 d_Hi_restore_72 (rc o 0) (jCo (ly_0_0 ho).2) (ly_0_0 ho).2 cC_8 [.int (σ6 o 2), .int (3 : Int32)] [.ref (g.1 p1)] rfl rfl (Nat.le_of_ble_eq_true rfl) ⟨rfl, rfl⟩ (fun x h => cC_Tb_get _ g hi σ6 (rc o 0) (ly_0_0 ho).2 (σ6 o 2) (3 : Int32) x h) rfl (fun x7 hx7 => ?_)
  refine q_iconst (pc' := 76) C d_Hi_restore_75 ki_1 rfl ?_
  refine q_join (fun J9 : Int32 → Option (Int32 × St) => ∀ (x8 : Int32), Rt z qC_Hi_restore wC g o_w 84 [(0, .ref (g.1 o)), (1, .ref (g.1 p1))] [.int x8, .ref (g.1 p1)] σ6 (J9 x8)) (fun x8 => ?_) (fun J9 hJ9 => ?_)
  · refine q_guard (fun gx10 => ?_)
    refine pC_Hi_42 (pc' := 87) C p1 h1 d_Hi_restore_84 gx10 rfl rfl ?_
    refine q_let (fun σ11 e11 => ?_)
    refine q_state e11 ?_
    refine q_aload_n (pc' := 88) C 1 d_Hi_restore_87 rfl rfl ?_
    refine gC_Hi_46 (pc' := 91) C p1 (rc p1 0) h1 (ly_3_0 h1).1 d_Hi_restore_88 rfl rfl ?_
    refine q_aload_n (pc' := 92) C 0 d_Hi_restore_91 rfl rfl ?_
    refine gC_Hi_22 (pc' := 95) C o (rc o 1) ho (ly_0_1 ho).1 d_Hi_restore_92 rfl rfl ?_
    refine q_aload_n (pc' := 96) C 0 d_Hi_restore_95 rfl rfl ?_
    refine gC_Hi_25 (pc' := 99) C o ho d_Hi_restore_96 rfl rfl ?_
    refine q_bipush (pc' := 101) C d_Hi_restore_99 kb_20 rfl ?_
    refine q_imul (pc' := 102) C d_Hi_restore_101 rfl ?_
    refine q_iconst (pc' := 103) C d_Hi_restore_102 ki_0 rfl ?_
    refine q_aload_n (pc' := 104) C 1 d_Hi_restore_103 rfl rfl ?_
    refine gC_Hi_36 (pc' := 107) C p1 h1 d_Hi_restore_104 rfl rfl ?_
    refine q_callVv (fr' := 1) (lo' := 26) (pc' := 110) C FC_Tb_copyRows lmC_Hi_53 d_Hi_restore_107 (rc p1 0) (jCo (ly_3_0 h1).2) (ly_3_0 h1).2 cC_8 [.ref (g.1 (rc o 1)), .int ((σ11 o 2) * (20 : Int32)), .int (0 : Int32), .int (σ11 p1 1)] [] rfl rfl (Nat.le_of_ble_eq_true rfl) ⟨rfl, rfl⟩ (fun x h => cC_Tb_copyRows _ g hi σ11 (rc p1 0) (ly_3_0 h1).2 (rc o 1) (ly_0_1 ho).2 ((σ11 o 2) * (20 : Int32)) (0 : Int32) (σ11 p1 1) x h) rfl (fun x12 hx12 => ?_)
    refine q_aload_n (pc' := 111) C 0 d_Hi_restore_110 rfl rfl ?_
    refine gC_Hi_16 (pc' := 114) C o (rc o 0) ho (ly_0_0 ho).1 d_Hi_restore_111 rfl rfl ?_
    refine q_aload_n (pc' := 115) C 0 d_Hi_restore_114 rfl rfl ?_
    refine gC_Hi_25 (pc' := 118) C o ho d_Hi_restore_115 rfl rfl ?_
    refine q_iconst (pc' := 119) C d_Hi_restore_118 ki_0 rfl ?_
    refine q_callVr (fr' := 0) (lo' := 0) (pc' := 122) C FC_Tb_get lmC_Hi_60 d_Hi_restore_119 (rc o 0) (jCo (ly_0_0 ho).2) (ly_0_0 ho).2 cC_8 [.int (x12 o 2), .int (0 : Int32)] [] rfl rfl (Nat.le_of_ble_eq_true rfl) ⟨rfl, rfl⟩ (fun x h => cC_Tb_get _ g hi x12 (rc o 0) (ly_0_0 ho).2 (x12 o 2) (0 : Int32) x h) rfl (fun x13 hx13 => ?_)
    refine q_iconst (pc' := 123) C d_Hi_restore_122 ki_1 rfl ?_
    refine q_join (fun J15 : Int32 → Option (Int32 × St) => ∀ (x14 : Int32), Rt z qC_Hi_restore wC g o_w 131 [] [.int x14] x12 (J15 x14)) (fun x14 => ?_) (fun J15 hJ15 => ?_)
    · refine q_guard (fun gx16 => ?_)
      exact q_zret C rfl gx16 d_Hi_restore_131 rfl
    refine q_icmp_ne (tgt := 130) (pc' := 126) C d_Hi_restore_123 rfl rfl ?_ ?_
    · refine q_iconst (pc' := 131) C d_Hi_restore_130 ki_0 rfl ?_
      exact Rt.sub [] rfl (hJ15 (0 : Int32))
    · refine q_iconst (pc' := 127) C d_Hi_restore_126 ki_1 rfl ?_
      refine q_goto (tgt := 131) C d_Hi_restore_127 rfl ?_
      exact Rt.sub [] rfl (hJ15 (1 : Int32))
  refine q_icmp_ne (tgt := 83) (pc' := 79) C d_Hi_restore_76 rfl rfl ?_ ?_
  · refine q_iconst (pc' := 84) C d_Hi_restore_83 ki_0 rfl ?_
    exact Rt.sub [0, 1] rfl (hJ9 (0 : Int32))
  · refine q_iconst (pc' := 80) C d_Hi_restore_79 ki_1 rfl ?_
    refine q_goto (tgt := 84) C d_Hi_restore_80 rfl ?_
    exact Rt.sub [0, 1] rfl (hJ9 (1 : Int32))
theorem d_Ar_fill_0 : decode qC_Ar_fill.1 0 = .ok (.iconst 0, 1) := by decide +kernel
theorem d_Ar_fill_1 : decode qC_Ar_fill.1 1 = .ok (.istore_n 2, 1) := by decide +kernel
theorem d_Ar_fill_2 : decode qC_Ar_fill.1 2 = .ok (.aload_n 0, 1) := by decide +kernel
theorem d_Ar_fill_3 : decode qC_Ar_fill.1 3 = .ok (.arraylength, 1) := by decide +kernel
theorem d_Ar_fill_4 : decode qC_Ar_fill.1 4 = .ok (.istore_n 3, 1) := by decide +kernel
theorem d_Ar_fill_5 : decode qC_Ar_fill.1 5 = .ok (.iload_n 2, 1) := by decide +kernel
theorem d_Ar_fill_6 : decode qC_Ar_fill.1 6 = .ok (.iload_n 3, 1) := by decide +kernel
theorem d_Ar_fill_7 : decode qC_Ar_fill.1 7 = .ok (.if_icmp .ge 13, 3) := by decide +kernel
theorem d_Ar_fill_10 : decode qC_Ar_fill.1 10 = .ok (.aload_n 0, 1) := by decide +kernel
theorem d_Ar_fill_11 : decode qC_Ar_fill.1 11 = .ok (.iload_n 2, 1) := by decide +kernel
theorem d_Ar_fill_12 : decode qC_Ar_fill.1 12 = .ok (.iload_n 1, 1) := by decide +kernel
theorem d_Ar_fill_13 : decode qC_Ar_fill.1 13 = .ok (.iastore, 1) := by decide +kernel
theorem d_Ar_fill_14 : decode qC_Ar_fill.1 14 = .ok (.iinc 2 1, 3) := by decide +kernel
theorem d_Ar_fill_17 : decode qC_Ar_fill.1 17 = .ok (.goto (-12), 3) := by decide +kernel
theorem d_Ar_fill_20 : decode qC_Ar_fill.1 20 = .ok (.return_, 1) := by decide +kernel
set_option maxRecDepth 100000 in
def lb_f_Ar_fill_5 (p0 : Nat) (p1 : Int32) (x1 : Int32) (J3 : St → Option (St)) (ih5 : Int32 × St → Option (St)) (a4 : Int32 × St) : Option (St) :=
  if (x1 : Int32) ≤ a4.1 then (
  J3 a4.2
  ) else (
  Gd (Ix a4.1 (ln p0)) <|
  Lt (s2 a4.2 p0 (Int32.toNatClampNeg a4.1) p1) fun σ6 =>
  Lt (a4.1 + (1 : Int32) : Int32) fun x7 =>
  ih5 (x7, σ6)
  )
set_option maxRecDepth 100000 in
def f_Ar_fill (σ : St) (p0 : Nat) (p1 : Int32) : Option (St) :=
  Lt ((Int32.ofNat (ln p0)) : Int32) fun x1 =>
  Jn (fun (σ2 : St) =>
  some σ2
  ) fun J3 =>
  lp (lb_f_Ar_fill_5 p0 p1 x1 J3) 4000 ((0 : Int32), σ)
set_option maxHeartbeats 4000000 in
set_option maxRecDepth 100000 in
theorem cC_Ar_fill (l : Launch) (g : Ge) (hi : injB wC.2 g) (σ : St) (p0 : Nat) (h0 : wC.2.2.1 p0 = .inl (false, ln p0)) (p1 : Int32) (x : St) (h : f_Ar_fill σ p0 p1 = some x) : Ct l wC g yC_Ar_fill qC_Ar_fill 0 0 [.ref (g.1 p0), .int p1] σ (none, x) := by
  refine Ct.of (out := o_v) FC_Ar_fill rfl hi rfl h (fun z hz C => ?_)
  clear h
  subst hz
  unfold f_Ar_fill
  show Rt z qC_Ar_fill wC g o_v 0 [(0, .ref (g.1 p0)), (1, .int p1)] [] σ _
  refine q_iconst (pc' := 1) C d_Ar_fill_0 ki_0 rfl ?_
  refine q_istore_n (pc' := 2) (lv' := [(2, .int (0 : Int32)), (0, .ref (g.1 p0)), (1, .int p1)]) C d_Ar_fill_1 (by decide) rfl rfl ?_
  refine q_aload_n (pc' := 3) C 1 d_Ar_fill_2 rfl rfl ?_
  refine q_alen (pc' := 4) C p0 (jCa h0) h0 d_Ar_fill_3 rfl ?_
  refine q_let (fun x1 e1 => ?_)
  refine q_topi e1 ?_
  refine q_istore_n (pc' := 5) (lv' := [(3, .int x1), (2, .int (0 : Int32)), (0, .ref (g.1 p0)), (1, .int p1)]) C d_Ar_fill_4 (by decide) rfl rfl ?_
  refine q_join (fun J3 : St → Option (St) => ∀ (σ2 : St), Rt z qC_Ar_fill wC g o_v 20 [] [] σ2 (J3 σ2)) (fun σ2 => ?_) (fun J3 hJ3 => ?_)
  · exact q_vret C rfl d_Ar_fill_20 rfl
  refine Rt.sub [2, 3, 1, 0] rfl (q_lp (fun a4 : Int32 × St => [(0, .ref (g.1 p0)), (1, .int p1), (2, .int a4.1), (3, .int x1)]) (fun a4 => []) (fun a4 => a4.2) (fun ih5 hih5 a4 => ?_) 4000 ((0 : Int32), σ))
  unfold lb_f_Ar_fill_5
  refine q_iload_n (pc' := 6) C 2 d_Ar_fill_5 rfl rfl ?_
  refine q_iload_n (pc' := 7) C 3 d_Ar_fill_6 rfl rfl ?_
  refine q_icmp_ge (tgt := 20) (pc' := 10) C d_Ar_fill_7 rfl rfl ?_ ?_
  · exact Rt.sub [] rfl (hJ3 a4.2)
  · refine q_aload_n (pc' := 11) C 0 d_Ar_fill_10 rfl rfl ?_
    refine q_iload_n (pc' := 12) C 2 d_Ar_fill_11 rfl rfl ?_
    refine q_iload_n (pc' := 13) C 1 d_Ar_fill_12 rfl rfl ?_
    refine q_iast (pc' := 14) C p0 (jCa h0) h0 d_Ar_fill_13 rfl ?_
    refine q_let (fun σ6 e6 => ?_)
    refine q_state e6 ?_
    refine q_let (fun x7 e7 => ?_)
    refine q_iinc (pc' := 17) (lv' := [(2, .int x7), (0, .ref (g.1 p0)), (1, .int p1), (3, .int x1)]) C 2 d_Ar_fill_14 rfl (by rw [e7, ki_1]) (by decide) rfl rfl ?_
    refine q_goto (tgt := 5) C d_Ar_fill_17 rfl ?_
    exact Rt.sub [1, 2, 0, 3] rfl (hih5 (x7, σ6))
theorem d_Tb_clear_0 : decode qC_Tb_clear.1 0 = .ok (.aload_n 0, 1) := by decide +kernel
theorem d_Tb_clear_1 : decode qC_Tb_clear.1 1 = .ok (.getfield 25, 3) := by decide +kernel
theorem d_Tb_clear_4 : decode qC_Tb_clear.1 4 = .ok (.iconst 0, 1) := by decide +kernel
theorem d_Tb_clear_5 : decode qC_Tb_clear.1 5 = .ok (.invokestatic 29, 3) := by decide +kernel
theorem d_Tb_clear_8 : decode qC_Tb_clear.1 8 = .ok (.return_, 1) := by decide +kernel
set_option maxRecDepth 100000 in
def f_Tb_clear (σ : St) (o : Nat) : Option (St) :=
  Option.bind (f_Ar_fill σ (rc o 2) (0 : Int32)) fun x1 =>
  some x1
set_option maxHeartbeats 4000000 in
set_option maxRecDepth 100000 in
theorem cC_Tb_clear (l : Launch) (g : Ge) (hi : injB wC.2 g) (σ : St) (o : Nat) (ho : wC.2.2.1 o = .inr (8, 3)) (x : St) (h : f_Tb_clear σ o = some x) : Ct l wC g yC_Tb_clear qC_Tb_clear 1 23 [.ref (g.1 o)] σ (none, x) := by
  refine Ct.of (out := o_v) FC_Tb_clear rfl hi rfl h (fun z hz C => ?_)
  clear h
  subst hz
  unfold f_Tb_clear
  show Rt z qC_Tb_clear wC g o_v 0 [(0, .ref (g.1 o))] [] σ _
  refine q_aload_n (pc' := 1) C 0 d_Tb_clear_0 rfl rfl ?_
  refine gC_Tb_25 (pc' := 4) C o (rc o 2) ho (ly_8_2 ho).1 d_Tb_clear_1 rfl rfl ?_
  refine q_iconst (pc' := 5) C d_Tb_clear_4 ki_0 rfl ?_
  refine q_callSv (fr' := 0) (lo' := 0) (pc' := 8) C FC_Ar_fill lmC_Tb_29 d_Tb_clear_5 [.ref (g.1 (rc o 2)), .int (0 : Int32)] [] rfl rfl (Nat.le_of_ble_eq_true rfl) ⟨rfl, rfl⟩ (fun x h => cC_Ar_fill _ g hi σ (rc o 2) (ly_8_2 ho).2 (0 : Int32) x h) rfl (fun x1 hx1 => ?_)
  exact q_vret C rfl d_Tb_clear_8 rfl
theorem d_Tk_clear_0 : decode qC_Tk_clear.1 0 = .ok (.aload_n 0, 1) := by decide +kernel
theorem d_Tk_clear_1 : decode qC_Tk_clear.1 1 = .ok (.getfield 45, 3) := by decide +kernel
theorem d_Tk_clear_4 : decode qC_Tk_clear.1 4 = .ok (.invokevirtual 57, 3) := by decide +kernel
theorem d_Tk_clear_7 : decode qC_Tk_clear.1 7 = .ok (.aload_n 0, 1) := by decide +kernel
theorem d_Tk_clear_8 : decode qC_Tk_clear.1 8 = .ok (.getfield 54, 3) := by decide +kernel
theorem d_Tk_clear_11 : decode qC_Tk_clear.1 11 = .ok (.invokevirtual 57, 3) := by decide +kernel
theorem d_Tk_clear_14 : decode qC_Tk_clear.1 14 = .ok (.aload_n 0, 1) := by decide +kernel
theorem d_Tk_clear_15 : decode qC_Tk_clear.1 15 = .ok (.iconst 0, 1) := by decide +kernel
theorem d_Tk_clear_16 : decode qC_Tk_clear.1 16 = .ok (.putfield 9, 3) := by decide +kernel
theorem d_Tk_clear_19 : decode qC_Tk_clear.1 19 = .ok (.aload_n 0, 1) := by decide +kernel
theorem d_Tk_clear_20 : decode qC_Tk_clear.1 20 = .ok (.aload_n 0, 1) := by decide +kernel
theorem d_Tk_clear_21 : decode qC_Tk_clear.1 21 = .ok (.getfield 41, 3) := by decide +kernel
theorem d_Tk_clear_24 : decode qC_Tk_clear.1 24 = .ok (.getfield 60, 3) := by decide +kernel
theorem d_Tk_clear_27 : decode qC_Tk_clear.1 27 = .ok (.putfield 34, 3) := by decide +kernel
theorem d_Tk_clear_30 : decode qC_Tk_clear.1 30 = .ok (.return_, 1) := by decide +kernel
set_option maxRecDepth 100000 in
def f_Tk_clear (σ : St) (o : Nat) : Option (St) :=
  Option.bind (f_Tb_clear σ (rc o 2)) fun x1 =>
  Option.bind (f_Tb_clear x1 (rc o 3)) fun x2 =>
  Lt (s2 x2 o 4 (0 : Int32)) fun σ3 =>
  Lt (s2 σ3 o 11 (σ3 (rc o 1) 9)) fun σ4 =>
  some σ4
set_option maxHeartbeats 4000000 in
set_option maxRecDepth 100000 in
theorem cC_Tk_clear (l : Launch) (g : Ge) (hi : injB wC.2 g) (σ : St) (o : Nat) (ho : wC.2.2.1 o = .inr (9, 12)) (x : St) (h : f_Tk_clear σ o = some x) : Ct l wC g yC_Tk_clear qC_Tk_clear 2 43 [.ref (g.1 o)] σ (none, x) := by
  refine Ct.of (out := o_v) FC_Tk_clear rfl hi rfl h (fun z hz C => ?_)
  clear h
  subst hz
  unfold f_Tk_clear
  show Rt z qC_Tk_clear wC g o_v 0 [(0, .ref (g.1 o))] [] σ _
  refine q_aload_n (pc' := 1) C 0 d_Tk_clear_0 rfl rfl ?_
  refine gC_Tk_45 (pc' := 4) C o (rc o 2) ho (ly_9_2 ho).1 d_Tk_clear_1 rfl rfl ?_
  refine q_callVv (fr' := 1) (lo' := 23) (pc' := 7) C FC_Tb_clear lmC_Tk_57 d_Tk_clear_4 (rc o 2) (jCo (ly_9_2 ho).2) (ly_9_2 ho).2 cC_8 [] [] rfl rfl (Nat.le_of_ble_eq_true rfl) ⟨rfl, rfl⟩ (fun x h => cC_Tb_clear _ g hi σ (rc o 2) (ly_9_2 ho).2 x h) rfl (fun x1 hx1 => ?_)
  refine q_aload_n (pc' := 8) C 0 d_Tk_clear_7 rfl rfl ?_
  refine gC_Tk_54 (pc' := 11) C o (rc o 3) ho (ly_9_3 ho).1 d_Tk_clear_8 rfl rfl ?_
  refine q_callVv (fr' := 1) (lo' := 23) (pc' := 14) C FC_Tb_clear lmC_Tk_57 d_Tk_clear_11 (rc o 3) (jCo (ly_9_3 ho).2) (ly_9_3 ho).2 cC_8 [] [] rfl rfl (Nat.le_of_ble_eq_true rfl) ⟨rfl, rfl⟩ (fun x h => cC_Tb_clear _ g hi x1 (rc o 3) (ly_9_3 ho).2 x h) rfl (fun x2 hx2 => ?_)
  refine q_aload_n (pc' := 15) C 0 d_Tk_clear_14 rfl rfl ?_
  refine q_iconst (pc' := 16) C d_Tk_clear_15 ki_0 rfl ?_
  refine pC_Tk_9 (pc' := 19) C o ho d_Tk_clear_16 rfl rfl ?_
  refine q_let (fun σ3 e3 => ?_)
  refine q_state e3 ?_
  refine q_aload_n (pc' := 20) C 0 d_Tk_clear_19 rfl rfl ?_
  refine q_aload_n (pc' := 21) C 0 d_Tk_clear_20 rfl rfl ?_
  refine gC_Tk_41 (pc' := 24) C o (rc o 1) ho (ly_9_1 ho).1 d_Tk_clear_21 rfl rfl ?_
  refine gC_Tk_60 (pc' := 27) C (rc o 1) (ly_9_1 ho).2 d_Tk_clear_24 rfl rfl ?_
  refine pC_Tk_34 (pc' := 30) C o ho d_Tk_clear_27 rfl rfl ?_
  refine q_let (fun σ4 e4 => ?_)
  refine q_state e4 ?_
  exact q_vret C rfl d_Tk_clear_30 rfl
theorem d_Pl_kind_0 : decode qC_Pl_kind.1 0 = .ok (.aload_n 0, 1) := by decide +kernel
theorem d_Pl_kind_1 : decode qC_Pl_kind.1 1 = .ok (.getfield 27, 3) := by decide +kernel
theorem d_Pl_kind_4 : decode qC_Pl_kind.1 4 = .ok (.iload_n 1, 1) := by decide +kernel
theorem d_Pl_kind_5 : decode qC_Pl_kind.1 5 = .ok (.iconst 0, 1) := by decide +kernel
theorem d_Pl_kind_6 : decode qC_Pl_kind.1 6 = .ok (.invokevirtual 36, 3) := by decide +kernel
theorem d_Pl_kind_9 : decode qC_Pl_kind.1 9 = .ok (.ireturn, 1) := by decide +kernel
set_option maxRecDepth 100000 in
def f_Pl_kind (σ : St) (o : Nat) (p1 : Int32) : Option (Int32) :=
  Option.bind (f_Tb_get σ (rc o 0) p1 (0 : Int32)) fun x1 =>
  some x1
set_option maxHeartbeats 4000000 in
set_option maxRecDepth 100000 in
theorem cC_Pl_kind (l : Launch) (g : Ge) (hi : injB wC.2 g) (σ : St) (o : Nat) (ho : wC.2.2.1 o = .inr (3, 4)) (p1 : Int32) (x : Int32) (h : f_Pl_kind σ o p1 = some x) : Ct l wC g yC_Pl_kind qC_Pl_kind 1 22 [.ref (g.1 o), .int p1] σ (some (.int x), σ) := by
  refine Ct.of (out := (o_r σ)) FC_Pl_kind rfl hi rfl h (fun z hz C => ?_)
  clear h
  subst hz
  unfold f_Pl_kind
  show Rt z qC_Pl_kind wC g (o_r σ) 0 [(0, .ref (g.1 o)), (1, .int p1)] [] σ _
  refine q_aload_n (pc' := 1) C 0 d_Pl_kind_0 rfl rfl ?_
  refine gC_Pl_27 (pc' := 4) C o (rc o 0) ho (ly_3_0 ho).1 d_Pl_kind_1 rfl rfl ?_
  refine q_iload_n (pc' := 5) C 1 d_Pl_kind_4 rfl rfl ?_
  refine q_iconst (pc' := 6) C d_Pl_kind_5 ki_0 rfl ?_
  refine q_callVr (fr' := 0) (lo' := 0) (pc' := 9) C FC_Tb_get lmC_Pl_36 d_Pl_kind_6 (rc o 0) (jCo (ly_3_0 ho).2) (ly_3_0 ho).2 cC_8 [.int p1, .int (0 : Int32)] [] rfl rfl (Nat.le_of_ble_eq_true rfl) ⟨rfl, rfl⟩ (fun x h => cC_Tb_get _ g hi σ (rc o 0) (ly_3_0 ho).2 p1 (0 : Int32) x h) rfl (fun x1 hx1 => ?_)
  exact q_iret C rfl d_Pl_kind_9 rfl
theorem d_Tk_startsAnew_0 : decode qC_Tk_startsAnew.1 0 = .ok (.aload_n 0, 1) := by decide +kernel
theorem d_Tk_startsAnew_1 : decode qC_Tk_startsAnew.1 1 = .ok (.getfield 37, 3) := by decide +kernel
theorem d_Tk_startsAnew_4 : decode qC_Tk_startsAnew.1 4 = .ok (.iload_n 1, 1) := by decide +kernel
theorem d_Tk_startsAnew_5 : decode qC_Tk_startsAnew.1 5 = .ok (.invokevirtual 72, 3) := by decide +kernel
theorem d_Tk_startsAnew_8 : decode qC_Tk_startsAnew.1 8 = .ok (.istore_n 2, 1) := by decide +kernel
theorem d_Tk_startsAnew_9 : decode qC_Tk_startsAnew.1 9 = .ok (.iload_n 1, 1) := by decide +kernel
theorem d_Tk_startsAnew_10 : decode qC_Tk_startsAnew.1 10 = .ok (.ifCond .eq 44, 3) := by decide +kernel
theorem d_Tk_startsAnew_13 : decode qC_Tk_startsAnew.1 13 = .ok (.iload_n 2, 1) := by decide +kernel
theorem d_Tk_startsAnew_14 : decode qC_Tk_startsAnew.1 14 = .ok (.ifCond .eq 40, 3) := by decide +kernel
theorem d_Tk_startsAnew_17 : decode qC_Tk_startsAnew.1 17 = .ok (.iload_n 2, 1) := by decide +kernel
theorem d_Tk_startsAnew_18 : decode qC_Tk_startsAnew.1 18 = .ok (.bipush 8, 2) := by decide +kernel
theorem d_Tk_startsAnew_20 : decode qC_Tk_startsAnew.1 20 = .ok (.if_icmp .eq 34, 3) := by decide +kernel
theorem d_Tk_startsAnew_23 : decode qC_Tk_startsAnew.1 23 = .ok (.aload_n 0, 1) := by decide +kernel
theorem d_Tk_startsAnew_24 : decode qC_Tk_startsAnew.1 24 = .ok (.getfield 37, 3) := by decide +kernel
theorem d_Tk_startsAnew_27 : decode qC_Tk_startsAnew.1 27 = .ok (.getfield 98, 3) := by decide +kernel
theorem d_Tk_startsAnew_30 : decode qC_Tk_startsAnew.1 30 = .ok (.iload_n 1, 1) := by decide +kernel
theorem d_Tk_startsAnew_31 : decode qC_Tk_startsAnew.1 31 = .ok (.bipush 13, 2) := by decide +kernel
theorem d_Tk_startsAnew_33 : decode qC_Tk_startsAnew.1 33 = .ok (.invokevirtual 99, 3) := by decide +kernel
theorem d_Tk_startsAnew_36 : decode qC_Tk_startsAnew.1 36 = .ok (.iconst 1, 1) := by decide +kernel
theorem d_Tk_startsAnew_37 : decode qC_Tk_startsAnew.1 37 = .ok (.if_icmp .eq 17, 3) := by decide +kernel
theorem d_Tk_startsAnew_40 : decode qC_Tk_startsAnew.1 40 = .ok (.aload_n 0, 1) := by decide +kernel
theorem d_Tk_startsAnew_41 : decode qC_Tk_startsAnew.1 41 = .ok (.getfield 45, 3) := by decide +kernel
theorem d_Tk_startsAnew_44 : decode qC_Tk_startsAnew.1 44 = .ok (.iload_n 1, 1) := by decide +kernel
theorem d_Tk_startsAnew_45 : decode qC_Tk_startsAnew.1 45 = .ok (.iconst 1, 1) := by decide +kernel
theorem d_Tk_startsAnew_46 : decode qC_Tk_startsAnew.1 46 = .ok (.isub, 1) := by decide +kernel
theorem d_Tk_startsAnew_47 : decode qC_Tk_startsAnew.1 47 = .ok (.iconst 1, 1) := by decide +kernel
theorem d_Tk_startsAnew_48 : decode qC_Tk_startsAnew.1 48 = .ok (.invokevirtual 99, 3) := by decide +kernel
theorem d_Tk_startsAnew_51 : decode qC_Tk_startsAnew.1 51 = .ok (.ifCond .ne 7, 3) := by decide +kernel
theorem d_Tk_startsAnew_54 : decode qC_Tk_startsAnew.1 54 = .ok (.iconst 1, 1) := by decide +kernel
theorem d_Tk_startsAnew_55 : decode qC_Tk_startsAnew.1 55 = .ok (.goto 4, 3) := by decide +kernel
theorem d_Tk_startsAnew_58 : decode qC_Tk_startsAnew.1 58 = .ok (.iconst 0, 1) := by decide +kernel
theorem d_Tk_startsAnew_59 : decode qC_Tk_startsAnew.1 59 = .ok (.ireturn, 1) := by decide +kernel
set_option maxRecDepth 100000 in
def f_Tk_startsAnew (σ : St) (o : Nat) (p1 : Int32) : Option (Int32) :=
  Option.bind (f_Pl_kind σ (rc o 0) p1) fun x1 =>
  Jn (fun (x2 : Int32) =>
  Gd ((x2 : Int32) &&& 1 = x2) <|
  some x2
  ) fun J3 =>
  Jn (fun (_ : Unit) =>
  J3 (1 : Int32)
  ) fun J5 =>
  if (p1 : Int32) = 0 then (
  J5 ()
  ) else (
  if (x1 : Int32) = 0 then (
  J5 ()
  ) else (
  if (x1 : Int32) = (8 : Int32) then (
  J5 ()
  ) else (
  Option.bind (f_Tb_get σ (rc (rc o 0) 0) p1 (13 : Int32)) fun x6 =>
  if (x6 : Int32) = (1 : Int32) then (
  J5 ()
  ) else (
  Option.bind (f_Tb_get σ (rc o 2) (p1 - (1 : Int32)) (1 : Int32)) fun x7 =>
  if (x7 : Int32) = 0 then (
  J5 ()
  ) else (
  J3 (0 : Int32)
  )
  )
  )
  )
  )
set_option maxHeartbeats 4000000 in
set_option maxRecDepth 100000 in
theorem cC_Tk_startsAnew (l : Launch) (g : Ge) (hi : injB wC.2 g) (σ : St) (o : Nat) (ho : wC.2.2.1 o = .inr (9, 12)) (p1 : Int32) (x : Int32) (h : f_Tk_startsAnew σ o p1 = some x) : Ct l wC g yC_Tk_startsAnew qC_Tk_startsAnew 2 43 [.ref (g.1 o), .int p1] σ (some (.int x), σ) := by
  refine Ct.of (out := (o_r σ)) FC_Tk_startsAnew rfl hi rfl h (fun z hz C => ?_)
  clear h
  subst hz
  unfold f_Tk_startsAnew
  show Rt z qC_Tk_startsAnew wC g (o_r σ) 0 [(0, .ref (g.1 o)), (1, .int p1)] [] σ _
  refine q_aload_n (pc' := 1) C 0 d_Tk_startsAnew_0 rfl rfl ?_
  refine gC_Tk_37 (pc' := 4) C o (rc o 0) ho (ly_9_0 ho).1 d_Tk_startsAnew_1 rfl rfl ?_
  refine q_iload_n (pc' := 5) C 1 d_Tk_startsAnew_4 rfl rfl ?_
  refine q_callVr (fr' := 1) (lo' := 22) (pc' := 8) C FC_Pl_kind lmC_Tk_72 d_Tk_startsAnew_5 (rc o 0) (jCo (ly_9_0 ho).2) (ly_9_0 ho).2 cC_3 [.int p1] [] rfl rfl (Nat.le_of_ble_eq_true rfl) ⟨rfl, rfl⟩ (fun x h => cC_Pl_kind _ g hi σ (rc o 0) (ly_9_0 ho).2 p1 x h) rfl (fun x1 hx1 => ?_)
  refine q_istore_n (pc' := 9) (lv' := [(2, .int x1), (0, .ref (g.1 o)), (1, .int p1)]) C d_Tk_startsAnew_8 (by decide) rfl rfl ?_
  refine q_iload_n (pc' := 10) C 2 d_Tk_startsAnew_9 rfl rfl ?_
  refine q_join (fun J3 : Int32 → Option (Int32) => ∀ (x2 : Int32), Rt z qC_Tk_startsAnew wC g (o_r σ) 59 [] [.int x2] σ (J3 x2)) (fun x2 => ?_) (fun J3 hJ3 => ?_)
  · refine q_guard (fun gx4 => ?_)
    exact q_zret C rfl gx4 d_Tk_startsAnew_59 rfl
  refine q_join (fun J5 : Unit → Option (Int32) => ∀ (_ : Unit), Rt z qC_Tk_startsAnew wC g (o_r σ) 54 [] [] σ (J5 ())) (fun _ => ?_) (fun J5 hJ5 => ?_)
  · refine q_iconst (pc' := 55) C d_Tk_startsAnew_54 ki_1 rfl ?_
    refine q_goto (tgt := 59) C d_Tk_startsAnew_55 rfl ?_
    exact Rt.sub [] rfl (hJ3 (1 : Int32))
  refine q_if_eq (tgt := 54) (pc' := 13) C d_Tk_startsAnew_10 rfl rfl ?_ ?_
  · exact Rt.sub [] rfl (hJ5 ())
  · refine q_iload_n (pc' := 14) C 0 d_Tk_startsAnew_13 rfl rfl ?_
    refine q_if_eq (tgt := 54) (pc' := 17) C d_Tk_startsAnew_14 rfl rfl ?_ ?_
    · exact Rt.sub [] rfl (hJ5 ())
    · refine q_iload_n (pc' := 18) C 0 d_Tk_startsAnew_17 rfl rfl ?_
      refine q_bipush (pc' := 20) C d_Tk_startsAnew_18 kb_8 rfl ?_
      refine q_icmp_eq (tgt := 54) (pc' := 23) C d_Tk_startsAnew_20 rfl rfl ?_ ?_
      · exact Rt.sub [] rfl (hJ5 ())
      · refine q_aload_n (pc' := 24) C 1 d_Tk_startsAnew_23 rfl rfl ?_
        refine gC_Tk_37 (pc' := 27) C o (rc o 0) ho (ly_9_0 ho).1 d_Tk_startsAnew_24 rfl rfl ?_
        refine gC_Tk_98 (pc' := 30) C (rc o 0) (rc (rc o 0) 0) (ly_9_0 ho).2 (ly_3_0 (ly_9_0 ho).2).1 d_Tk_startsAnew_27 rfl rfl ?_
        refine q_iload_n (pc' := 31) C 2 d_Tk_startsAnew_30 rfl rfl ?_
        refine q_bipush (pc' := 33) C d_Tk_startsAnew_31 kb_13 rfl ?_
        refine q_callVr (fr' := 0) (lo' := 0) (pc' := 36) C FC_Tb_get lmC_Tk_99 d_Tk_startsAnew_33 (rc (rc o 0) 0) (jCo (ly_3_0 (ly_9_0 ho).2).2) (ly_3_0 (ly_9_0 ho).2).2 cC_8 [.int p1, .int (13 : Int32)] [] rfl rfl (Nat.le_of_ble_eq_true rfl) ⟨rfl, rfl⟩ (fun x h => cC_Tb_get _ g hi σ (rc (rc o 0) 0) (ly_3_0 (ly_9_0 ho).2).2 p1 (13 : Int32) x h) rfl (fun x6 hx6 => ?_)
        refine q_iconst (pc' := 37) C d_Tk_startsAnew_36 ki_1 rfl ?_
        refine q_icmp_eq (tgt := 54) (pc' := 40) C d_Tk_startsAnew_37 rfl rfl ?_ ?_
        · exact Rt.sub [] rfl (hJ5 ())
        · refine q_aload_n (pc' := 41) C 1 d_Tk_startsAnew_40 rfl rfl ?_
          refine gC_Tk_45 (pc' := 44) C o (rc o 2) ho (ly_9_2 ho).1 d_Tk_startsAnew_41 rfl rfl ?_
          refine q_iload_n (pc' := 45) C 2 d_Tk_startsAnew_44 rfl rfl ?_
          refine q_iconst (pc' := 46) C d_Tk_startsAnew_45 ki_1 rfl ?_
          refine q_isub (pc' := 47) C d_Tk_startsAnew_46 rfl ?_
          refine q_iconst (pc' := 48) C d_Tk_startsAnew_47 ki_1 rfl ?_
          refine q_callVr (fr' := 0) (lo' := 0) (pc' := 51) C FC_Tb_get lmC_Tk_99 d_Tk_startsAnew_48 (rc o 2) (jCo (ly_9_2 ho).2) (ly_9_2 ho).2 cC_8 [.int (p1 - (1 : Int32)), .int (1 : Int32)] [] rfl rfl (Nat.le_of_ble_eq_true rfl) ⟨rfl, rfl⟩ (fun x h => cC_Tb_get _ g hi σ (rc o 2) (ly_9_2 ho).2 (p1 - (1 : Int32)) (1 : Int32) x h) rfl (fun x7 hx7 => ?_)
          refine q_if_ne (tgt := 58) (pc' := 54) C d_Tk_startsAnew_51 rfl rfl ?_ ?_
          · refine q_iconst (pc' := 59) C d_Tk_startsAnew_58 ki_0 rfl ?_
            exact Rt.sub [] rfl (hJ3 (0 : Int32))
          · exact Rt.sub [] rfl (hJ5 ())
theorem d_Tk_endHere_0 : decode qC_Tk_endHere.1 0 = .ok (.aload_n 0, 1) := by decide +kernel
theorem d_Tk_endHere_1 : decode qC_Tk_endHere.1 1 = .ok (.getfield 45, 3) := by decide +kernel
theorem d_Tk_endHere_4 : decode qC_Tk_endHere.1 4 = .ok (.iload_n 1, 1) := by decide +kernel
theorem d_Tk_endHere_5 : decode qC_Tk_endHere.1 5 = .ok (.iconst 1, 1) := by decide +kernel
theorem d_Tk_endHere_6 : decode qC_Tk_endHere.1 6 = .ok (.iconst 1, 1) := by decide +kernel
theorem d_Tk_endHere_7 : decode qC_Tk_endHere.1 7 = .ok (.invokevirtual 68, 3) := by decide +kernel
theorem d_Tk_endHere_10 : decode qC_Tk_endHere.1 10 = .ok (.aload_n 0, 1) := by decide +kernel
theorem d_Tk_endHere_11 : decode qC_Tk_endHere.1 11 = .ok (.getfield 45, 3) := by decide +kernel
theorem d_Tk_endHere_14 : decode qC_Tk_endHere.1 14 = .ok (.iload_n 1, 1) := by decide +kernel
theorem d_Tk_endHere_15 : decode qC_Tk_endHere.1 15 = .ok (.iconst 2, 1) := by decide +kernel
theorem d_Tk_endHere_16 : decode qC_Tk_endHere.1 16 = .ok (.aload_n 0, 1) := by decide +kernel
theorem d_Tk_endHere_17 : decode qC_Tk_endHere.1 17 = .ok (.getfield 15, 3) := by decide +kernel
theorem d_Tk_endHere_20 : decode qC_Tk_endHere.1 20 = .ok (.invokevirtual 68, 3) := by decide +kernel
theorem d_Tk_endHere_23 : decode qC_Tk_endHere.1 23 = .ok (.aload_n 0, 1) := by decide +kernel
theorem d_Tk_endHere_24 : decode qC_Tk_endHere.1 24 = .ok (.getfield 45, 3) := by decide +kernel
theorem d_Tk_endHere_27 : decode qC_Tk_endHere.1 27 = .ok (.iload_n 1, 1) := by decide +kernel
theorem d_Tk_endHere_28 : decode qC_Tk_endHere.1 28 = .ok (.iconst 3, 1) := by decide +kernel
theorem d_Tk_endHere_29 : decode qC_Tk_endHere.1 29 = .ok (.aload_n 0, 1) := by decide +kernel
theorem d_Tk_endHere_30 : decode qC_Tk_endHere.1 30 = .ok (.getfield 18, 3) := by decide +kernel
theorem d_Tk_endHere_33 : decode qC_Tk_endHere.1 33 = .ok (.invokevirtual 68, 3) := by decide +kernel
theorem d_Tk_endHere_36 : decode qC_Tk_endHere.1 36 = .ok (.return_, 1) := by decide +kernel
set_option maxRecDepth 100000 in
def f_Tk_endHere (σ : St) (o : Nat) (p1 : Int32) : Option (St) :=
  Option.bind (f_Tb_put σ (rc o 2) p1 (1 : Int32) (1 : Int32)) fun x1 =>
  Option.bind (f_Tb_put x1 (rc o 2) p1 (2 : Int32) (x1 o 5)) fun x2 =>
  Option.bind (f_Tb_put x2 (rc o 2) p1 (3 : Int32) (x2 o 6)) fun x3 =>
  some x3
set_option maxHeartbeats 4000000 in
set_option maxRecDepth 100000 in
theorem cC_Tk_endHere (l : Launch) (g : Ge) (hi : injB wC.2 g) (σ : St) (o : Nat) (ho : wC.2.2.1 o = .inr (9, 12)) (p1 : Int32) (x : St) (h : f_Tk_endHere σ o p1 = some x) : Ct l wC g yC_Tk_endHere qC_Tk_endHere 1 23 [.ref (g.1 o), .int p1] σ (none, x) := by
  refine Ct.of (out := o_v) FC_Tk_endHere rfl hi rfl h (fun z hz C => ?_)
  clear h
  subst hz
  unfold f_Tk_endHere
  show Rt z qC_Tk_endHere wC g o_v 0 [(0, .ref (g.1 o)), (1, .int p1)] [] σ _
  refine q_aload_n (pc' := 1) C 0 d_Tk_endHere_0 rfl rfl ?_
  refine gC_Tk_45 (pc' := 4) C o (rc o 2) ho (ly_9_2 ho).1 d_Tk_endHere_1 rfl rfl ?_
  refine q_iload_n (pc' := 5) C 1 d_Tk_endHere_4 rfl rfl ?_
  refine q_iconst (pc' := 6) C d_Tk_endHere_5 ki_1 rfl ?_
  refine q_iconst (pc' := 7) C d_Tk_endHere_6 ki_1 rfl ?_
  refine q_callVv (fr' := 0) (lo' := 0) (pc' := 10) C FC_Tb_put lmC_Tk_68 d_Tk_endHere_7 (rc o 2) (jCo (ly_9_2 ho).2) (ly_9_2 ho).2 cC_8 [.int p1, .int (1 : Int32), .int (1 : Int32)] [] rfl rfl (Nat.le_of_ble_eq_true rfl) ⟨rfl, rfl⟩ (fun x h => cC_Tb_put _ g hi σ (rc o 2) (ly_9_2 ho).2 p1 (1 : Int32) (1 : Int32) x h) rfl (fun x1 hx1 => ?_)
  refine q_aload_n (pc' := 11) C 0 d_Tk_endHere_10 rfl rfl ?_
  refine gC_Tk_45 (pc' := 14) C o (rc o 2) ho (ly_9_2 ho).1 d_Tk_endHere_11 rfl rfl ?_
  refine q_iload_n (pc' := 15) C 1 d_Tk_endHere_14 rfl rfl ?_
  refine q_iconst (pc' := 16) C d_Tk_endHere_15 ki_2 rfl ?_
  refine q_aload_n (pc' := 17) C 0 d_Tk_endHere_16 rfl rfl ?_
  refine gC_Tk_15 (pc' := 20) C o ho d_Tk_endHere_17 rfl rfl ?_
  refine q_callVv (fr' := 0) (lo' := 0) (pc' := 23) C FC_Tb_put lmC_Tk_68 d_Tk_endHere_20 (rc o 2) (jCo (ly_9_2 ho).2) (ly_9_2 ho).2 cC_8 [.int p1, .int (2 : Int32), .int (x1 o 5)] [] rfl rfl (Nat.le_of_ble_eq_true rfl) ⟨rfl, rfl⟩ (fun x h => cC_Tb_put _ g hi x1 (rc o 2) (ly_9_2 ho).2 p1 (2 : Int32) (x1 o 5) x h) rfl (fun x2 hx2 => ?_)
  refine q_aload_n (pc' := 24) C 0 d_Tk_endHere_23 rfl rfl ?_
  refine gC_Tk_45 (pc' := 27) C o (rc o 2) ho (ly_9_2 ho).1 d_Tk_endHere_24 rfl rfl ?_
  refine q_iload_n (pc' := 28) C 1 d_Tk_endHere_27 rfl rfl ?_
  refine q_iconst (pc' := 29) C d_Tk_endHere_28 ki_3 rfl ?_
  refine q_aload_n (pc' := 30) C 0 d_Tk_endHere_29 rfl rfl ?_
  refine gC_Tk_18 (pc' := 33) C o ho d_Tk_endHere_30 rfl rfl ?_
  refine q_callVv (fr' := 0) (lo' := 0) (pc' := 36) C FC_Tb_put lmC_Tk_68 d_Tk_endHere_33 (rc o 2) (jCo (ly_9_2 ho).2) (ly_9_2 ho).2 cC_8 [.int p1, .int (3 : Int32), .int (x2 o 6)] [] rfl rfl (Nat.le_of_ble_eq_true rfl) ⟨rfl, rfl⟩ (fun x h => cC_Tb_put _ g hi x2 (rc o 2) (ly_9_2 ho).2 p1 (3 : Int32) (x2 o 6) x h) rfl (fun x3 hx3 => ?_)
  exact q_vret C rfl d_Tk_endHere_36 rfl
theorem d_Tk_comeFrom_0 : decode qC_Tk_comeFrom.1 0 = .ok (.aload_n 0, 1) := by decide +kernel
theorem d_Tk_comeFrom_1 : decode qC_Tk_comeFrom.1 1 = .ok (.iload_n 1, 1) := by decide +kernel
theorem d_Tk_comeFrom_2 : decode qC_Tk_comeFrom.1 2 = .ok (.putfield 21, 3) := by decide +kernel
theorem d_Tk_comeFrom_5 : decode qC_Tk_comeFrom.1 5 = .ok (.aload_n 0, 1) := by decide +kernel
theorem d_Tk_comeFrom_6 : decode qC_Tk_comeFrom.1 6 = .ok (.iload_n 2, 1) := by decide +kernel
theorem d_Tk_comeFrom_7 : decode qC_Tk_comeFrom.1 7 = .ok (.putfield 24, 3) := by decide +kernel
theorem d_Tk_comeFrom_10 : decode qC_Tk_comeFrom.1 10 = .ok (.aload_n 0, 1) := by decide +kernel
theorem d_Tk_comeFrom_11 : decode qC_Tk_comeFrom.1 11 = .ok (.iload_n 3, 1) := by decide +kernel
theorem d_Tk_comeFrom_12 : decode qC_Tk_comeFrom.1 12 = .ok (.putfield 27, 3) := by decide +kernel
theorem d_Tk_comeFrom_15 : decode qC_Tk_comeFrom.1 15 = .ok (.return_, 1) := by decide +kernel
set_option maxRecDepth 100000 in
def f_Tk_comeFrom (σ : St) (o : Nat) (p1 : Int32) (p2 : Int32) (p3 : Int32) : Option (St) :=
  Lt (s2 σ o 7 p1) fun σ1 =>
  Lt (s2 σ1 o 8 p2) fun σ2 =>
  Lt (s2 σ2 o 9 p3) fun σ3 =>
  some σ3
set_option maxHeartbeats 4000000 in
set_option maxRecDepth 100000 in
theorem cC_Tk_comeFrom (l : Launch) (g : Ge) (hi : injB wC.2 g) (σ : St) (o : Nat) (ho : wC.2.2.1 o = .inr (9, 12)) (p1 : Int32) (p2 : Int32) (p3 : Int32) (x : St) (h : f_Tk_comeFrom σ o p1 p2 p3 = some x) : Ct l wC g yC_Tk_comeFrom qC_Tk_comeFrom 0 0 [.ref (g.1 o), .int p1, .int p2, .int p3] σ (none, x) := by
  refine Ct.of (out := o_v) FC_Tk_comeFrom rfl hi rfl h (fun z hz C => ?_)
  clear h
  subst hz
  unfold f_Tk_comeFrom
  show Rt z qC_Tk_comeFrom wC g o_v 0 [(0, .ref (g.1 o)), (1, .int p1), (2, .int p2), (3, .int p3)] [] σ _
  refine q_aload_n (pc' := 1) C 0 d_Tk_comeFrom_0 rfl rfl ?_
  refine q_iload_n (pc' := 2) C 1 d_Tk_comeFrom_1 rfl rfl ?_
  refine pC_Tk_21 (pc' := 5) C o ho d_Tk_comeFrom_2 rfl rfl ?_
  refine q_let (fun σ1 e1 => ?_)
  refine q_state e1 ?_
  refine q_aload_n (pc' := 6) C 0 d_Tk_comeFrom_5 rfl rfl ?_
  refine q_iload_n (pc' := 7) C 2 d_Tk_comeFrom_6 rfl rfl ?_
  refine pC_Tk_24 (pc' := 10) C o ho d_Tk_comeFrom_7 rfl rfl ?_
  refine q_let (fun σ2 e2 => ?_)
  refine q_state e2 ?_
  refine q_aload_n (pc' := 11) C 0 d_Tk_comeFrom_10 rfl rfl ?_
  refine q_iload_n (pc' := 12) C 3 d_Tk_comeFrom_11 rfl rfl ?_
  refine pC_Tk_27 (pc' := 15) C o ho d_Tk_comeFrom_12 rfl rfl ?_
  refine q_let (fun σ3 e3 => ?_)
  refine q_state e3 ?_
  exact q_vret C rfl d_Tk_comeFrom_15 rfl
