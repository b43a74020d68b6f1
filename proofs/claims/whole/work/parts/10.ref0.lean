/-! the reference, methods 0 -/
theorem d_M_in_0 : decode qM_in.1 0 = .ok (.lload_n 0, 1) := by decide +kernel
theorem d_M_in_1 : decode qM_in.1 1 = .ok (.lload_n 2, 1) := by decide +kernel
theorem d_M_in_2 : decode qM_in.1 2 = .ok (.lcmp, 1) := by decide +kernel
theorem d_M_in_3 : decode qM_in.1 3 = .ok (.ifCond .lt 14, 3) := by decide +kernel
theorem d_M_in_6 : decode qM_in.1 6 = .ok (.lload_n 0, 1) := by decide +kernel
theorem d_M_in_7 : decode qM_in.1 7 = .ok (.lload 4, 2) := by decide +kernel
theorem d_M_in_9 : decode qM_in.1 9 = .ok (.lcmp, 1) := by decide +kernel
theorem d_M_in_10 : decode qM_in.1 10 = .ok (.ifCond .gt 7, 3) := by decide +kernel
theorem d_M_in_13 : decode qM_in.1 13 = .ok (.iconst 1, 1) := by decide +kernel
theorem d_M_in_14 : decode qM_in.1 14 = .ok (.goto 4, 3) := by decide +kernel
theorem d_M_in_17 : decode qM_in.1 17 = .ok (.iconst 0, 1) := by decide +kernel
theorem d_M_in_18 : decode qM_in.1 18 = .ok (.ireturn, 1) := by decide +kernel
set_option maxRecDepth 100000 in
def m_in (p0 : Int64) (p2 : Int64) (p4 : Int64) : Option (Int32) :=
  Jn (fun (x1 : Int32) =>
  Gd ((x1 : Int32) &&& 1 = x1) <|
  some x1
  ) fun J2 =>
  Jn (fun (_ : Unit) =>
  J2 (0 : Int32)
  ) fun J4 =>
  if (p0 : Int64) < p2 then (
  J4 ()
  ) else (
  if (p4 : Int64) < p0 then (
  J4 ()
  ) else (
  J2 (1 : Int32)
  )
  )
set_option maxHeartbeats 4000000 in
set_option maxRecDepth 100000 in
theorem cM_in (l : Launch) (g : Ge) (hi : injB wM.2 g) (σ : St) (p0 : Int64) (p2 : Int64) (p4 : Int64) (x : Int32) (h : m_in p0 p2 p4 = some x) : Ct l wM g yM_in qM_in 0 0 [.long p0, .long p2, .long p4] σ (some (.int x), σ) := by
  refine Ct.of (out := (o_r σ)) FM_in rfl hi rfl h (fun z hz C => ?_)
  clear h
  subst hz
  unfold m_in
  show Rt z qM_in wM g (o_r σ) 0 [(0, .long p0), (2, .long p2), (4, .long p4)] [] σ _
  refine q_lload_n (pc' := 1) C 0 d_M_in_0 rfl rfl ?_
  refine q_lload_n (pc' := 2) C 1 d_M_in_1 rfl rfl ?_
  refine q_join (fun J2 : Int32 → Option (Int32) => ∀ (x1 : Int32), Rt z qM_in wM g (o_r σ) 18 [] [.int x1] σ (J2 x1)) (fun x1 => ?_) (fun J2 hJ2 => ?_)
  · refine q_guard (fun gx3 => ?_)
    exact q_zret C rfl gx3 d_M_in_18 rfl
  refine q_join (fun J4 : Unit → Option (Int32) => ∀ (_ : Unit), Rt z qM_in wM g (o_r σ) 17 [] [] σ (J4 ())) (fun _ => ?_) (fun J4 hJ4 => ?_)
  · refine q_iconst (pc' := 18) C d_M_in_17 ki_0 rfl ?_
    exact Rt.sub [] rfl (hJ2 (0 : Int32))
  refine q_lcmp_lt (tgt := 17) (pc' := 6) C d_M_in_2 d_M_in_3 rfl rfl ?_ ?_
  · exact Rt.sub [] rfl (hJ4 ())
  · refine q_lload_n (pc' := 7) C 0 d_M_in_6 rfl rfl ?_
    refine q_lload (pc' := 9) C 2 d_M_in_7 rfl rfl ?_
    refine q_lcmp_gt (tgt := 17) (pc' := 13) C d_M_in_9 d_M_in_10 rfl rfl ?_ ?_
    · exact Rt.sub [] rfl (hJ4 ())
    · refine q_iconst (pc' := 14) C d_M_in_13 ki_1 rfl ?_
      refine q_goto (tgt := 18) C d_M_in_14 rfl ?_
      exact Rt.sub [] rfl (hJ2 (1 : Int32))
theorem d_M_lesser_0 : decode qM_lesser.1 0 = .ok (.iload_n 0, 1) := by decide +kernel
theorem d_M_lesser_1 : decode qM_lesser.1 1 = .ok (.iload_n 1, 1) := by decide +kernel
theorem d_M_lesser_2 : decode qM_lesser.1 2 = .ok (.if_icmp .ge 7, 3) := by decide +kernel
theorem d_M_lesser_5 : decode qM_lesser.1 5 = .ok (.iload_n 0, 1) := by decide +kernel
theorem d_M_lesser_6 : decode qM_lesser.1 6 = .ok (.goto 4, 3) := by decide +kernel
theorem d_M_lesser_9 : decode qM_lesser.1 9 = .ok (.iload_n 1, 1) := by decide +kernel
theorem d_M_lesser_10 : decode qM_lesser.1 10 = .ok (.ireturn, 1) := by decide +kernel
set_option maxRecDepth 100000 in
def m_lesser (p0 : Int32) (p1 : Int32) : Option (Int32) :=
  Jn (fun (x1 : Int32) =>
  some x1
  ) fun J2 =>
  if (p1 : Int32) ≤ p0 then (
  J2 p1
  ) else (
  J2 p0
  )
set_option maxHeartbeats 4000000 in
set_option maxRecDepth 100000 in
theorem cM_lesser (l : Launch) (g : Ge) (hi : injB wM.2 g) (σ : St) (p0 : Int32) (p1 : Int32) (x : Int32) (h : m_lesser p0 p1 = some x) : Ct l wM g yM_lesser qM_lesser 0 0 [.int p0, .int p1] σ (some (.int x), σ) := by
  refine Ct.of (out := (o_r σ)) FM_lesser rfl hi rfl h (fun z hz C => ?_)
  clear h
  subst hz
  unfold m_lesser
  show Rt z qM_lesser wM g (o_r σ) 0 [(0, .int p0), (1, .int p1)] [] σ _
  refine q_iload_n (pc' := 1) C 0 d_M_lesser_0 rfl rfl ?_
  refine q_iload_n (pc' := 2) C 1 d_M_lesser_1 rfl rfl ?_
  refine q_join (fun J2 : Int32 → Option (Int32) => ∀ (x1 : Int32), Rt z qM_lesser wM g (o_r σ) 10 [] [.int x1] σ (J2 x1)) (fun x1 => ?_) (fun J2 hJ2 => ?_)
  · exact q_iret C rfl d_M_lesser_10 rfl
  refine q_icmp_ge (tgt := 9) (pc' := 5) C d_M_lesser_2 rfl rfl ?_ ?_
  · refine q_iload_n (pc' := 10) C 1 d_M_lesser_9 rfl rfl ?_
    exact Rt.sub [] rfl (hJ2 p1)
  · refine q_iload_n (pc' := 6) C 0 d_M_lesser_5 rfl rfl ?_
    refine q_goto (tgt := 10) C d_M_lesser_6 rfl ?_
    exact Rt.sub [] rfl (hJ2 p0)
theorem d_M_greater_0 : decode qM_greater.1 0 = .ok (.iload_n 0, 1) := by decide +kernel
theorem d_M_greater_1 : decode qM_greater.1 1 = .ok (.iload_n 1, 1) := by decide +kernel
theorem d_M_greater_2 : decode qM_greater.1 2 = .ok (.if_icmp .le 7, 3) := by decide +kernel
theorem d_M_greater_5 : decode qM_greater.1 5 = .ok (.iload_n 0, 1) := by decide +kernel
theorem d_M_greater_6 : decode qM_greater.1 6 = .ok (.goto 4, 3) := by decide +kernel
theorem d_M_greater_9 : decode qM_greater.1 9 = .ok (.iload_n 1, 1) := by decide +kernel
theorem d_M_greater_10 : decode qM_greater.1 10 = .ok (.ireturn, 1) := by decide +kernel
set_option maxRecDepth 100000 in
def m_greater (p0 : Int32) (p1 : Int32) : Option (Int32) :=
  Jn (fun (x1 : Int32) =>
  some x1
  ) fun J2 =>
  if (p0 : Int32) ≤ p1 then (
  J2 p1
  ) else (
  J2 p0
  )
set_option maxHeartbeats 4000000 in
set_option maxRecDepth 100000 in
theorem cM_greater (l : Launch) (g : Ge) (hi : injB wM.2 g) (σ : St) (p0 : Int32) (p1 : Int32) (x : Int32) (h : m_greater p0 p1 = some x) : Ct l wM g yM_greater qM_greater 0 0 [.int p0, .int p1] σ (some (.int x), σ) := by
  refine Ct.of (out := (o_r σ)) FM_greater rfl hi rfl h (fun z hz C => ?_)
  clear h
  subst hz
  unfold m_greater
  show Rt z qM_greater wM g (o_r σ) 0 [(0, .int p0), (1, .int p1)] [] σ _
  refine q_iload_n (pc' := 1) C 0 d_M_greater_0 rfl rfl ?_
  refine q_iload_n (pc' := 2) C 1 d_M_greater_1 rfl rfl ?_
  refine q_join (fun J2 : Int32 → Option (Int32) => ∀ (x1 : Int32), Rt z qM_greater wM g (o_r σ) 10 [] [.int x1] σ (J2 x1)) (fun x1 => ?_) (fun J2 hJ2 => ?_)
  · exact q_iret C rfl d_M_greater_10 rfl
  refine q_icmp_le (tgt := 9) (pc' := 5) C d_M_greater_2 rfl rfl ?_ ?_
  · refine q_iload_n (pc' := 10) C 1 d_M_greater_9 rfl rfl ?_
    exact Rt.sub [] rfl (hJ2 p1)
  · refine q_iload_n (pc' := 6) C 0 d_M_greater_5 rfl rfl ?_
    refine q_goto (tgt := 10) C d_M_greater_6 rfl ?_
    exact Rt.sub [] rfl (hJ2 p0)
theorem d_M_around_0 : decode qM_around.1 0 = .ok (.iload_n 0, 1) := by decide +kernel
theorem d_M_around_1 : decode qM_around.1 1 = .ok (.bipush 24, 2) := by decide +kernel
theorem d_M_around_3 : decode qM_around.1 3 = .ok (.irem, 1) := by decide +kernel
theorem d_M_around_4 : decode qM_around.1 4 = .ok (.bipush 24, 2) := by decide +kernel
theorem d_M_around_6 : decode qM_around.1 6 = .ok (.iadd, 1) := by decide +kernel
theorem d_M_around_7 : decode qM_around.1 7 = .ok (.bipush 24, 2) := by decide +kernel
theorem d_M_around_9 : decode qM_around.1 9 = .ok (.irem, 1) := by decide +kernel
theorem d_M_around_10 : decode qM_around.1 10 = .ok (.ireturn, 1) := by decide +kernel
set_option maxRecDepth 100000 in
def m_around (p0 : Int32) : Option (Int32) :=
  some (((p0 - p0 / (24 : Int32) * (24 : Int32)) + (24 : Int32)) - ((p0 - p0 / (24 : Int32) * (24 : Int32)) + (24 : Int32)) / (24 : Int32) * (24 : Int32))
set_option maxHeartbeats 4000000 in
set_option maxRecDepth 100000 in
theorem cM_around (l : Launch) (g : Ge) (hi : injB wM.2 g) (σ : St) (p0 : Int32) (x : Int32) (h : m_around p0 = some x) : Ct l wM g yM_around qM_around 0 0 [.int p0] σ (some (.int x), σ) := by
  refine Ct.of (out := (o_r σ)) FM_around rfl hi rfl h (fun z hz C => ?_)
  clear h
  subst hz
  unfold m_around
  show Rt z qM_around wM g (o_r σ) 0 [(0, .int p0)] [] σ _
  refine q_iload_n (pc' := 1) C 0 d_M_around_0 rfl rfl ?_
  refine q_bipush (pc' := 3) C d_M_around_1 kb_24 rfl ?_
  refine q_irem (pc' := 4) C (by decide) d_M_around_3 rfl ?_
  refine q_bipush (pc' := 6) C d_M_around_4 kb_24 rfl ?_
  refine q_iadd (pc' := 7) C d_M_around_6 rfl ?_
  refine q_bipush (pc' := 9) C d_M_around_7 kb_24 rfl ?_
  refine q_irem (pc' := 10) C (by decide) d_M_around_9 rfl ?_
  exact q_iret C rfl d_M_around_10 rfl
theorem d_M_sx_0 : decode qM_sx.1 0 = .ok (.aload_n 0, 1) := by decide +kernel
theorem d_M_sx_1 : decode qM_sx.1 1 = .ok (.getfield 39, 3) := by decide +kernel
theorem d_M_sx_4 : decode qM_sx.1 4 = .ok (.iload_n 1, 1) := by decide +kernel
theorem d_M_sx_5 : decode qM_sx.1 5 = .ok (.invokestatic 156, 3) := by decide +kernel
theorem d_M_sx_8 : decode qM_sx.1 8 = .ok (.iaload, 1) := by decide +kernel
theorem d_M_sx_9 : decode qM_sx.1 9 = .ok (.ireturn, 1) := by decide +kernel
set_option maxRecDepth 100000 in
def m_sx (σ : St) (p1 : Int32) : Option (Int32) :=
  Option.bind (m_around p1) fun x1 =>
  Gd (Ix x1 24) <|
  some (σ 5 (Int32.toNatClampNeg x1))
set_option maxHeartbeats 4000000 in
set_option maxRecDepth 100000 in
theorem cM_sx (l : Launch) (g : Ge) (hi : injB wM.2 g) (σ : St) (p1 : Int32) (x : Int32) (h : m_sx σ p1 = some x) : Ct l wM g yM_sx qM_sx 1 20 [.ref (g.1 0), .int p1] σ (some (.int x), σ) := by
  refine Ct.of (out := (o_r σ)) FM_sx rfl hi rfl h (fun z hz C => ?_)
  clear h
  subst hz
  unfold m_sx
  show Rt z qM_sx wM g (o_r σ) 0 [(0, .ref (g.1 0)), (1, .int p1)] [] σ _
  refine q_aload_n (pc' := 1) C 0 d_M_sx_0 rfl rfl ?_
  refine gM_39 (pc' := 4) C d_M_sx_1 rfl rfl ?_
  refine q_iload_n (pc' := 5) C 1 d_M_sx_4 rfl rfl ?_
  refine q_callSr (fr' := 0) (lo' := 0) (pc' := 8) C FM_around lmM_156 d_M_sx_5 [.int p1] [.ref (g.1 5)] rfl rfl (Nat.le_of_ble_eq_true rfl) ⟨rfl, rfl⟩ (fun x h => cM_around _ g hi σ p1 x h) rfl (fun x1 _ => ?_)
  refine q_iald (pc' := 9) C 5 jM_5 kM_5 d_M_sx_8 rfl ?_
  exact q_iret C rfl d_M_sx_9 rfl
theorem d_M_sy_0 : decode qM_sy.1 0 = .ok (.aload_n 0, 1) := by decide +kernel
theorem d_M_sy_1 : decode qM_sy.1 1 = .ok (.getfield 39, 3) := by decide +kernel
theorem d_M_sy_4 : decode qM_sy.1 4 = .ok (.iload_n 1, 1) := by decide +kernel
theorem d_M_sy_5 : decode qM_sy.1 5 = .ok (.bipush 6, 2) := by decide +kernel
theorem d_M_sy_7 : decode qM_sy.1 7 = .ok (.iadd, 1) := by decide +kernel
theorem d_M_sy_8 : decode qM_sy.1 8 = .ok (.invokestatic 156, 3) := by decide +kernel
theorem d_M_sy_11 : decode qM_sy.1 11 = .ok (.iaload, 1) := by decide +kernel
theorem d_M_sy_12 : decode qM_sy.1 12 = .ok (.ireturn, 1) := by decide +kernel
set_option maxRecDepth 100000 in
def m_sy (σ : St) (p1 : Int32) : Option (Int32) :=
  Option.bind (m_around (p1 + (6 : Int32))) fun x1 =>
  Gd (Ix x1 24) <|
  some (σ 5 (Int32.toNatClampNeg x1))
set_option maxHeartbeats 4000000 in
set_option maxRecDepth 100000 in
theorem cM_sy (l : Launch) (g : Ge) (hi : injB wM.2 g) (σ : St) (p1 : Int32) (x : Int32) (h : m_sy σ p1 = some x) : Ct l wM g yM_sy qM_sy 1 20 [.ref (g.1 0), .int p1] σ (some (.int x), σ) := by
  refine Ct.of (out := (o_r σ)) FM_sy rfl hi rfl h (fun z hz C => ?_)
  clear h
  subst hz
  unfold m_sy
  show Rt z qM_sy wM g (o_r σ) 0 [(0, .ref (g.1 0)), (1, .int p1)] [] σ _
  refine q_aload_n (pc' := 1) C 0 d_M_sy_0 rfl rfl ?_
  refine gM_39 (pc' := 4) C d_M_sy_1 rfl rfl ?_
  refine q_iload_n (pc' := 5) C 1 d_M_sy_4 rfl rfl ?_
  refine q_bipush (pc' := 7) C d_M_sy_5 kb_6 rfl ?_
  refine q_iadd (pc' := 8) C d_M_sy_7 rfl ?_
  refine q_callSr (fr' := 0) (lo' := 0) (pc' := 11) C FM_around lmM_156 d_M_sy_8 [.int (p1 + (6 : Int32))] [.ref (g.1 5)] rfl rfl (Nat.le_of_ble_eq_true rfl) ⟨rfl, rfl⟩ (fun x h => cM_around _ g hi σ (p1 + (6 : Int32)) x h) rfl (fun x1 _ => ?_)
  refine q_iald (pc' := 12) C 5 jM_5 kM_5 d_M_sy_11 rfl ?_
  exact q_iret C rfl d_M_sy_12 rfl
theorem d_M_ahead_0 : decode qM_ahead.1 0 = .ok (.iload_n 1, 1) := by decide +kernel
theorem d_M_ahead_1 : decode qM_ahead.1 1 = .ok (.i2l, 1) := by decide +kernel
theorem d_M_ahead_2 : decode qM_ahead.1 2 = .ok (.iload_n 2, 1) := by decide +kernel
theorem d_M_ahead_3 : decode qM_ahead.1 3 = .ok (.i2l, 1) := by decide +kernel
theorem d_M_ahead_4 : decode qM_ahead.1 4 = .ok (.iload_n 3, 1) := by decide +kernel
theorem d_M_ahead_5 : decode qM_ahead.1 5 = .ok (.i2l, 1) := by decide +kernel
theorem d_M_ahead_6 : decode qM_ahead.1 6 = .ok (.lmul, 1) := by decide +kernel
theorem d_M_ahead_7 : decode qM_ahead.1 7 = .ok (.ldc2_w 160, 3) := by decide +kernel
theorem d_M_ahead_10 : decode qM_ahead.1 10 = .ok (.ldiv, 1) := by decide +kernel
theorem d_M_ahead_11 : decode qM_ahead.1 11 = .ok (.ladd, 1) := by decide +kernel
theorem d_M_ahead_12 : decode qM_ahead.1 12 = .ok (.l2i, 1) := by decide +kernel
theorem d_M_ahead_13 : decode qM_ahead.1 13 = .ok (.ireturn, 1) := by decide +kernel
set_option maxRecDepth 100000 in
def m_ahead (p1 : Int32) (p2 : Int32) (p3 : Int32) : Option (Int32) :=
  some (Int64.toInt32 ((Int32.toInt64 p1) + (((Int32.toInt64 p2) * (Int32.toInt64 p3)) / (1000 : Int64))))
set_option maxHeartbeats 4000000 in
set_option maxRecDepth 100000 in
theorem cM_ahead (l : Launch) (g : Ge) (hi : injB wM.2 g) (σ : St) (p1 : Int32) (p2 : Int32) (p3 : Int32) (x : Int32) (h : m_ahead p1 p2 p3 = some x) : Ct l wM g yM_ahead qM_ahead 0 0 [.ref (g.1 0), .int p1, .int p2, .int p3] σ (some (.int x), σ) := by
  refine Ct.of (out := (o_r σ)) FM_ahead rfl hi rfl h (fun z hz C => ?_)
  clear h
  subst hz
  unfold m_ahead
  show Rt z qM_ahead wM g (o_r σ) 0 [(0, .ref (g.1 0)), (1, .int p1), (2, .int p2), (3, .int p3)] [] σ _
  refine q_iload_n (pc' := 1) C 1 d_M_ahead_0 rfl rfl ?_
  refine q_i2l (pc' := 2) C d_M_ahead_1 rfl ?_
  refine q_iload_n (pc' := 3) C 2 d_M_ahead_2 rfl rfl ?_
  refine q_i2l (pc' := 4) C d_M_ahead_3 rfl ?_
  refine q_iload_n (pc' := 5) C 3 d_M_ahead_4 rfl rfl ?_
  refine q_i2l (pc' := 6) C d_M_ahead_5 rfl ?_
  refine q_lmul (pc' := 7) C d_M_ahead_6 rfl ?_
  refine q_ldc2 (pc' := 10) C lLM_160 d_M_ahead_7 rfl ?_
  refine q_ldiv (pc' := 11) C (by decide) d_M_ahead_10 rfl ?_
  refine q_ladd (pc' := 12) C d_M_ahead_11 rfl ?_
  refine q_l2i (pc' := 13) C d_M_ahead_12 rfl ?_
  exact q_iret C rfl d_M_ahead_13 rfl
theorem d_M_distance_0 : decode qM_distance.1 0 = .ok (.iload_n 2, 1) := by decide +kernel
theorem d_M_distance_1 : decode qM_distance.1 1 = .ok (.i2l, 1) := by decide +kernel
theorem d_M_distance_2 : decode qM_distance.1 2 = .ok (.iload_n 0, 1) := by decide +kernel
theorem d_M_distance_3 : decode qM_distance.1 3 = .ok (.i2l, 1) := by decide +kernel
theorem d_M_distance_4 : decode qM_distance.1 4 = .ok (.lsub, 1) := by decide +kernel
theorem d_M_distance_5 : decode qM_distance.1 5 = .ok (.lstore 4, 2) := by decide +kernel
theorem d_M_distance_7 : decode qM_distance.1 7 = .ok (.iload_n 3, 1) := by decide +kernel
theorem d_M_distance_8 : decode qM_distance.1 8 = .ok (.i2l, 1) := by decide +kernel
theorem d_M_distance_9 : decode qM_distance.1 9 = .ok (.iload_n 1, 1) := by decide +kernel
theorem d_M_distance_10 : decode qM_distance.1 10 = .ok (.i2l, 1) := by decide +kernel
theorem d_M_distance_11 : decode qM_distance.1 11 = .ok (.lsub, 1) := by decide +kernel
theorem d_M_distance_12 : decode qM_distance.1 12 = .ok (.lstore 6, 2) := by decide +kernel
theorem d_M_distance_14 : decode qM_distance.1 14 = .ok (.lload 4, 2) := by decide +kernel
theorem d_M_distance_16 : decode qM_distance.1 16 = .ok (.lload 4, 2) := by decide +kernel
theorem d_M_distance_18 : decode qM_distance.1 18 = .ok (.lmul, 1) := by decide +kernel
theorem d_M_distance_19 : decode qM_distance.1 19 = .ok (.lload 6, 2) := by decide +kernel
theorem d_M_distance_21 : decode qM_distance.1 21 = .ok (.lload 6, 2) := by decide +kernel
theorem d_M_distance_23 : decode qM_distance.1 23 = .ok (.lmul, 1) := by decide +kernel
theorem d_M_distance_24 : decode qM_distance.1 24 = .ok (.ladd, 1) := by decide +kernel
theorem d_M_distance_25 : decode qM_distance.1 25 = .ok (.lstore 8, 2) := by decide +kernel
theorem d_M_distance_27 : decode qM_distance.1 27 = .ok (.lconst 0, 1) := by decide +kernel
theorem d_M_distance_28 : decode qM_distance.1 28 = .ok (.lstore 10, 2) := by decide +kernel
theorem d_M_distance_30 : decode qM_distance.1 30 = .ok (.bipush 30, 2) := by decide +kernel
theorem d_M_distance_32 : decode qM_distance.1 32 = .ok (.istore 12, 2) := by decide +kernel
theorem d_M_distance_34 : decode qM_distance.1 34 = .ok (.iload 12, 2) := by decide +kernel
theorem d_M_distance_36 : decode qM_distance.1 36 = .ok (.ifCond .lt 38, 3) := by decide +kernel
theorem d_M_distance_39 : decode qM_distance.1 39 = .ok (.lload 10, 2) := by decide +kernel
theorem d_M_distance_41 : decode qM_distance.1 41 = .ok (.lconst 1, 1) := by decide +kernel
theorem d_M_distance_42 : decode qM_distance.1 42 = .ok (.iload 12, 2) := by decide +kernel
theorem d_M_distance_44 : decode qM_distance.1 44 = .ok (.lshl, 1) := by decide +kernel
theorem d_M_distance_45 : decode qM_distance.1 45 = .ok (.ladd, 1) := by decide +kernel
theorem d_M_distance_46 : decode qM_distance.1 46 = .ok (.lstore 13, 2) := by decide +kernel
theorem d_M_distance_48 : decode qM_distance.1 48 = .ok (.lload 13, 2) := by decide +kernel
theorem d_M_distance_50 : decode qM_distance.1 50 = .ok (.lload 13, 2) := by decide +kernel
theorem d_M_distance_52 : decode qM_distance.1 52 = .ok (.lmul, 1) := by decide +kernel
theorem d_M_distance_53 : decode qM_distance.1 53 = .ok (.lload 8, 2) := by decide +kernel
theorem d_M_distance_55 : decode qM_distance.1 55 = .ok (.lcmp, 1) := by decide +kernel
theorem d_M_distance_56 : decode qM_distance.1 56 = .ok (.ifCond .gt 8, 3) := by decide +kernel
theorem d_M_distance_59 : decode qM_distance.1 59 = .ok (.lload 13, 2) := by decide +kernel
theorem d_M_distance_61 : decode qM_distance.1 61 = .ok (.goto 5, 3) := by decide +kernel
theorem d_M_distance_64 : decode qM_distance.1 64 = .ok (.lload 10, 2) := by decide +kernel
theorem d_M_distance_66 : decode qM_distance.1 66 = .ok (.lstore 10, 2) := by decide +kernel
theorem d_M_distance_68 : decode qM_distance.1 68 = .ok (.iinc 12 (-1), 3) := by decide +kernel
theorem d_M_distance_71 : decode qM_distance.1 71 = .ok (.goto (-37), 3) := by decide +kernel
theorem d_M_distance_74 : decode qM_distance.1 74 = .ok (.lload 10, 2) := by decide +kernel
theorem d_M_distance_76 : decode qM_distance.1 76 = .ok (.l2i, 1) := by decide +kernel
theorem d_M_distance_77 : decode qM_distance.1 77 = .ok (.ireturn, 1) := by decide +kernel
set_option maxRecDepth 100000 in
def lb_m_distance_34 (x3 : Int64) (J5 : Int64 → Option (Int32)) (ih7 : Int64 × Int32 → Option (Int32)) (a6 : Int64 × Int32) : Option (Int32) :=
  if (a6.2 : Int32) < 0 then (
  J5 a6.1
  ) else (
  Lt ((a6.1 + ((1 : Int64) <<< (Int32.toInt64 a6.2 &&& 63))) : Int64) fun x8 =>
  Jn (fun (x9 : Int64) =>
  Lt (a6.2 + (-1 : Int32) : Int32) fun x11 =>
  ih7 (x9, x11)
  ) fun J10 =>
  if (x3 : Int64) < (x8 * x8) then (
  J10 a6.1
  ) else (
  J10 x8
  )
  )
set_option maxRecDepth 100000 in
def m_distance (p0 : Int32) (p1 : Int32) (p2 : Int32) (p3 : Int32) : Option (Int32) :=
  Lt (((Int32.toInt64 p2) - (Int32.toInt64 p0)) : Int64) fun x1 =>
  Lt (((Int32.toInt64 p3) - (Int32.toInt64 p1)) : Int64) fun x2 =>
  Lt (((x1 * x1) + (x2 * x2)) : Int64) fun x3 =>
  Jn (fun (x4 : Int64) =>
  some (Int64.toInt32 x4)
  ) fun J5 =>
  lp (lb_m_distance_34 x3 J5) 4000 ((0 : Int64), (30 : Int32))
set_option maxHeartbeats 4000000 in
set_option maxRecDepth 100000 in
theorem cM_distance (l : Launch) (g : Ge) (hi : injB wM.2 g) (σ : St) (p0 : Int32) (p1 : Int32) (p2 : Int32) (p3 : Int32) (x : Int32) (h : m_distance p0 p1 p2 p3 = some x) : Ct l wM g yM_distance qM_distance 0 0 [.int p0, .int p1, .int p2, .int p3] σ (some (.int x), σ) := by
  refine Ct.of (out := (o_r σ)) FM_distance rfl hi rfl h (fun z hz C => ?_)
  clear h
  subst hz
  unfold m_distance
  show Rt z qM_distance wM g (o_r σ) 0 [(0, .int p0), (1, .int p1), (2, .int p2), (3, .int p3)] [] σ _
  refine q_iload_n (pc' := 1) C 2 d_M_distance_0 rfl rfl ?_
  refine q_i2l (pc' := 2) C d_M_distance_1 rfl ?_
  refine q_iload_n (pc' := 3) C 0 d_M_distance_2 rfl rfl ?_
  refine q_i2l (pc' := 4) C d_M_distance_3 rfl ?_
  refine q_lsub (pc' := 5) C d_M_distance_4 rfl ?_
  refine q_let (fun x1 e1 => ?_)
  refine q_topl e1 ?_
  refine q_lstore (pc' := 7) (lv' := [(4, .long x1), (0, .int p0), (1, .int p1), (2, .int p2), (3, .int p3)]) C d_M_distance_5 (by decide) rfl rfl ?_
  refine q_iload_n (pc' := 8) C 4 d_M_distance_7 rfl rfl ?_
  refine q_i2l (pc' := 9) C d_M_distance_8 rfl ?_
  refine q_iload_n (pc' := 10) C 2 d_M_distance_9 rfl rfl ?_
  refine q_i2l (pc' := 11) C d_M_distance_10 rfl ?_
  refine q_lsub (pc' := 12) C d_M_distance_11 rfl ?_
  refine q_let (fun x2 e2 => ?_)
  refine q_topl e2 ?_
  refine q_lstore (pc' := 14) (lv' := [(6, .long x2), (4, .long x1), (0, .int p0), (1, .int p1), (2, .int p2), (3, .int p3)]) C d_M_distance_12 (by decide) rfl rfl ?_
  refine q_lload (pc' := 16) C 1 d_M_distance_14 rfl rfl ?_
  refine q_lload (pc' := 18) C 1 d_M_distance_16 rfl rfl ?_
  refine q_lmul (pc' := 19) C d_M_distance_18 rfl ?_
  refine q_lload (pc' := 21) C 0 d_M_distance_19 rfl rfl ?_
  refine q_lload (pc' := 23) C 0 d_M_distance_21 rfl rfl ?_
  refine q_lmul (pc' := 24) C d_M_distance_23 rfl ?_
  refine q_ladd (pc' := 25) C d_M_distance_24 rfl ?_
  refine q_let (fun x3 e3 => ?_)
  refine q_topl e3 ?_
  refine q_lstore (pc' := 27) (lv' := [(8, .long x3), (6, .long x2), (4, .long x1), (0, .int p0), (1, .int p1), (2, .int p2), (3, .int p3)]) C d_M_distance_25 (by decide) rfl rfl ?_
  refine q_lconst (pc' := 28) C d_M_distance_27 kl_0 rfl ?_
  refine q_lstore (pc' := 30) (lv' := [(10, .long (0 : Int64)), (8, .long x3), (6, .long x2), (4, .long x1), (0, .int p0), (1, .int p1), (2, .int p2), (3, .int p3)]) C d_M_distance_28 (by decide) rfl rfl ?_
  refine q_bipush (pc' := 32) C d_M_distance_30 kb_30 rfl ?_
  refine q_istore (pc' := 34) (lv' := [(12, .int (30 : Int32)), (10, .long (0 : Int64)), (8, .long x3), (6, .long x2), (4, .long x1), (0, .int p0), (1, .int p1), (2, .int p2), (3, .int p3)]) C d_M_distance_32 (by decide) rfl rfl ?_
  refine q_join (fun J5 : Int64 → Option (Int32) => ∀ (x4 : Int64), Rt z qM_distance wM g (o_r σ) 74 [(10, .long x4)] [] σ (J5 x4)) (fun x4 => ?_) (fun J5 hJ5 => ?_)
  · refine q_lload (pc' := 76) C 0 d_M_distance_74 rfl rfl ?_
    refine q_l2i (pc' := 77) C d_M_distance_76 rfl ?_
    exact q_iret C rfl d_M_distance_77 rfl
  refine Rt.sub [2, 1, 0] rfl (q_lp (fun a6 : Int64 × Int32 => [(8, .long x3), (10, .long a6.1), (12, .int a6.2)]) (fun a6 => []) (fun a6 => σ) (fun ih7 hih7 a6 => ?_) 4000 ((0 : Int64), (30 : Int32)))
  unfold lb_m_distance_34
  refine q_iload (pc' := 36) C 2 d_M_distance_34 rfl rfl ?_
  refine q_if_lt (tgt := 74) (pc' := 39) C d_M_distance_36 rfl rfl ?_ ?_
  · exact Rt.sub [1] rfl (hJ5 a6.1)
  · refine q_lload (pc' := 41) C 1 d_M_distance_39 rfl rfl ?_
    refine q_lconst (pc' := 42) C d_M_distance_41 kl_1 rfl ?_
    refine q_iload (pc' := 44) C 2 d_M_distance_42 rfl rfl ?_
    refine q_lshl (pc' := 45) C d_M_distance_44 rfl ?_
    refine q_ladd (pc' := 46) C d_M_distance_45 rfl ?_
    refine q_let (fun x8 e8 => ?_)
    refine q_topl e8 ?_
    refine q_lstore (pc' := 48) (lv' := [(13, .long x8), (8, .long x3), (10, .long a6.1), (12, .int a6.2)]) C d_M_distance_46 (by decide) rfl rfl ?_
    refine q_lload (pc' := 50) C 0 d_M_distance_48 rfl rfl ?_
    refine q_lload (pc' := 52) C 0 d_M_distance_50 rfl rfl ?_
    refine q_lmul (pc' := 53) C d_M_distance_52 rfl ?_
    refine q_lload (pc' := 55) C 1 d_M_distance_53 rfl rfl ?_
    refine q_join (fun J10 : Int64 → Option (Int32) => ∀ (x9 : Int64), Rt z qM_distance wM g (o_r σ) 66 [(8, .long x3), (12, .int a6.2)] [.long x9] σ (J10 x9)) (fun x9 => ?_) (fun J10 hJ10 => ?_)
    · refine q_lstore (pc' := 68) (lv' := [(10, .long x9), (8, .long x3), (12, .int a6.2)]) C d_M_distance_66 (by decide) rfl rfl ?_
      refine q_let (fun x11 e11 => ?_)
      refine q_iinc (pc' := 71) (lv' := [(12, .int x11), (10, .long x9), (8, .long x3)]) C 2 d_M_distance_68 rfl (by rw [e11, ki_m1]) (by decide) rfl rfl ?_
      refine q_goto (tgt := 34) C d_M_distance_71 rfl ?_
      exact Rt.sub [2, 1, 0] rfl (hih7 (x9, x11))
    refine q_lcmp_gt (tgt := 64) (pc' := 59) C d_M_distance_55 d_M_distance_56 rfl rfl ?_ ?_
    · refine q_lload (pc' := 66) C 2 d_M_distance_64 rfl rfl ?_
      exact Rt.sub [1, 3] rfl (hJ10 a6.1)
    · refine q_lload (pc' := 61) C 0 d_M_distance_59 rfl rfl ?_
      refine q_goto (tgt := 66) C d_M_distance_61 rfl ?_
      exact Rt.sub [1, 3] rfl (hJ10 x8)
theorem d_M_courseTo_0 : decode qM_courseTo.1 0 = .ok (.iload_n 3, 1) := by decide +kernel
theorem d_M_courseTo_1 : decode qM_courseTo.1 1 = .ok (.i2l, 1) := by decide +kernel
theorem d_M_courseTo_2 : decode qM_courseTo.1 2 = .ok (.iload_n 1, 1) := by decide +kernel
theorem d_M_courseTo_3 : decode qM_courseTo.1 3 = .ok (.i2l, 1) := by decide +kernel
theorem d_M_courseTo_4 : decode qM_courseTo.1 4 = .ok (.lsub, 1) := by decide +kernel
theorem d_M_courseTo_5 : decode qM_courseTo.1 5 = .ok (.lstore 5, 2) := by decide +kernel
theorem d_M_courseTo_7 : decode qM_courseTo.1 7 = .ok (.iload 4, 2) := by decide +kernel
theorem d_M_courseTo_9 : decode qM_courseTo.1 9 = .ok (.i2l, 1) := by decide +kernel
theorem d_M_courseTo_10 : decode qM_courseTo.1 10 = .ok (.iload_n 2, 1) := by decide +kernel
theorem d_M_courseTo_11 : decode qM_courseTo.1 11 = .ok (.i2l, 1) := by decide +kernel
theorem d_M_courseTo_12 : decode qM_courseTo.1 12 = .ok (.lsub, 1) := by decide +kernel
theorem d_M_courseTo_13 : decode qM_courseTo.1 13 = .ok (.lstore 7, 2) := by decide +kernel
theorem d_M_courseTo_15 : decode qM_courseTo.1 15 = .ok (.iconst 0, 1) := by decide +kernel
theorem d_M_courseTo_16 : decode qM_courseTo.1 16 = .ok (.istore 9, 2) := by decide +kernel
theorem d_M_courseTo_18 : decode qM_courseTo.1 18 = .ok (.lload 5, 2) := by decide +kernel
theorem d_M_courseTo_20 : decode qM_courseTo.1 20 = .ok (.aload_n 0, 1) := by decide +kernel
theorem d_M_courseTo_21 : decode qM_courseTo.1 21 = .ok (.iconst 0, 1) := by decide +kernel
theorem d_M_courseTo_22 : decode qM_courseTo.1 22 = .ok (.invokevirtual 162, 3) := by decide +kernel
theorem d_M_courseTo_25 : decode qM_courseTo.1 25 = .ok (.i2l, 1) := by decide +kernel
theorem d_M_courseTo_26 : decode qM_courseTo.1 26 = .ok (.lmul, 1) := by decide +kernel
theorem d_M_courseTo_27 : decode qM_courseTo.1 27 = .ok (.lload 7, 2) := by decide +kernel
theorem d_M_courseTo_29 : decode qM_courseTo.1 29 = .ok (.aload_n 0, 1) := by decide +kernel
theorem d_M_courseTo_30 : decode qM_courseTo.1 30 = .ok (.iconst 0, 1) := by decide +kernel
theorem d_M_courseTo_31 : decode qM_courseTo.1 31 = .ok (.invokevirtual 165, 3) := by decide +kernel
theorem d_M_courseTo_34 : decode qM_courseTo.1 34 = .ok (.i2l, 1) := by decide +kernel
theorem d_M_courseTo_35 : decode qM_courseTo.1 35 = .ok (.lmul, 1) := by decide +kernel
theorem d_M_courseTo_36 : decode qM_courseTo.1 36 = .ok (.ladd, 1) := by decide +kernel
theorem d_M_courseTo_37 : decode qM_courseTo.1 37 = .ok (.lstore 10, 2) := by decide +kernel
theorem d_M_courseTo_39 : decode qM_courseTo.1 39 = .ok (.iconst 1, 1) := by decide +kernel
theorem d_M_courseTo_40 : decode qM_courseTo.1 40 = .ok (.istore 12, 2) := by decide +kernel
theorem d_M_courseTo_42 : decode qM_courseTo.1 42 = .ok (.iload 12, 2) := by decide +kernel
theorem d_M_courseTo_44 : decode qM_courseTo.1 44 = .ok (.bipush 24, 2) := by decide +kernel
theorem d_M_courseTo_46 : decode qM_courseTo.1 46 = .ok (.if_icmp .ge 66, 3) := by decide +kernel
theorem d_M_courseTo_49 : decode qM_courseTo.1 49 = .ok (.lload 5, 2) := by decide +kernel
theorem d_M_courseTo_51 : decode qM_courseTo.1 51 = .ok (.aload_n 0, 1) := by decide +kernel
theorem d_M_courseTo_52 : decode qM_courseTo.1 52 = .ok (.iload 12, 2) := by decide +kernel
theorem d_M_courseTo_54 : decode qM_courseTo.1 54 = .ok (.invokevirtual 162, 3) := by decide +kernel
theorem d_M_courseTo_57 : decode qM_courseTo.1 57 = .ok (.i2l, 1) := by decide +kernel
theorem d_M_courseTo_58 : decode qM_courseTo.1 58 = .ok (.lmul, 1) := by decide +kernel
theorem d_M_courseTo_59 : decode qM_courseTo.1 59 = .ok (.lload 7, 2) := by decide +kernel
theorem d_M_courseTo_61 : decode qM_courseTo.1 61 = .ok (.aload_n 0, 1) := by decide +kernel
theorem d_M_courseTo_62 : decode qM_courseTo.1 62 = .ok (.iload 12, 2) := by decide +kernel
theorem d_M_courseTo_64 : decode qM_courseTo.1 64 = .ok (.invokevirtual 165, 3) := by decide +kernel
theorem d_M_courseTo_67 : decode qM_courseTo.1 67 = .ok (.i2l, 1) := by decide +kernel
theorem d_M_courseTo_68 : decode qM_courseTo.1 68 = .ok (.lmul, 1) := by decide +kernel
theorem d_M_courseTo_69 : decode qM_courseTo.1 69 = .ok (.ladd, 1) := by decide +kernel
theorem d_M_courseTo_70 : decode qM_courseTo.1 70 = .ok (.lstore 13, 2) := by decide +kernel
theorem d_M_courseTo_72 : decode qM_courseTo.1 72 = .ok (.lload 13, 2) := by decide +kernel
theorem d_M_courseTo_74 : decode qM_courseTo.1 74 = .ok (.lload 10, 2) := by decide +kernel
theorem d_M_courseTo_76 : decode qM_courseTo.1 76 = .ok (.lcmp, 1) := by decide +kernel
theorem d_M_courseTo_77 : decode qM_courseTo.1 77 = .ok (.ifCond .le 8, 3) := by decide +kernel
theorem d_M_courseTo_80 : decode qM_courseTo.1 80 = .ok (.iload 12, 2) := by decide +kernel
theorem d_M_courseTo_82 : decode qM_courseTo.1 82 = .ok (.goto 5, 3) := by decide +kernel
theorem d_M_courseTo_85 : decode qM_courseTo.1 85 = .ok (.iload 9, 2) := by decide +kernel
theorem d_M_courseTo_87 : decode qM_courseTo.1 87 = .ok (.istore 9, 2) := by decide +kernel
theorem d_M_courseTo_89 : decode qM_courseTo.1 89 = .ok (.lload 13, 2) := by decide +kernel
theorem d_M_courseTo_91 : decode qM_courseTo.1 91 = .ok (.lload 10, 2) := by decide +kernel
theorem d_M_courseTo_93 : decode qM_courseTo.1 93 = .ok (.lcmp, 1) := by decide +kernel
theorem d_M_courseTo_94 : decode qM_courseTo.1 94 = .ok (.ifCond .le 8, 3) := by decide +kernel
theorem d_M_courseTo_97 : decode qM_courseTo.1 97 = .ok (.lload 13, 2) := by decide +kernel
theorem d_M_courseTo_99 : decode qM_courseTo.1 99 = .ok (.goto 5, 3) := by decide +kernel
theorem d_M_courseTo_102 : decode qM_courseTo.1 102 = .ok (.lload 10, 2) := by decide +kernel
theorem d_M_courseTo_104 : decode qM_courseTo.1 104 = .ok (.lstore 10, 2) := by decide +kernel
theorem d_M_courseTo_106 : decode qM_courseTo.1 106 = .ok (.iinc 12 1, 3) := by decide +kernel
theorem d_M_courseTo_109 : decode qM_courseTo.1 109 = .ok (.goto (-67), 3) := by decide +kernel
theorem d_M_courseTo_112 : decode qM_courseTo.1 112 = .ok (.iload 9, 2) := by decide +kernel
theorem d_M_courseTo_114 : decode qM_courseTo.1 114 = .ok (.ireturn, 1) := by decide +kernel
set_option maxRecDepth 100000 in
def lb_m_courseTo_42 (σ : St) (x1 : Int64) (x2 : Int64) (J7 : Int32 → Option (Int32)) (ih9 : Int32 × Int64 × Int32 → Option (Int32)) (a8 : Int32 × Int64 × Int32) : Option (Int32) :=
  if ((24 : Int32) : Int32) ≤ a8.2.2 then (
  J7 a8.1
  ) else (
  Option.bind (m_sx σ a8.2.2) fun x10 =>
  Option.bind (m_sy σ a8.2.2) fun x11 =>
  Lt (((x1 * (Int32.toInt64 x10)) + (x2 * (Int32.toInt64 x11))) : Int64) fun x12 =>
  Jn (fun (x13 : Int32) =>
  Jn (fun (x15 : Int64) =>
  Lt (a8.2.2 + (1 : Int32) : Int32) fun x17 =>
  ih9 (x13, x15, x17)
  ) fun J16 =>
  if (x12 : Int64) ≤ a8.2.1 then (
  J16 a8.2.1
  ) else (
  J16 x12
  )
  ) fun J14 =>
  if (x12 : Int64) ≤ a8.2.1 then (
  J14 a8.1
  ) else (
  J14 a8.2.2
  )
  )
set_option maxRecDepth 100000 in
def m_courseTo (σ : St) (p1 : Int32) (p2 : Int32) (p3 : Int32) (p4 : Int32) : Option (Int32) :=
  Lt (((Int32.toInt64 p3) - (Int32.toInt64 p1)) : Int64) fun x1 =>
  Lt (((Int32.toInt64 p4) - (Int32.toInt64 p2)) : Int64) fun x2 =>
  Option.bind (m_sx σ (0 : Int32)) fun x3 =>
  Option.bind (m_sy σ (0 : Int32)) fun x4 =>
  Lt (((x1 * (Int32.toInt64 x3)) + (x2 * (Int32.toInt64 x4))) : Int64) fun x5 =>
  Jn (fun (x6 : Int32) =>
  some x6
  ) fun J7 =>
  lp (lb_m_courseTo_42 σ x1 x2 J7) 4000 ((0 : Int32), x5, (1 : Int32))
set_option maxHeartbeats 4000000 in
set_option maxRecDepth 100000 in
theorem cM_courseTo (l : Launch) (g : Ge) (hi : injB wM.2 g) (σ : St) (p1 : Int32) (p2 : Int32) (p3 : Int32) (p4 : Int32) (x : Int32) (h : m_courseTo σ p1 p2 p3 p4 = some x) : Ct l wM g yM_courseTo qM_courseTo 2 41 [.ref (g.1 0), .int p1, .int p2, .int p3, .int p4] σ (some (.int x), σ) := by
  refine Ct.of (out := (o_r σ)) FM_courseTo rfl hi rfl h (fun z hz C => ?_)
  clear h
  subst hz
  unfold m_courseTo
  show Rt z qM_courseTo wM g (o_r σ) 0 [(0, .ref (g.1 0)), (1, .int p1), (2, .int p2), (3, .int p3), (4, .int p4)] [] σ _
  refine q_iload_n (pc' := 1) C 3 d_M_courseTo_0 rfl rfl ?_
  refine q_i2l (pc' := 2) C d_M_courseTo_1 rfl ?_
  refine q_iload_n (pc' := 3) C 1 d_M_courseTo_2 rfl rfl ?_
  refine q_i2l (pc' := 4) C d_M_courseTo_3 rfl ?_
  refine q_lsub (pc' := 5) C d_M_courseTo_4 rfl ?_
  refine q_let (fun x1 e1 => ?_)
  refine q_topl e1 ?_
  refine q_lstore (pc' := 7) (lv' := [(5, .long x1), (0, .ref (g.1 0)), (1, .int p1), (2, .int p2), (3, .int p3), (4, .int p4)]) C d_M_courseTo_5 (by decide) rfl rfl ?_
  refine q_iload (pc' := 9) C 5 d_M_courseTo_7 rfl rfl ?_
  refine q_i2l (pc' := 10) C d_M_courseTo_9 rfl ?_
  refine q_iload_n (pc' := 11) C 3 d_M_courseTo_10 rfl rfl ?_
  refine q_i2l (pc' := 12) C d_M_courseTo_11 rfl ?_
  refine q_lsub (pc' := 13) C d_M_courseTo_12 rfl ?_
  refine q_let (fun x2 e2 => ?_)
  refine q_topl e2 ?_
  refine q_lstore (pc' := 15) (lv' := [(7, .long x2), (5, .long x1), (0, .ref (g.1 0)), (1, .int p1), (2, .int p2), (3, .int p3), (4, .int p4)]) C d_M_courseTo_13 (by decide) rfl rfl ?_
  refine q_iconst (pc' := 16) C d_M_courseTo_15 ki_0 rfl ?_
  refine q_istore (pc' := 18) (lv' := [(9, .int (0 : Int32)), (7, .long x2), (5, .long x1), (0, .ref (g.1 0)), (1, .int p1), (2, .int p2), (3, .int p3), (4, .int p4)]) C d_M_courseTo_16 (by decide) rfl rfl ?_
  refine q_lload (pc' := 20) C 2 d_M_courseTo_18 rfl rfl ?_
  refine q_aload_n (pc' := 21) C 3 d_M_courseTo_20 rfl rfl ?_
  refine q_iconst (pc' := 22) C d_M_courseTo_21 ki_0 rfl ?_
  refine q_callVr (fr' := 1) (lo' := 20) (pc' := 25) C FM_sx lmM_162 d_M_courseTo_22 0 jM_0 kM_0 cM0 [.int (0 : Int32)] [.long x1] rfl rfl (Nat.le_of_ble_eq_true rfl) ⟨rfl, rfl⟩ (fun x h => cM_sx _ g hi σ (0 : Int32) x h) rfl (fun x3 _ => ?_)
  refine q_i2l (pc' := 26) C d_M_courseTo_25 rfl ?_
  refine q_lmul (pc' := 27) C d_M_courseTo_26 rfl ?_
  refine q_lload (pc' := 29) C 1 d_M_courseTo_27 rfl rfl ?_
  refine q_aload_n (pc' := 30) C 3 d_M_courseTo_29 rfl rfl ?_
  refine q_iconst (pc' := 31) C d_M_courseTo_30 ki_0 rfl ?_
  refine q_callVr (fr' := 1) (lo' := 20) (pc' := 34) C FM_sy lmM_165 d_M_courseTo_31 0 jM_0 kM_0 cM0 [.int (0 : Int32)] [.long x2, .long (x1 * (Int32.toInt64 x3))] rfl rfl (Nat.le_of_ble_eq_true rfl) ⟨rfl, rfl⟩ (fun x h => cM_sy _ g hi σ (0 : Int32) x h) rfl (fun x4 _ => ?_)
  refine q_i2l (pc' := 35) C d_M_courseTo_34 rfl ?_
  refine q_lmul (pc' := 36) C d_M_courseTo_35 rfl ?_
  refine q_ladd (pc' := 37) C d_M_courseTo_36 rfl ?_
  refine q_let (fun x5 e5 => ?_)
  refine q_topl e5 ?_
  refine q_lstore (pc' := 39) (lv' := [(10, .long x5), (9, .int (0 : Int32)), (7, .long x2), (5, .long x1), (0, .ref (g.1 0)), (1, .int p1), (2, .int p2), (3, .int p3), (4, .int p4)]) C d_M_courseTo_37 (by decide) rfl rfl ?_
  refine q_iconst (pc' := 40) C d_M_courseTo_39 ki_1 rfl ?_
  refine q_istore (pc' := 42) (lv' := [(12, .int (1 : Int32)), (10, .long x5), (9, .int (0 : Int32)), (7, .long x2), (5, .long x1), (0, .ref (g.1 0)), (1, .int p1), (2, .int p2), (3, .int p3), (4, .int p4)]) C d_M_courseTo_40 (by decide) rfl rfl ?_
  refine q_join (fun J7 : Int32 → Option (Int32) => ∀ (x6 : Int32), Rt z qM_courseTo wM g (o_r σ) 112 [(9, .int x6)] [] σ (J7 x6)) (fun x6 => ?_) (fun J7 hJ7 => ?_)
  · refine q_iload (pc' := 114) C 0 d_M_courseTo_112 rfl rfl ?_
    exact q_iret C rfl d_M_courseTo_114 rfl
  refine Rt.sub [5, 4, 3, 2, 1, 0] rfl (q_lp (fun a8 : Int32 × Int64 × Int32 => [(0, .ref (g.1 0)), (5, .long x1), (7, .long x2), (9, .int a8.1), (10, .long a8.2.1), (12, .int a8.2.2)]) (fun a8 => []) (fun a8 => σ) (fun ih9 hih9 a8 => ?_) 4000 ((0 : Int32), x5, (1 : Int32)))
  unfold lb_m_courseTo_42
  refine q_iload (pc' := 44) C 5 d_M_courseTo_42 rfl rfl ?_
  refine q_bipush (pc' := 46) C d_M_courseTo_44 kb_24 rfl ?_
  refine q_icmp_ge (tgt := 112) (pc' := 49) C d_M_courseTo_46 rfl rfl ?_ ?_
  · exact Rt.sub [3] rfl (hJ7 a8.1)
  · refine q_lload (pc' := 51) C 1 d_M_courseTo_49 rfl rfl ?_
    refine q_aload_n (pc' := 52) C 0 d_M_courseTo_51 rfl rfl ?_
    refine q_iload (pc' := 54) C 5 d_M_courseTo_52 rfl rfl ?_
    refine q_callVr (fr' := 1) (lo' := 20) (pc' := 57) C FM_sx lmM_162 d_M_courseTo_54 0 jM_0 kM_0 cM0 [.int a8.2.2] [.long x1] rfl rfl (Nat.le_of_ble_eq_true rfl) ⟨rfl, rfl⟩ (fun x h => cM_sx _ g hi σ a8.2.2 x h) rfl (fun x10 _ => ?_)
    refine q_i2l (pc' := 58) C d_M_courseTo_57 rfl ?_
    refine q_lmul (pc' := 59) C d_M_courseTo_58 rfl ?_
    refine q_lload (pc' := 61) C 2 d_M_courseTo_59 rfl rfl ?_
    refine q_aload_n (pc' := 62) C 0 d_M_courseTo_61 rfl rfl ?_
    refine q_iload (pc' := 64) C 5 d_M_courseTo_62 rfl rfl ?_
    refine q_callVr (fr' := 1) (lo' := 20) (pc' := 67) C FM_sy lmM_165 d_M_courseTo_64 0 jM_0 kM_0 cM0 [.int a8.2.2] [.long x2, .long (x1 * (Int32.toInt64 x10))] rfl rfl (Nat.le_of_ble_eq_true rfl) ⟨rfl, rfl⟩ (fun x h => cM_sy _ g hi σ a8.2.2 x h) rfl (fun x11 _ => ?_)
    refine q_i2l (pc' := 68) C d_M_courseTo_67 rfl ?_
    refine q_lmul (pc' := 69) C d_M_courseTo_68 rfl ?_
    refine q_ladd (pc' := 70) C d_M_courseTo_69 rfl ?_
    refine q_let (fun x12 e12 => ?_)
    refine q_topl e12 ?_
    refine q_lstore (pc' := 72) (lv' := [(13, .long x12), (0, .ref (g.1 0)), (5, .long x1), (7, .long x2), (9, .int a8.1), (10, .long a8.2.1), (12, .int a8.2.2)]) C d_M_courseTo_70 (by decide) rfl rfl ?_
    refine q_lload (pc' := 74) C 0 d_M_courseTo_72 rfl rfl ?_
    refine q_lload (pc' := 76) C 5 d_M_courseTo_74 rfl rfl ?_
    refine q_join (fun J14 : Int32 → Option (Int32) => ∀ (x13 : Int32), Rt z qM_courseTo wM g (o_r σ) 87 [(0, .ref (g.1 0)), (5, .long x1), (7, .long x2), (10, .long a8.2.1), (12, .int a8.2.2), (13, .long x12)] [.int x13] σ (J14 x13)) (fun x13 => ?_) (fun J14 hJ14 => ?_)
    · refine q_istore (pc' := 89) (lv' := [(9, .int x13), (0, .ref (g.1 0)), (5, .long x1), (7, .long x2), (10, .long a8.2.1), (12, .int a8.2.2), (13, .long x12)]) C d_M_courseTo_87 (by decide) rfl rfl ?_
      refine q_lload (pc' := 91) C 6 d_M_courseTo_89 rfl rfl ?_
      refine q_lload (pc' := 93) C 4 d_M_courseTo_91 rfl rfl ?_
      refine q_join (fun J16 : Int64 → Option (Int32) => ∀ (x15 : Int64), Rt z qM_courseTo wM g (o_r σ) 104 [(0, .ref (g.1 0)), (5, .long x1), (7, .long x2), (9, .int x13), (12, .int a8.2.2)] [.long x15] σ (J16 x15)) (fun x15 => ?_) (fun J16 hJ16 => ?_)
      · refine q_lstore (pc' := 106) (lv' := [(10, .long x15), (0, .ref (g.1 0)), (5, .long x1), (7, .long x2), (9, .int x13), (12, .int a8.2.2)]) C d_M_courseTo_104 (by decide) rfl rfl ?_
        refine q_let (fun x17 e17 => ?_)
        refine q_iinc (pc' := 109) (lv' := [(12, .int x17), (10, .long x15), (0, .ref (g.1 0)), (5, .long x1), (7, .long x2), (9, .int x13)]) C 5 d_M_courseTo_106 rfl (by rw [e17, ki_1]) (by decide) rfl rfl ?_
        refine q_goto (tgt := 42) C d_M_courseTo_109 rfl ?_
        exact Rt.sub [2, 3, 4, 5, 1, 0] rfl (hih9 (x13, x15, x17))
      refine q_lcmp_le (tgt := 102) (pc' := 97) C d_M_courseTo_93 d_M_courseTo_94 rfl rfl ?_ ?_
      · refine q_lload (pc' := 104) C 4 d_M_courseTo_102 rfl rfl ?_
        exact Rt.sub [1, 2, 3, 0, 5] rfl (hJ16 a8.2.1)
      · refine q_lload (pc' := 99) C 6 d_M_courseTo_97 rfl rfl ?_
        refine q_goto (tgt := 104) C d_M_courseTo_99 rfl ?_
        exact Rt.sub [1, 2, 3, 0, 5] rfl (hJ16 x12)
    refine q_lcmp_le (tgt := 85) (pc' := 80) C d_M_courseTo_76 d_M_courseTo_77 rfl rfl ?_ ?_
    · refine q_iload (pc' := 87) C 4 d_M_courseTo_85 rfl rfl ?_
      exact Rt.sub [1, 2, 3, 5, 6, 0] rfl (hJ14 a8.1)
    · refine q_iload (pc' := 82) C 6 d_M_courseTo_80 rfl rfl ?_
      refine q_goto (tgt := 87) C d_M_courseTo_82 rfl ?_
      exact Rt.sub [1, 2, 3, 5, 6, 0] rfl (hJ14 a8.2.2)
theorem d_M_change_0 : decode qM_change.1 0 = .ok (.iload_n 0, 1) := by decide +kernel
theorem d_M_change_1 : decode qM_change.1 1 = .ok (.i2l, 1) := by decide +kernel
theorem d_M_change_2 : decode qM_change.1 2 = .ok (.iload_n 1, 1) := by decide +kernel
theorem d_M_change_3 : decode qM_change.1 3 = .ok (.i2l, 1) := by decide +kernel
theorem d_M_change_4 : decode qM_change.1 4 = .ok (.lmul, 1) := by decide +kernel
theorem d_M_change_5 : decode qM_change.1 5 = .ok (.ldc2_w 160, 3) := by decide +kernel
theorem d_M_change_8 : decode qM_change.1 8 = .ok (.ldiv, 1) := by decide +kernel
theorem d_M_change_9 : decode qM_change.1 9 = .ok (.l2i, 1) := by decide +kernel
theorem d_M_change_10 : decode qM_change.1 10 = .ok (.ireturn, 1) := by decide +kernel
set_option maxRecDepth 100000 in
def m_change (p0 : Int32) (p1 : Int32) : Option (Int32) :=
  some (Int64.toInt32 (((Int32.toInt64 p0) * (Int32.toInt64 p1)) / (1000 : Int64)))
set_option maxHeartbeats 4000000 in
set_option maxRecDepth 100000 in
theorem cM_change (l : Launch) (g : Ge) (hi : injB wM.2 g) (σ : St) (p0 : Int32) (p1 : Int32) (x : Int32) (h : m_change p0 p1 = some x) : Ct l wM g yM_change qM_change 0 0 [.int p0, .int p1] σ (some (.int x), σ) := by
  refine Ct.of (out := (o_r σ)) FM_change rfl hi rfl h (fun z hz C => ?_)
  clear h
  subst hz
  unfold m_change
  show Rt z qM_change wM g (o_r σ) 0 [(0, .int p0), (1, .int p1)] [] σ _
  refine q_iload_n (pc' := 1) C 0 d_M_change_0 rfl rfl ?_
  refine q_i2l (pc' := 2) C d_M_change_1 rfl ?_
  refine q_iload_n (pc' := 3) C 1 d_M_change_2 rfl rfl ?_
  refine q_i2l (pc' := 4) C d_M_change_3 rfl ?_
  refine q_lmul (pc' := 5) C d_M_change_4 rfl ?_
  refine q_ldc2 (pc' := 8) C lLM_160 d_M_change_5 rfl ?_
  refine q_ldiv (pc' := 9) C (by decide) d_M_change_8 rfl ?_
  refine q_l2i (pc' := 10) C d_M_change_9 rfl ?_
  exact q_iret C rfl d_M_change_10 rfl
theorem d_M_of_0 : decode qM_of.1 0 = .ok (.aload_n 0, 1) := by decide +kernel
theorem d_M_of_1 : decode qM_of.1 1 = .ok (.getfield 7, 3) := by decide +kernel
theorem d_M_of_4 : decode qM_of.1 4 = .ok (.iload_n 1, 1) := by decide +kernel
theorem d_M_of_5 : decode qM_of.1 5 = .ok (.iconst 3, 1) := by decide +kernel
theorem d_M_of_6 : decode qM_of.1 6 = .ok (.iadd, 1) := by decide +kernel
theorem d_M_of_7 : decode qM_of.1 7 = .ok (.bipush 14, 2) := by decide +kernel
theorem d_M_of_9 : decode qM_of.1 9 = .ok (.iload_n 2, 1) := by decide +kernel
theorem d_M_of_10 : decode qM_of.1 10 = .ok (.imul, 1) := by decide +kernel
theorem d_M_of_11 : decode qM_of.1 11 = .ok (.iadd, 1) := by decide +kernel
theorem d_M_of_12 : decode qM_of.1 12 = .ok (.iload_n 3, 1) := by decide +kernel
theorem d_M_of_13 : decode qM_of.1 13 = .ok (.iadd, 1) := by decide +kernel
theorem d_M_of_14 : decode qM_of.1 14 = .ok (.iaload, 1) := by decide +kernel
theorem d_M_of_15 : decode qM_of.1 15 = .ok (.ireturn, 1) := by decide +kernel
set_option maxRecDepth 100000 in
def m_of (σ : St) (p1 : Int32) (p2 : Int32) (p3 : Int32) : Option (Int32) :=
  Gd (Ix (((p1 + (3 : Int32)) + ((14 : Int32) * p2)) + p3) 2673) <|
  some (σ 1 (Int32.toNatClampNeg (((p1 + (3 : Int32)) + ((14 : Int32) * p2)) + p3)))
set_option maxHeartbeats 4000000 in
set_option maxRecDepth 100000 in
theorem cM_of (l : Launch) (g : Ge) (hi : injB wM.2 g) (σ : St) (p1 : Int32) (p2 : Int32) (p3 : Int32) (x : Int32) (h : m_of σ p1 p2 p3 = some x) : Ct l wM g yM_of qM_of 0 0 [.ref (g.1 0), .int p1, .int p2, .int p3] σ (some (.int x), σ) := by
  refine Ct.of (out := (o_r σ)) FM_of rfl hi rfl h (fun z hz C => ?_)
  clear h
  subst hz
  unfold m_of
  show Rt z qM_of wM g (o_r σ) 0 [(0, .ref (g.1 0)), (1, .int p1), (2, .int p2), (3, .int p3)] [] σ _
  refine q_aload_n (pc' := 1) C 0 d_M_of_0 rfl rfl ?_
  refine gM_7 (pc' := 4) C d_M_of_1 rfl rfl ?_
  refine q_iload_n (pc' := 5) C 1 d_M_of_4 rfl rfl ?_
  refine q_iconst (pc' := 6) C d_M_of_5 ki_3 rfl ?_
  refine q_iadd (pc' := 7) C d_M_of_6 rfl ?_
  refine q_bipush (pc' := 9) C d_M_of_7 kb_14 rfl ?_
  refine q_iload_n (pc' := 10) C 2 d_M_of_9 rfl rfl ?_
  refine q_imul (pc' := 11) C d_M_of_10 rfl ?_
  refine q_iadd (pc' := 12) C d_M_of_11 rfl ?_
  refine q_iload_n (pc' := 13) C 3 d_M_of_12 rfl rfl ?_
  refine q_iadd (pc' := 14) C d_M_of_13 rfl ?_
  refine q_iald (pc' := 15) C 1 jM_1 kM_1 d_M_of_14 rfl ?_
  exact q_iret C rfl d_M_of_15 rfl
theorem d_M_sets_0 : decode qM_sets.1 0 = .ok (.aload_n 0, 1) := by decide +kernel
theorem d_M_sets_1 : decode qM_sets.1 1 = .ok (.getfield 7, 3) := by decide +kernel
theorem d_M_sets_4 : decode qM_sets.1 4 = .ok (.iload_n 1, 1) := by decide +kernel
theorem d_M_sets_5 : decode qM_sets.1 5 = .ok (.iconst 3, 1) := by decide +kernel
theorem d_M_sets_6 : decode qM_sets.1 6 = .ok (.iadd, 1) := by decide +kernel
theorem d_M_sets_7 : decode qM_sets.1 7 = .ok (.bipush 14, 2) := by decide +kernel
theorem d_M_sets_9 : decode qM_sets.1 9 = .ok (.iload_n 2, 1) := by decide +kernel
theorem d_M_sets_10 : decode qM_sets.1 10 = .ok (.imul, 1) := by decide +kernel
theorem d_M_sets_11 : decode qM_sets.1 11 = .ok (.iadd, 1) := by decide +kernel
theorem d_M_sets_12 : decode qM_sets.1 12 = .ok (.iload_n 3, 1) := by decide +kernel
theorem d_M_sets_13 : decode qM_sets.1 13 = .ok (.iadd, 1) := by decide +kernel
theorem d_M_sets_14 : decode qM_sets.1 14 = .ok (.iload 4, 2) := by decide +kernel
theorem d_M_sets_16 : decode qM_sets.1 16 = .ok (.iastore, 1) := by decide +kernel
theorem d_M_sets_17 : decode qM_sets.1 17 = .ok (.return_, 1) := by decide +kernel
set_option maxRecDepth 100000 in
def m_sets (σ : St) (p1 : Int32) (p2 : Int32) (p3 : Int32) (p4 : Int32) : Option (St) :=
  Gd (Ix (((p1 + (3 : Int32)) + ((14 : Int32) * p2)) + p3) 2673) <|
  Lt (s2 σ 1 (Int32.toNatClampNeg (((p1 + (3 : Int32)) + ((14 : Int32) * p2)) + p3)) p4) fun σ1 =>
  some σ1
set_option maxHeartbeats 4000000 in
set_option maxRecDepth 100000 in
theorem cM_sets (l : Launch) (g : Ge) (hi : injB wM.2 g) (σ : St) (p1 : Int32) (p2 : Int32) (p3 : Int32) (p4 : Int32) (x : St) (h : m_sets σ p1 p2 p3 p4 = some x) : Ct l wM g yM_sets qM_sets 0 0 [.ref (g.1 0), .int p1, .int p2, .int p3, .int p4] σ (none, x) := by
  refine Ct.of (out := o_v) FM_sets rfl hi rfl h (fun z hz C => ?_)
  clear h
  subst hz
  unfold m_sets
  show Rt z qM_sets wM g o_v 0 [(0, .ref (g.1 0)), (1, .int p1), (2, .int p2), (3, .int p3), (4, .int p4)] [] σ _
  refine q_aload_n (pc' := 1) C 0 d_M_sets_0 rfl rfl ?_
  refine gM_7 (pc' := 4) C d_M_sets_1 rfl rfl ?_
  refine q_iload_n (pc' := 5) C 1 d_M_sets_4 rfl rfl ?_
  refine q_iconst (pc' := 6) C d_M_sets_5 ki_3 rfl ?_
  refine q_iadd (pc' := 7) C d_M_sets_6 rfl ?_
  refine q_bipush (pc' := 9) C d_M_sets_7 kb_14 rfl ?_
  refine q_iload_n (pc' := 10) C 2 d_M_sets_9 rfl rfl ?_
  refine q_imul (pc' := 11) C d_M_sets_10 rfl ?_
  refine q_iadd (pc' := 12) C d_M_sets_11 rfl ?_
  refine q_iload_n (pc' := 13) C 3 d_M_sets_12 rfl rfl ?_
  refine q_iadd (pc' := 14) C d_M_sets_13 rfl ?_
  refine q_iload (pc' := 16) C 4 d_M_sets_14 rfl rfl ?_
  refine q_iast (pc' := 17) C 1 jM_1 kM_1 d_M_sets_16 rfl ?_
  refine q_let (fun σ1 e1 => ?_)
  refine q_state e1 ?_
  exact q_vret C rfl d_M_sets_17 rfl
theorem d_M_count_0 : decode qM_count.1 0 = .ok (.aload_n 0, 1) := by decide +kernel
theorem d_M_count_1 : decode qM_count.1 1 = .ok (.getfield 7, 3) := by decide +kernel
theorem d_M_count_4 : decode qM_count.1 4 = .ok (.iload_n 1, 1) := by decide +kernel
theorem d_M_count_5 : decode qM_count.1 5 = .ok (.iconst 0, 1) := by decide +kernel
theorem d_M_count_6 : decode qM_count.1 6 = .ok (.iadd, 1) := by decide +kernel
theorem d_M_count_7 : decode qM_count.1 7 = .ok (.iaload, 1) := by decide +kernel
theorem d_M_count_8 : decode qM_count.1 8 = .ok (.ireturn, 1) := by decide +kernel
set_option maxRecDepth 100000 in
def m_count (σ : St) (p1 : Int32) : Option (Int32) :=
  Gd (Ix (p1 + (0 : Int32)) 2673) <|
  some (σ 1 (Int32.toNatClampNeg (p1 + (0 : Int32))))
set_option maxHeartbeats 4000000 in
set_option maxRecDepth 100000 in
theorem cM_count (l : Launch) (g : Ge) (hi : injB wM.2 g) (σ : St) (p1 : Int32) (x : Int32) (h : m_count σ p1 = some x) : Ct l wM g yM_count qM_count 0 0 [.ref (g.1 0), .int p1] σ (some (.int x), σ) := by
  refine Ct.of (out := (o_r σ)) FM_count rfl hi rfl h (fun z hz C => ?_)
  clear h
  subst hz
  unfold m_count
  show Rt z qM_count wM g (o_r σ) 0 [(0, .ref (g.1 0)), (1, .int p1)] [] σ _
  refine q_aload_n (pc' := 1) C 0 d_M_count_0 rfl rfl ?_
  refine gM_7 (pc' := 4) C d_M_count_1 rfl rfl ?_
  refine q_iload_n (pc' := 5) C 1 d_M_count_4 rfl rfl ?_
  refine q_iconst (pc' := 6) C d_M_count_5 ki_0 rfl ?_
  refine q_iadd (pc' := 7) C d_M_count_6 rfl ?_
  refine q_iald (pc' := 8) C 1 jM_1 kM_1 d_M_count_7 rfl ?_
  exact q_iret C rfl d_M_count_8 rfl
theorem d_M_hasFix_0 : decode qM_hasFix.1 0 = .ok (.iload_n 0, 1) := by decide +kernel
theorem d_M_hasFix_1 : decode qM_hasFix.1 1 = .ok (.ifCond .eq 24, 3) := by decide +kernel
theorem d_M_hasFix_4 : decode qM_hasFix.1 4 = .ok (.iload_n 0, 1) := by decide +kernel
theorem d_M_hasFix_5 : decode qM_hasFix.1 5 = .ok (.iconst 1, 1) := by decide +kernel
theorem d_M_hasFix_6 : decode qM_hasFix.1 6 = .ok (.if_icmp .eq 19, 3) := by decide +kernel
theorem d_M_hasFix_9 : decode qM_hasFix.1 9 = .ok (.iload_n 0, 1) := by decide +kernel
theorem d_M_hasFix_10 : decode qM_hasFix.1 10 = .ok (.iconst 2, 1) := by decide +kernel
theorem d_M_hasFix_11 : decode qM_hasFix.1 11 = .ok (.if_icmp .eq 14, 3) := by decide +kernel
theorem d_M_hasFix_14 : decode qM_hasFix.1 14 = .ok (.iload_n 0, 1) := by decide +kernel
theorem d_M_hasFix_15 : decode qM_hasFix.1 15 = .ok (.iconst 3, 1) := by decide +kernel
theorem d_M_hasFix_16 : decode qM_hasFix.1 16 = .ok (.if_icmp .eq 9, 3) := by decide +kernel
theorem d_M_hasFix_19 : decode qM_hasFix.1 19 = .ok (.iload_n 0, 1) := by decide +kernel
theorem d_M_hasFix_20 : decode qM_hasFix.1 20 = .ok (.bipush 7, 2) := by decide +kernel
theorem d_M_hasFix_22 : decode qM_hasFix.1 22 = .ok (.if_icmp .ne 7, 3) := by decide +kernel
theorem d_M_hasFix_25 : decode qM_hasFix.1 25 = .ok (.iconst 1, 1) := by decide +kernel
theorem d_M_hasFix_26 : decode qM_hasFix.1 26 = .ok (.goto 4, 3) := by decide +kernel
theorem d_M_hasFix_29 : decode qM_hasFix.1 29 = .ok (.iconst 0, 1) := by decide +kernel
theorem d_M_hasFix_30 : decode qM_hasFix.1 30 = .ok (.ireturn, 1) := by decide +kernel
set_option maxRecDepth 100000 in
def m_hasFix (p0 : Int32) : Option (Int32) :=
  Jn (fun (x1 : Int32) =>
  Gd ((x1 : Int32) &&& 1 = x1) <|
  some x1
  ) fun J2 =>
  Jn (fun (_ : Unit) =>
  J2 (1 : Int32)
  ) fun J4 =>
  if (p0 : Int32) = 0 then (
  J4 ()
  ) else (
  if (p0 : Int32) = (1 : Int32) then (
  J4 ()
  ) else (
  if (p0 : Int32) = (2 : Int32) then (
  J4 ()
  ) else (
  if (p0 : Int32) = (3 : Int32) then (
  J4 ()
  ) else (
  if (p0 : Int32) = (7 : Int32) then (
  J4 ()
  ) else (
  J2 (0 : Int32)
  )
  )
  )
  )
  )
set_option maxHeartbeats 4000000 in
set_option maxRecDepth 100000 in
theorem cM_hasFix (l : Launch) (g : Ge) (hi : injB wM.2 g) (σ : St) (p0 : Int32) (x : Int32) (h : m_hasFix p0 = some x) : Ct l wM g yM_hasFix qM_hasFix 0 0 [.int p0] σ (some (.int x), σ) := by
  refine Ct.of (out := (o_r σ)) FM_hasFix rfl hi rfl h (fun z hz C => ?_)
  clear h
  subst hz
  unfold m_hasFix
  show Rt z qM_hasFix wM g (o_r σ) 0 [(0, .int p0)] [] σ _
  refine q_iload_n (pc' := 1) C 0 d_M_hasFix_0 rfl rfl ?_
  refine q_join (fun J2 : Int32 → Option (Int32) => ∀ (x1 : Int32), Rt z qM_hasFix wM g (o_r σ) 30 [] [.int x1] σ (J2 x1)) (fun x1 => ?_) (fun J2 hJ2 => ?_)
  · refine q_guard (fun gx3 => ?_)
    exact q_zret C rfl gx3 d_M_hasFix_30 rfl
  refine q_join (fun J4 : Unit → Option (Int32) => ∀ (_ : Unit), Rt z qM_hasFix wM g (o_r σ) 25 [] [] σ (J4 ())) (fun _ => ?_) (fun J4 hJ4 => ?_)
  · refine q_iconst (pc' := 26) C d_M_hasFix_25 ki_1 rfl ?_
    refine q_goto (tgt := 30) C d_M_hasFix_26 rfl ?_
    exact Rt.sub [] rfl (hJ2 (1 : Int32))
  refine q_if_eq (tgt := 25) (pc' := 4) C d_M_hasFix_1 rfl rfl ?_ ?_
  · exact Rt.sub [] rfl (hJ4 ())
  · refine q_iload_n (pc' := 5) C 0 d_M_hasFix_4 rfl rfl ?_
    refine q_iconst (pc' := 6) C d_M_hasFix_5 ki_1 rfl ?_
    refine q_icmp_eq (tgt := 25) (pc' := 9) C d_M_hasFix_6 rfl rfl ?_ ?_
    · exact Rt.sub [] rfl (hJ4 ())
    · refine q_iload_n (pc' := 10) C 0 d_M_hasFix_9 rfl rfl ?_
      refine q_iconst (pc' := 11) C d_M_hasFix_10 ki_2 rfl ?_
      refine q_icmp_eq (tgt := 25) (pc' := 14) C d_M_hasFix_11 rfl rfl ?_ ?_
      · exact Rt.sub [] rfl (hJ4 ())
      · refine q_iload_n (pc' := 15) C 0 d_M_hasFix_14 rfl rfl ?_
        refine q_iconst (pc' := 16) C d_M_hasFix_15 ki_3 rfl ?_
        refine q_icmp_eq (tgt := 25) (pc' := 19) C d_M_hasFix_16 rfl rfl ?_ ?_
        · exact Rt.sub [] rfl (hJ4 ())
        · refine q_iload_n (pc' := 20) C 0 d_M_hasFix_19 rfl rfl ?_
          refine q_bipush (pc' := 22) C d_M_hasFix_20 kb_7 rfl ?_
          refine q_icmp_ne (tgt := 29) (pc' := 25) C d_M_hasFix_22 rfl rfl ?_ ?_
          · refine q_iconst (pc' := 30) C d_M_hasFix_29 ki_0 rfl ?_
            exact Rt.sub [] rfl (hJ2 (0 : Int32))
          · exact Rt.sub [] rfl (hJ4 ())
theorem d_M_pointX_0 : decode qM_pointX.1 0 = .ok (.aload_n 0, 1) := by decide +kernel
theorem d_M_pointX_1 : decode qM_pointX.1 1 = .ok (.iload_n 1, 1) := by decide +kernel
theorem d_M_pointX_2 : decode qM_pointX.1 2 = .ok (.iload_n 2, 1) := by decide +kernel
theorem d_M_pointX_3 : decode qM_pointX.1 3 = .ok (.iconst 0, 1) := by decide +kernel
theorem d_M_pointX_4 : decode qM_pointX.1 4 = .ok (.invokevirtual 168, 3) := by decide +kernel
theorem d_M_pointX_7 : decode qM_pointX.1 7 = .ok (.bipush 8, 2) := by decide +kernel
theorem d_M_pointX_9 : decode qM_pointX.1 9 = .ok (.if_icmp .ne 14, 3) := by decide +kernel
theorem d_M_pointX_12 : decode qM_pointX.1 12 = .ok (.aload_n 0, 1) := by decide +kernel
theorem d_M_pointX_13 : decode qM_pointX.1 13 = .ok (.iload_n 1, 1) := by decide +kernel
theorem d_M_pointX_14 : decode qM_pointX.1 14 = .ok (.iload_n 2, 1) := by decide +kernel
theorem d_M_pointX_15 : decode qM_pointX.1 15 = .ok (.bipush 7, 2) := by decide +kernel
theorem d_M_pointX_17 : decode qM_pointX.1 17 = .ok (.invokevirtual 168, 3) := by decide +kernel
theorem d_M_pointX_20 : decode qM_pointX.1 20 = .ok (.goto 15, 3) := by decide +kernel
theorem d_M_pointX_23 : decode qM_pointX.1 23 = .ok (.aload_n 0, 1) := by decide +kernel
theorem d_M_pointX_24 : decode qM_pointX.1 24 = .ok (.getfield 17, 3) := by decide +kernel
theorem d_M_pointX_27 : decode qM_pointX.1 27 = .ok (.aload_n 0, 1) := by decide +kernel
theorem d_M_pointX_28 : decode qM_pointX.1 28 = .ok (.iload_n 1, 1) := by decide +kernel
theorem d_M_pointX_29 : decode qM_pointX.1 29 = .ok (.iload_n 2, 1) := by decide +kernel
theorem d_M_pointX_30 : decode qM_pointX.1 30 = .ok (.iconst 1, 1) := by decide +kernel
theorem d_M_pointX_31 : decode qM_pointX.1 31 = .ok (.invokevirtual 168, 3) := by decide +kernel
theorem d_M_pointX_34 : decode qM_pointX.1 34 = .ok (.iaload, 1) := by decide +kernel
theorem d_M_pointX_35 : decode qM_pointX.1 35 = .ok (.ireturn, 1) := by decide +kernel
set_option maxRecDepth 100000 in
def m_pointX (σ : St) (p1 : Int32) (p2 : Int32) : Option (Int32) :=
  Option.bind (m_of σ p1 p2 (0 : Int32)) fun x1 =>
  Jn (fun (x2 : Int32) =>
  some x2
  ) fun J3 =>
  if (x1 : Int32) = (8 : Int32) then (
  Option.bind (m_of σ p1 p2 (7 : Int32)) fun x5 =>
  J3 x5
  ) else (
  Option.bind (m_of σ p1 p2 (1 : Int32)) fun x4 =>
  Gd (Ix x4 16) <|
  J3 (σ 3 (Int32.toNatClampNeg x4))
  )
set_option maxHeartbeats 4000000 in
set_option maxRecDepth 100000 in
theorem cM_pointX (l : Launch) (g : Ge) (hi : injB wM.2 g) (σ : St) (p1 : Int32) (p2 : Int32) (x : Int32) (h : m_pointX σ p1 p2 = some x) : Ct l wM g yM_pointX qM_pointX 1 23 [.ref (g.1 0), .int p1, .int p2] σ (some (.int x), σ) := by
  refine Ct.of (out := (o_r σ)) FM_pointX rfl hi rfl h (fun z hz C => ?_)
  clear h
  subst hz
  unfold m_pointX
  show Rt z qM_pointX wM g (o_r σ) 0 [(0, .ref (g.1 0)), (1, .int p1), (2, .int p2)] [] σ _
  refine q_aload_n (pc' := 1) C 0 d_M_pointX_0 rfl rfl ?_
  refine q_iload_n (pc' := 2) C 1 d_M_pointX_1 rfl rfl ?_
  refine q_iload_n (pc' := 3) C 2 d_M_pointX_2 rfl rfl ?_
  refine q_iconst (pc' := 4) C d_M_pointX_3 ki_0 rfl ?_
  refine q_callVr (fr' := 0) (lo' := 0) (pc' := 7) C FM_of lmM_168 d_M_pointX_4 0 jM_0 kM_0 cM0 [.int p1, .int p2, .int (0 : Int32)] [] rfl rfl (Nat.le_of_ble_eq_true rfl) ⟨rfl, rfl⟩ (fun x h => cM_of _ g hi σ p1 p2 (0 : Int32) x h) rfl (fun x1 _ => ?_)
  refine q_bipush (pc' := 9) C d_M_pointX_7 kb_8 rfl ?_
  refine q_join (fun J3 : Int32 → Option (Int32) => ∀ (x2 : Int32), Rt z qM_pointX wM g (o_r σ) 35 [] [.int x2] σ (J3 x2)) (fun x2 => ?_) (fun J3 hJ3 => ?_)
  · exact q_iret C rfl d_M_pointX_35 rfl
  refine q_icmp_ne (tgt := 23) (pc' := 12) C d_M_pointX_9 rfl rfl ?_ ?_
  · refine q_aload_n (pc' := 24) C 0 d_M_pointX_23 rfl rfl ?_
    refine gM_17 (pc' := 27) C d_M_pointX_24 rfl rfl ?_
    refine q_aload_n (pc' := 28) C 0 d_M_pointX_27 rfl rfl ?_
    refine q_iload_n (pc' := 29) C 1 d_M_pointX_28 rfl rfl ?_
    refine q_iload_n (pc' := 30) C 2 d_M_pointX_29 rfl rfl ?_
    refine q_iconst (pc' := 31) C d_M_pointX_30 ki_1 rfl ?_
    refine q_callVr (fr' := 0) (lo' := 0) (pc' := 34) C FM_of lmM_168 d_M_pointX_31 0 jM_0 kM_0 cM0 [.int p1, .int p2, .int (1 : Int32)] [.ref (g.1 3)] rfl rfl (Nat.le_of_ble_eq_true rfl) ⟨rfl, rfl⟩ (fun x h => cM_of _ g hi σ p1 p2 (1 : Int32) x h) rfl (fun x4 _ => ?_)
    refine q_iald (pc' := 35) C 3 jM_3 kM_3 d_M_pointX_34 rfl ?_
    exact Rt.sub [] rfl (hJ3 (σ 3 (Int32.toNatClampNeg x4)))
  · refine q_aload_n (pc' := 13) C 0 d_M_pointX_12 rfl rfl ?_
    refine q_iload_n (pc' := 14) C 1 d_M_pointX_13 rfl rfl ?_
    refine q_iload_n (pc' := 15) C 2 d_M_pointX_14 rfl rfl ?_
    refine q_bipush (pc' := 17) C d_M_pointX_15 kb_7 rfl ?_
    refine q_callVr (fr' := 0) (lo' := 0) (pc' := 20) C FM_of lmM_168 d_M_pointX_17 0 jM_0 kM_0 cM0 [.int p1, .int p2, .int (7 : Int32)] [] rfl rfl (Nat.le_of_ble_eq_true rfl) ⟨rfl, rfl⟩ (fun x h => cM_of _ g hi σ p1 p2 (7 : Int32) x h) rfl (fun x5 _ => ?_)
    refine q_goto (tgt := 35) C d_M_pointX_20 rfl ?_
    exact Rt.sub [] rfl (hJ3 x5)
theorem d_M_pointY_0 : decode qM_pointY.1 0 = .ok (.aload_n 0, 1) := by decide +kernel
theorem d_M_pointY_1 : decode qM_pointY.1 1 = .ok (.iload_n 1, 1) := by decide +kernel
theorem d_M_pointY_2 : decode qM_pointY.1 2 = .ok (.iload_n 2, 1) := by decide +kernel
theorem d_M_pointY_3 : decode qM_pointY.1 3 = .ok (.iconst 0, 1) := by decide +kernel
theorem d_M_pointY_4 : decode qM_pointY.1 4 = .ok (.invokevirtual 168, 3) := by decide +kernel
theorem d_M_pointY_7 : decode qM_pointY.1 7 = .ok (.bipush 8, 2) := by decide +kernel
theorem d_M_pointY_9 : decode qM_pointY.1 9 = .ok (.if_icmp .ne 14, 3) := by decide +kernel
theorem d_M_pointY_12 : decode qM_pointY.1 12 = .ok (.aload_n 0, 1) := by decide +kernel
theorem d_M_pointY_13 : decode qM_pointY.1 13 = .ok (.iload_n 1, 1) := by decide +kernel
theorem d_M_pointY_14 : decode qM_pointY.1 14 = .ok (.iload_n 2, 1) := by decide +kernel
theorem d_M_pointY_15 : decode qM_pointY.1 15 = .ok (.bipush 8, 2) := by decide +kernel
theorem d_M_pointY_17 : decode qM_pointY.1 17 = .ok (.invokevirtual 168, 3) := by decide +kernel
theorem d_M_pointY_20 : decode qM_pointY.1 20 = .ok (.goto 15, 3) := by decide +kernel
theorem d_M_pointY_23 : decode qM_pointY.1 23 = .ok (.aload_n 0, 1) := by decide +kernel
theorem d_M_pointY_24 : decode qM_pointY.1 24 = .ok (.getfield 20, 3) := by decide +kernel
theorem d_M_pointY_27 : decode qM_pointY.1 27 = .ok (.aload_n 0, 1) := by decide +kernel
theorem d_M_pointY_28 : decode qM_pointY.1 28 = .ok (.iload_n 1, 1) := by decide +kernel
theorem d_M_pointY_29 : decode qM_pointY.1 29 = .ok (.iload_n 2, 1) := by decide +kernel
theorem d_M_pointY_30 : decode qM_pointY.1 30 = .ok (.iconst 1, 1) := by decide +kernel
theorem d_M_pointY_31 : decode qM_pointY.1 31 = .ok (.invokevirtual 168, 3) := by decide +kernel
theorem d_M_pointY_34 : decode qM_pointY.1 34 = .ok (.iaload, 1) := by decide +kernel
theorem d_M_pointY_35 : decode qM_pointY.1 35 = .ok (.ireturn, 1) := by decide +kernel
set_option maxRecDepth 100000 in
def m_pointY (σ : St) (p1 : Int32) (p2 : Int32) : Option (Int32) :=
  Option.bind (m_of σ p1 p2 (0 : Int32)) fun x1 =>
  Jn (fun (x2 : Int32) =>
  some x2
  ) fun J3 =>
  if (x1 : Int32) = (8 : Int32) then (
  Option.bind (m_of σ p1 p2 (8 : Int32)) fun x5 =>
  J3 x5
  ) else (
  Option.bind (m_of σ p1 p2 (1 : Int32)) fun x4 =>
  Gd (Ix x4 16) <|
  J3 (σ 4 (Int32.toNatClampNeg x4))
  )
set_option maxHeartbeats 4000000 in
set_option maxRecDepth 100000 in
theorem cM_pointY (l : Launch) (g : Ge) (hi : injB wM.2 g) (σ : St) (p1 : Int32) (p2 : Int32) (x : Int32) (h : m_pointY σ p1 p2 = some x) : Ct l wM g yM_pointY qM_pointY 1 23 [.ref (g.1 0), .int p1, .int p2] σ (some (.int x), σ) := by
  refine Ct.of (out := (o_r σ)) FM_pointY rfl hi rfl h (fun z hz C => ?_)
  clear h
  subst hz
  unfold m_pointY
  show Rt z qM_pointY wM g (o_r σ) 0 [(0, .ref (g.1 0)), (1, .int p1), (2, .int p2)] [] σ _
  refine q_aload_n (pc' := 1) C 0 d_M_pointY_0 rfl rfl ?_
  refine q_iload_n (pc' := 2) C 1 d_M_pointY_1 rfl rfl ?_
  refine q_iload_n (pc' := 3) C 2 d_M_pointY_2 rfl rfl ?_
  refine q_iconst (pc' := 4) C d_M_pointY_3 ki_0 rfl ?_
  refine q_callVr (fr' := 0) (lo' := 0) (pc' := 7) C FM_of lmM_168 d_M_pointY_4 0 jM_0 kM_0 cM0 [.int p1, .int p2, .int (0 : Int32)] [] rfl rfl (Nat.le_of_ble_eq_true rfl) ⟨rfl, rfl⟩ (fun x h => cM_of _ g hi σ p1 p2 (0 : Int32) x h) rfl (fun x1 _ => ?_)
  refine q_bipush (pc' := 9) C d_M_pointY_7 kb_8 rfl ?_
  refine q_join (fun J3 : Int32 → Option (Int32) => ∀ (x2 : Int32), Rt z qM_pointY wM g (o_r σ) 35 [] [.int x2] σ (J3 x2)) (fun x2 => ?_) (fun J3 hJ3 => ?_)
  · exact q_iret C rfl d_M_pointY_35 rfl
  refine q_icmp_ne (tgt := 23) (pc' := 12) C d_M_pointY_9 rfl rfl ?_ ?_
  · refine q_aload_n (pc' := 24) C 0 d_M_pointY_23 rfl rfl ?_
    refine gM_20 (pc' := 27) C d_M_pointY_24 rfl rfl ?_
    refine q_aload_n (pc' := 28) C 0 d_M_pointY_27 rfl rfl ?_
    refine q_iload_n (pc' := 29) C 1 d_M_pointY_28 rfl rfl ?_
    refine q_iload_n (pc' := 30) C 2 d_M_pointY_29 rfl rfl ?_
    refine q_iconst (pc' := 31) C d_M_pointY_30 ki_1 rfl ?_
    refine q_callVr (fr' := 0) (lo' := 0) (pc' := 34) C FM_of lmM_168 d_M_pointY_31 0 jM_0 kM_0 cM0 [.int p1, .int p2, .int (1 : Int32)] [.ref (g.1 4)] rfl rfl (Nat.le_of_ble_eq_true rfl) ⟨rfl, rfl⟩ (fun x h => cM_of _ g hi σ p1 p2 (1 : Int32) x h) rfl (fun x4 _ => ?_)
    refine q_iald (pc' := 35) C 4 jM_4 kM_4 d_M_pointY_34 rfl ?_
    exact Rt.sub [] rfl (hJ3 (σ 4 (Int32.toNatClampNeg x4)))
  · refine q_aload_n (pc' := 13) C 0 d_M_pointY_12 rfl rfl ?_
    refine q_iload_n (pc' := 14) C 1 d_M_pointY_13 rfl rfl ?_
    refine q_iload_n (pc' := 15) C 2 d_M_pointY_14 rfl rfl ?_
    refine q_bipush (pc' := 17) C d_M_pointY_15 kb_8 rfl ?_
    refine q_callVr (fr' := 0) (lo' := 0) (pc' := 20) C FM_of lmM_168 d_M_pointY_17 0 jM_0 kM_0 cM0 [.int p1, .int p2, .int (8 : Int32)] [] rfl rfl (Nat.le_of_ble_eq_true rfl) ⟨rfl, rfl⟩ (fun x h => cM_of _ g hi σ p1 p2 (8 : Int32) x h) rfl (fun x5 _ => ?_)
    refine q_goto (tgt := 35) C d_M_pointY_20 rfl ?_
    exact Rt.sub [] rfl (hJ3 x5)
theorem d_M_copyLeg_0 : decode qM_copyLeg.1 0 = .ok (.iconst 0, 1) := by decide +kernel
theorem d_M_copyLeg_1 : decode qM_copyLeg.1 1 = .ok (.istore 5, 2) := by decide +kernel
theorem d_M_copyLeg_3 : decode qM_copyLeg.1 3 = .ok (.iload 5, 2) := by decide +kernel
theorem d_M_copyLeg_5 : decode qM_copyLeg.1 5 = .ok (.bipush 14, 2) := by decide +kernel
theorem d_M_copyLeg_7 : decode qM_copyLeg.1 7 = .ok (.if_icmp .ge 42, 3) := by decide +kernel
theorem d_M_copyLeg_10 : decode qM_copyLeg.1 10 = .ok (.aload_n 0, 1) := by decide +kernel
theorem d_M_copyLeg_11 : decode qM_copyLeg.1 11 = .ok (.getfield 7, 3) := by decide +kernel
theorem d_M_copyLeg_14 : decode qM_copyLeg.1 14 = .ok (.iload_n 3, 1) := by decide +kernel
theorem d_M_copyLeg_15 : decode qM_copyLeg.1 15 = .ok (.iconst 3, 1) := by decide +kernel
theorem d_M_copyLeg_16 : decode qM_copyLeg.1 16 = .ok (.iadd, 1) := by decide +kernel
theorem d_M_copyLeg_17 : decode qM_copyLeg.1 17 = .ok (.bipush 14, 2) := by decide +kernel
theorem d_M_copyLeg_19 : decode qM_copyLeg.1 19 = .ok (.iload 4, 2) := by decide +kernel
theorem d_M_copyLeg_21 : decode qM_copyLeg.1 21 = .ok (.imul, 1) := by decide +kernel
theorem d_M_copyLeg_22 : decode qM_copyLeg.1 22 = .ok (.iadd, 1) := by decide +kernel
theorem d_M_copyLeg_23 : decode qM_copyLeg.1 23 = .ok (.iload 5, 2) := by decide +kernel
theorem d_M_copyLeg_25 : decode qM_copyLeg.1 25 = .ok (.iadd, 1) := by decide +kernel
theorem d_M_copyLeg_26 : decode qM_copyLeg.1 26 = .ok (.aload_n 0, 1) := by decide +kernel
theorem d_M_copyLeg_27 : decode qM_copyLeg.1 27 = .ok (.getfield 7, 3) := by decide +kernel
theorem d_M_copyLeg_30 : decode qM_copyLeg.1 30 = .ok (.iload_n 1, 1) := by decide +kernel
theorem d_M_copyLeg_31 : decode qM_copyLeg.1 31 = .ok (.iconst 3, 1) := by decide +kernel
theorem d_M_copyLeg_32 : decode qM_copyLeg.1 32 = .ok (.iadd, 1) := by decide +kernel
theorem d_M_copyLeg_33 : decode qM_copyLeg.1 33 = .ok (.bipush 14, 2) := by decide +kernel
theorem d_M_copyLeg_35 : decode qM_copyLeg.1 35 = .ok (.iload_n 2, 1) := by decide +kernel
theorem d_M_copyLeg_36 : decode qM_copyLeg.1 36 = .ok (.imul, 1) := by decide +kernel
theorem d_M_copyLeg_37 : decode qM_copyLeg.1 37 = .ok (.iadd, 1) := by decide +kernel
theorem d_M_copyLeg_38 : decode qM_copyLeg.1 38 = .ok (.iload 5, 2) := by decide +kernel
theorem d_M_copyLeg_40 : decode qM_copyLeg.1 40 = .ok (.iadd, 1) := by decide +kernel
theorem d_M_copyLeg_41 : decode qM_copyLeg.1 41 = .ok (.iaload, 1) := by decide +kernel
theorem d_M_copyLeg_42 : decode qM_copyLeg.1 42 = .ok (.iastore, 1) := by decide +kernel
theorem d_M_copyLeg_43 : decode qM_copyLeg.1 43 = .ok (.iinc 5 1, 3) := by decide +kernel
theorem d_M_copyLeg_46 : decode qM_copyLeg.1 46 = .ok (.goto (-43), 3) := by decide +kernel
theorem d_M_copyLeg_49 : decode qM_copyLeg.1 49 = .ok (.return_, 1) := by decide +kernel
set_option maxRecDepth 100000 in
def lb_m_copyLeg_3 (p1 : Int32) (p2 : Int32) (p3 : Int32) (p4 : Int32) (J2 : St → Option (St)) (ih4 : Int32 × St → Option (St)) (a3 : Int32 × St) : Option (St) :=
  if ((14 : Int32) : Int32) ≤ a3.1 then (
  J2 a3.2
  ) else (
  Gd (Ix (((p1 + (3 : Int32)) + ((14 : Int32) * p2)) + a3.1) 2673) <|
  Gd (Ix (((p3 + (3 : Int32)) + ((14 : Int32) * p4)) + a3.1) 2673) <|
  Lt (s2 a3.2 1 (Int32.toNatClampNeg (((p3 + (3 : Int32)) + ((14 : Int32) * p4)) + a3.1)) (a3.2 1 (Int32.toNatClampNeg (((p1 + (3 : Int32)) + ((14 : Int32) * p2)) + a3.1)))) fun σ5 =>
  Lt (a3.1 + (1 : Int32) : Int32) fun x6 =>
  ih4 (x6, σ5)
  )
set_option maxRecDepth 100000 in
def m_copyLeg (σ : St) (p1 : Int32) (p2 : Int32) (p3 : Int32) (p4 : Int32) : Option (St) :=
  Jn (fun (σ1 : St) =>
  some σ1
  ) fun J2 =>
  lp (lb_m_copyLeg_3 p1 p2 p3 p4 J2) 4000 ((0 : Int32), σ)
set_option maxHeartbeats 4000000 in
set_option maxRecDepth 100000 in
theorem cM_copyLeg (l : Launch) (g : Ge) (hi : injB wM.2 g) (σ : St) (p1 : Int32) (p2 : Int32) (p3 : Int32) (p4 : Int32) (x : St) (h : m_copyLeg σ p1 p2 p3 p4 = some x) : Ct l wM g yM_copyLeg qM_copyLeg 0 0 [.ref (g.1 0), .int p1, .int p2, .int p3, .int p4] σ (none, x) := by
  refine Ct.of (out := o_v) FM_copyLeg rfl hi rfl h (fun z hz C => ?_)
  clear h
  subst hz
  unfold m_copyLeg
  show Rt z qM_copyLeg wM g o_v 0 [(0, .ref (g.1 0)), (1, .int p1), (2, .int p2), (3, .int p3), (4, .int p4)] [] σ _
  refine q_iconst (pc' := 1) C d_M_copyLeg_0 ki_0 rfl ?_
  refine q_istore (pc' := 3) (lv' := [(5, .int (0 : Int32)), (0, .ref (g.1 0)), (1, .int p1), (2, .int p2), (3, .int p3), (4, .int p4)]) C d_M_copyLeg_1 (by decide) rfl rfl ?_
  refine q_join (fun J2 : St → Option (St) => ∀ (σ1 : St), Rt z qM_copyLeg wM g o_v 49 [] [] σ1 (J2 σ1)) (fun σ1 => ?_) (fun J2 hJ2 => ?_)
  · exact q_vret C rfl d_M_copyLeg_49 rfl
  refine Rt.sub [1, 2, 3, 4, 5, 0] rfl (q_lp (fun a3 : Int32 × St => [(0, .ref (g.1 0)), (1, .int p1), (2, .int p2), (3, .int p3), (4, .int p4), (5, .int a3.1)]) (fun a3 => []) (fun a3 => a3.2) (fun ih4 hih4 a3 => ?_) 4000 ((0 : Int32), σ))
  unfold lb_m_copyLeg_3
  refine q_iload (pc' := 5) C 5 d_M_copyLeg_3 rfl rfl ?_
  refine q_bipush (pc' := 7) C d_M_copyLeg_5 kb_14 rfl ?_
  refine q_icmp_ge (tgt := 49) (pc' := 10) C d_M_copyLeg_7 rfl rfl ?_ ?_
  · exact Rt.sub [] rfl (hJ2 a3.2)
  · refine q_aload_n (pc' := 11) C 0 d_M_copyLeg_10 rfl rfl ?_
    refine gM_7 (pc' := 14) C d_M_copyLeg_11 rfl rfl ?_
    refine q_iload_n (pc' := 15) C 3 d_M_copyLeg_14 rfl rfl ?_
    refine q_iconst (pc' := 16) C d_M_copyLeg_15 ki_3 rfl ?_
    refine q_iadd (pc' := 17) C d_M_copyLeg_16 rfl ?_
    refine q_bipush (pc' := 19) C d_M_copyLeg_17 kb_14 rfl ?_
    refine q_iload (pc' := 21) C 4 d_M_copyLeg_19 rfl rfl ?_
    refine q_imul (pc' := 22) C d_M_copyLeg_21 rfl ?_
    refine q_iadd (pc' := 23) C d_M_copyLeg_22 rfl ?_
    refine q_iload (pc' := 25) C 5 d_M_copyLeg_23 rfl rfl ?_
    refine q_iadd (pc' := 26) C d_M_copyLeg_25 rfl ?_
    refine q_aload_n (pc' := 27) C 0 d_M_copyLeg_26 rfl rfl ?_
    refine gM_7 (pc' := 30) C d_M_copyLeg_27 rfl rfl ?_
    refine q_iload_n (pc' := 31) C 1 d_M_copyLeg_30 rfl rfl ?_
    refine q_iconst (pc' := 32) C d_M_copyLeg_31 ki_3 rfl ?_
    refine q_iadd (pc' := 33) C d_M_copyLeg_32 rfl ?_
    refine q_bipush (pc' := 35) C d_M_copyLeg_33 kb_14 rfl ?_
    refine q_iload_n (pc' := 36) C 2 d_M_copyLeg_35 rfl rfl ?_
    refine q_imul (pc' := 37) C d_M_copyLeg_36 rfl ?_
    refine q_iadd (pc' := 38) C d_M_copyLeg_37 rfl ?_
    refine q_iload (pc' := 40) C 5 d_M_copyLeg_38 rfl rfl ?_
    refine q_iadd (pc' := 41) C d_M_copyLeg_40 rfl ?_
    refine q_iald (pc' := 42) C 1 jM_1 kM_1 d_M_copyLeg_41 rfl ?_
    refine q_iast (pc' := 43) C 1 jM_1 kM_1 d_M_copyLeg_42 rfl ?_
    refine q_let (fun σ5 e5 => ?_)
    refine q_state e5 ?_
    refine q_let (fun x6 e6 => ?_)
    refine q_iinc (pc' := 46) (lv' := [(5, .int x6), (0, .ref (g.1 0)), (1, .int p1), (2, .int p2), (3, .int p3), (4, .int p4)]) C 5 d_M_copyLeg_43 rfl (by rw [e6, ki_1]) (by decide) rfl rfl ?_
    refine q_goto (tgt := 3) C d_M_copyLeg_46 rfl ?_
    exact Rt.sub [1, 2, 3, 4, 5, 0] rfl (hih4 (x6, σ5))
theorem d_M_copyPlan_0 : decode qM_copyPlan.1 0 = .ok (.iconst 0, 1) := by decide +kernel
theorem d_M_copyPlan_1 : decode qM_copyPlan.1 1 = .ok (.istore_n 3, 1) := by decide +kernel
theorem d_M_copyPlan_2 : decode qM_copyPlan.1 2 = .ok (.iload_n 3, 1) := by decide +kernel
theorem d_M_copyPlan_3 : decode qM_copyPlan.1 3 = .ok (.sipush 297, 3) := by decide +kernel
theorem d_M_copyPlan_6 : decode qM_copyPlan.1 6 = .ok (.if_icmp .ge 25, 3) := by decide +kernel
theorem d_M_copyPlan_9 : decode qM_copyPlan.1 9 = .ok (.aload_n 0, 1) := by decide +kernel
theorem d_M_copyPlan_10 : decode qM_copyPlan.1 10 = .ok (.getfield 7, 3) := by decide +kernel
theorem d_M_copyPlan_13 : decode qM_copyPlan.1 13 = .ok (.iload_n 2, 1) := by decide +kernel
theorem d_M_copyPlan_14 : decode qM_copyPlan.1 14 = .ok (.iload_n 3, 1) := by decide +kernel
theorem d_M_copyPlan_15 : decode qM_copyPlan.1 15 = .ok (.iadd, 1) := by decide +kernel
theorem d_M_copyPlan_16 : decode qM_copyPlan.1 16 = .ok (.aload_n 0, 1) := by decide +kernel
theorem d_M_copyPlan_17 : decode qM_copyPlan.1 17 = .ok (.getfield 7, 3) := by decide +kernel
theorem d_M_copyPlan_20 : decode qM_copyPlan.1 20 = .ok (.iload_n 1, 1) := by decide +kernel
theorem d_M_copyPlan_21 : decode qM_copyPlan.1 21 = .ok (.iload_n 3, 1) := by decide +kernel
theorem d_M_copyPlan_22 : decode qM_copyPlan.1 22 = .ok (.iadd, 1) := by decide +kernel
theorem d_M_copyPlan_23 : decode qM_copyPlan.1 23 = .ok (.iaload, 1) := by decide +kernel
theorem d_M_copyPlan_24 : decode qM_copyPlan.1 24 = .ok (.iastore, 1) := by decide +kernel
theorem d_M_copyPlan_25 : decode qM_copyPlan.1 25 = .ok (.iinc 3 1, 3) := by decide +kernel
theorem d_M_copyPlan_28 : decode qM_copyPlan.1 28 = .ok (.goto (-26), 3) := by decide +kernel
theorem d_M_copyPlan_31 : decode qM_copyPlan.1 31 = .ok (.return_, 1) := by decide +kernel
set_option maxRecDepth 100000 in
def lb_m_copyPlan_2 (p1 : Int32) (p2 : Int32) (J2 : St → Option (St)) (ih4 : Int32 × St → Option (St)) (a3 : Int32 × St) : Option (St) :=
  if ((297 : Int32) : Int32) ≤ a3.1 then (
  J2 a3.2
  ) else (
  Gd (Ix (p1 + a3.1) 2673) <|
  Gd (Ix (p2 + a3.1) 2673) <|
  Lt (s2 a3.2 1 (Int32.toNatClampNeg (p2 + a3.1)) (a3.2 1 (Int32.toNatClampNeg (p1 + a3.1)))) fun σ5 =>
  Lt (a3.1 + (1 : Int32) : Int32) fun x6 =>
  ih4 (x6, σ5)
  )
set_option maxRecDepth 100000 in
def m_copyPlan (σ : St) (p1 : Int32) (p2 : Int32) : Option (St) :=
  Jn (fun (σ1 : St) =>
  some σ1
  ) fun J2 =>
  lp (lb_m_copyPlan_2 p1 p2 J2) 4000 ((0 : Int32), σ)
set_option maxHeartbeats 4000000 in
set_option maxRecDepth 100000 in
theorem cM_copyPlan (l : Launch) (g : Ge) (hi : injB wM.2 g) (σ : St) (p1 : Int32) (p2 : Int32) (x : St) (h : m_copyPlan σ p1 p2 = some x) : Ct l wM g yM_copyPlan qM_copyPlan 0 0 [.ref (g.1 0), .int p1, .int p2] σ (none, x) := by
  refine Ct.of (out := o_v) FM_copyPlan rfl hi rfl h (fun z hz C => ?_)
  clear h
  subst hz
  unfold m_copyPlan
  show Rt z qM_copyPlan wM g o_v 0 [(0, .ref (g.1 0)), (1, .int p1), (2, .int p2)] [] σ _
  refine q_iconst (pc' := 1) C d_M_copyPlan_0 ki_0 rfl ?_
  refine q_istore_n (pc' := 2) (lv' := [(3, .int (0 : Int32)), (0, .ref (g.1 0)), (1, .int p1), (2, .int p2)]) C d_M_copyPlan_1 (by decide) rfl rfl ?_
  refine q_join (fun J2 : St → Option (St) => ∀ (σ1 : St), Rt z qM_copyPlan wM g o_v 31 [] [] σ1 (J2 σ1)) (fun σ1 => ?_) (fun J2 hJ2 => ?_)
  · exact q_vret C rfl d_M_copyPlan_31 rfl
  refine Rt.sub [1, 2, 3, 0] rfl (q_lp (fun a3 : Int32 × St => [(0, .ref (g.1 0)), (1, .int p1), (2, .int p2), (3, .int a3.1)]) (fun a3 => []) (fun a3 => a3.2) (fun ih4 hih4 a3 => ?_) 4000 ((0 : Int32), σ))
  unfold lb_m_copyPlan_2
  refine q_iload_n (pc' := 3) C 3 d_M_copyPlan_2 rfl rfl ?_
  refine q_sipush (pc' := 6) C d_M_copyPlan_3 ks_297 rfl ?_
  refine q_icmp_ge (tgt := 31) (pc' := 9) C d_M_copyPlan_6 rfl rfl ?_ ?_
  · exact Rt.sub [] rfl (hJ2 a3.2)
  · refine q_aload_n (pc' := 10) C 0 d_M_copyPlan_9 rfl rfl ?_
    refine gM_7 (pc' := 13) C d_M_copyPlan_10 rfl rfl ?_
    refine q_iload_n (pc' := 14) C 2 d_M_copyPlan_13 rfl rfl ?_
    refine q_iload_n (pc' := 15) C 3 d_M_copyPlan_14 rfl rfl ?_
    refine q_iadd (pc' := 16) C d_M_copyPlan_15 rfl ?_
    refine q_aload_n (pc' := 17) C 0 d_M_copyPlan_16 rfl rfl ?_
    refine gM_7 (pc' := 20) C d_M_copyPlan_17 rfl rfl ?_
    refine q_iload_n (pc' := 21) C 1 d_M_copyPlan_20 rfl rfl ?_
    refine q_iload_n (pc' := 22) C 3 d_M_copyPlan_21 rfl rfl ?_
    refine q_iadd (pc' := 23) C d_M_copyPlan_22 rfl ?_
    refine q_iald (pc' := 24) C 1 jM_1 kM_1 d_M_copyPlan_23 rfl ?_
    refine q_iast (pc' := 25) C 1 jM_1 kM_1 d_M_copyPlan_24 rfl ?_
    refine q_let (fun σ5 e5 => ?_)
    refine q_state e5 ?_
    refine q_let (fun x6 e6 => ?_)
    refine q_iinc (pc' := 28) (lv' := [(3, .int x6), (0, .ref (g.1 0)), (1, .int p1), (2, .int p2)]) C 3 d_M_copyPlan_25 rfl (by rw [e6, ki_1]) (by decide) rfl rfl ?_
    refine q_goto (tgt := 2) C d_M_copyPlan_28 rfl ?_
    exact Rt.sub [1, 2, 3, 0] rfl (hih4 (x6, σ5))
theorem d_M_ends_0 : decode qM_ends.1 0 = .ok (.aload_n 0, 1) := by decide +kernel
theorem d_M_ends_1 : decode qM_ends.1 1 = .ok (.getfield 81, 3) := by decide +kernel
theorem d_M_ends_4 : decode qM_ends.1 4 = .ok (.iload_n 1, 1) := by decide +kernel
theorem d_M_ends_5 : decode qM_ends.1 5 = .ok (.iconst 1, 1) := by decide +kernel
theorem d_M_ends_6 : decode qM_ends.1 6 = .ok (.bastore, 1) := by decide +kernel
theorem d_M_ends_7 : decode qM_ends.1 7 = .ok (.aload_n 0, 1) := by decide +kernel
theorem d_M_ends_8 : decode qM_ends.1 8 = .ok (.getfield 84, 3) := by decide +kernel
theorem d_M_ends_11 : decode qM_ends.1 11 = .ok (.iload_n 1, 1) := by decide +kernel
theorem d_M_ends_12 : decode qM_ends.1 12 = .ok (.iload_n 2, 1) := by decide +kernel
theorem d_M_ends_13 : decode qM_ends.1 13 = .ok (.iastore, 1) := by decide +kernel
theorem d_M_ends_14 : decode qM_ends.1 14 = .ok (.aload_n 0, 1) := by decide +kernel
theorem d_M_ends_15 : decode qM_ends.1 15 = .ok (.getfield 87, 3) := by decide +kernel
theorem d_M_ends_18 : decode qM_ends.1 18 = .ok (.iload_n 1, 1) := by decide +kernel
theorem d_M_ends_19 : decode qM_ends.1 19 = .ok (.iload_n 3, 1) := by decide +kernel
theorem d_M_ends_20 : decode qM_ends.1 20 = .ok (.iastore, 1) := by decide +kernel
theorem d_M_ends_21 : decode qM_ends.1 21 = .ok (.return_, 1) := by decide +kernel
set_option maxRecDepth 100000 in
def m_ends (σ : St) (p1 : Int32) (p2 : Int32) (p3 : Int32) : Option (St) :=
  Gd (Ix p1 21) <|
  Lt (s2 σ 19 (Int32.toNatClampNeg p1) ((1 : Int32) &&& 1)) fun σ1 =>
  Gd (Ix p1 21) <|
  Lt (s2 σ1 20 (Int32.toNatClampNeg p1) p2) fun σ2 =>
  Gd (Ix p1 21) <|
  Lt (s2 σ2 21 (Int32.toNatClampNeg p1) p3) fun σ3 =>
  some σ3
set_option maxHeartbeats 4000000 in
set_option maxRecDepth 100000 in
theorem cM_ends (l : Launch) (g : Ge) (hi : injB wM.2 g) (σ : St) (p1 : Int32) (p2 : Int32) (p3 : Int32) (x : St) (h : m_ends σ p1 p2 p3 = some x) : Ct l wM g yM_ends qM_ends 0 0 [.ref (g.1 0), .int p1, .int p2, .int p3] σ (none, x) := by
  refine Ct.of (out := o_v) FM_ends rfl hi rfl h (fun z hz C => ?_)
  clear h
  subst hz
  unfold m_ends
  show Rt z qM_ends wM g o_v 0 [(0, .ref (g.1 0)), (1, .int p1), (2, .int p2), (3, .int p3)] [] σ _
  refine q_aload_n (pc' := 1) C 0 d_M_ends_0 rfl rfl ?_
  refine gM_81 (pc' := 4) C d_M_ends_1 rfl rfl ?_
  refine q_iload_n (pc' := 5) C 1 d_M_ends_4 rfl rfl ?_
  refine q_iconst (pc' := 6) C d_M_ends_5 ki_1 rfl ?_
  refine q_zast (pc' := 7) C 19 jM_19 kM_19 d_M_ends_6 rfl ?_
  refine q_let (fun σ1 e1 => ?_)
  refine q_state e1 ?_
  refine q_aload_n (pc' := 8) C 0 d_M_ends_7 rfl rfl ?_
  refine gM_84 (pc' := 11) C d_M_ends_8 rfl rfl ?_
  refine q_iload_n (pc' := 12) C 1 d_M_ends_11 rfl rfl ?_
  refine q_iload_n (pc' := 13) C 2 d_M_ends_12 rfl rfl ?_
  refine q_iast (pc' := 14) C 20 jM_20 kM_20 d_M_ends_13 rfl ?_
  refine q_let (fun σ2 e2 => ?_)
  refine q_state e2 ?_
  refine q_aload_n (pc' := 15) C 0 d_M_ends_14 rfl rfl ?_
  refine gM_87 (pc' := 18) C d_M_ends_15 rfl rfl ?_
  refine q_iload_n (pc' := 19) C 1 d_M_ends_18 rfl rfl ?_
  refine q_iload_n (pc' := 20) C 3 d_M_ends_19 rfl rfl ?_
  refine q_iast (pc' := 21) C 21 jM_21 kM_21 d_M_ends_20 rfl ?_
  refine q_let (fun σ3 e3 => ?_)
  refine q_state e3 ?_
  exact q_vret C rfl d_M_ends_21 rfl
theorem d_M_inbound_0 : decode qM_inbound.1 0 = .ok (.aload_n 0, 1) := by decide +kernel
theorem d_M_inbound_1 : decode qM_inbound.1 1 = .ok (.iload_n 1, 1) := by decide +kernel
theorem d_M_inbound_2 : decode qM_inbound.1 2 = .ok (.putfield 175, 3) := by decide +kernel
theorem d_M_inbound_5 : decode qM_inbound.1 5 = .ok (.aload_n 0, 1) := by decide +kernel
theorem d_M_inbound_6 : decode qM_inbound.1 6 = .ok (.iload_n 2, 1) := by decide +kernel
theorem d_M_inbound_7 : decode qM_inbound.1 7 = .ok (.putfield 178, 3) := by decide +kernel
theorem d_M_inbound_10 : decode qM_inbound.1 10 = .ok (.aload_n 0, 1) := by decide +kernel
theorem d_M_inbound_11 : decode qM_inbound.1 11 = .ok (.iload_n 3, 1) := by decide +kernel
theorem d_M_inbound_12 : decode qM_inbound.1 12 = .ok (.putfield 181, 3) := by decide +kernel
theorem d_M_inbound_15 : decode qM_inbound.1 15 = .ok (.aload_n 0, 1) := by decide +kernel
theorem d_M_inbound_16 : decode qM_inbound.1 16 = .ok (.iload 4, 2) := by decide +kernel
theorem d_M_inbound_18 : decode qM_inbound.1 18 = .ok (.putfield 184, 3) := by decide +kernel
theorem d_M_inbound_21 : decode qM_inbound.1 21 = .ok (.return_, 1) := by decide +kernel
set_option maxRecDepth 100000 in
def m_inbound (σ : St) (p1 : Int32) (p2 : Int32) (p3 : Int32) (p4 : Int32) : Option (St) :=
  Lt (s2 σ 0 31 p1) fun σ1 =>
  Lt (s2 σ1 0 32 p2) fun σ2 =>
  Lt (s2 σ2 0 33 p3) fun σ3 =>
  Lt (s2 σ3 0 34 p4) fun σ4 =>
  some σ4
set_option maxHeartbeats 4000000 in
set_option maxRecDepth 100000 in
theorem cM_inbound (l : Launch) (g : Ge) (hi : injB wM.2 g) (σ : St) (p1 : Int32) (p2 : Int32) (p3 : Int32) (p4 : Int32) (x : St) (h : m_inbound σ p1 p2 p3 p4 = some x) : Ct l wM g yM_inbound qM_inbound 0 0 [.ref (g.1 0), .int p1, .int p2, .int p3, .int p4] σ (none, x) := by
  refine Ct.of (out := o_v) FM_inbound rfl hi rfl h (fun z hz C => ?_)
  clear h
  subst hz
  unfold m_inbound
  show Rt z qM_inbound wM g o_v 0 [(0, .ref (g.1 0)), (1, .int p1), (2, .int p2), (3, .int p3), (4, .int p4)] [] σ _
  refine q_aload_n (pc' := 1) C 0 d_M_inbound_0 rfl rfl ?_
  refine q_iload_n (pc' := 2) C 1 d_M_inbound_1 rfl rfl ?_
  refine pM_175 (pc' := 5) C d_M_inbound_2 rfl rfl ?_
  refine q_let (fun σ1 e1 => ?_)
  refine q_state e1 ?_
  refine q_aload_n (pc' := 6) C 0 d_M_inbound_5 rfl rfl ?_
  refine q_iload_n (pc' := 7) C 2 d_M_inbound_6 rfl rfl ?_
  refine pM_178 (pc' := 10) C d_M_inbound_7 rfl rfl ?_
  refine q_let (fun σ2 e2 => ?_)
  refine q_state e2 ?_
  refine q_aload_n (pc' := 11) C 0 d_M_inbound_10 rfl rfl ?_
  refine q_iload_n (pc' := 12) C 3 d_M_inbound_11 rfl rfl ?_
  refine pM_181 (pc' := 15) C d_M_inbound_12 rfl rfl ?_
  refine q_let (fun σ3 e3 => ?_)
  refine q_state e3 ?_
  refine q_aload_n (pc' := 16) C 0 d_M_inbound_15 rfl rfl ?_
  refine q_iload (pc' := 18) C 4 d_M_inbound_16 rfl rfl ?_
  refine pM_184 (pc' := 21) C d_M_inbound_18 rfl rfl ?_
  refine q_let (fun σ4 e4 => ?_)
  refine q_state e4 ?_
  exact q_vret C rfl d_M_inbound_21 rfl
theorem d_M_segment_0 : decode qM_segment.1 0 = .ok (.iload 4, 2) := by decide +kernel
theorem d_M_segment_2 : decode qM_segment.1 2 = .ok (.ifCond .ne 4, 3) := by decide +kernel
theorem d_M_segment_5 : decode qM_segment.1 5 = .ok (.return_, 1) := by decide +kernel
theorem d_M_segment_6 : decode qM_segment.1 6 = .ok (.aload_n 0, 1) := by decide +kernel
theorem d_M_segment_7 : decode qM_segment.1 7 = .ok (.getfield 172, 3) := by decide +kernel
theorem d_M_segment_10 : decode qM_segment.1 10 = .ok (.istore 6, 2) := by decide +kernel
theorem d_M_segment_12 : decode qM_segment.1 12 = .ok (.aload_n 0, 1) := by decide +kernel
theorem d_M_segment_13 : decode qM_segment.1 13 = .ok (.getfield 45, 3) := by decide +kernel
theorem d_M_segment_16 : decode qM_segment.1 16 = .ok (.iload 6, 2) := by decide +kernel
theorem d_M_segment_18 : decode qM_segment.1 18 = .ok (.iload_n 1, 1) := by decide +kernel
theorem d_M_segment_19 : decode qM_segment.1 19 = .ok (.iastore, 1) := by decide +kernel
theorem d_M_segment_20 : decode qM_segment.1 20 = .ok (.aload_n 0, 1) := by decide +kernel
theorem d_M_segment_21 : decode qM_segment.1 21 = .ok (.getfield 54, 3) := by decide +kernel
theorem d_M_segment_24 : decode qM_segment.1 24 = .ok (.iload 6, 2) := by decide +kernel
theorem d_M_segment_26 : decode qM_segment.1 26 = .ok (.iload_n 2, 1) := by decide +kernel
theorem d_M_segment_27 : decode qM_segment.1 27 = .ok (.iastore, 1) := by decide +kernel
theorem d_M_segment_28 : decode qM_segment.1 28 = .ok (.aload_n 0, 1) := by decide +kernel
theorem d_M_segment_29 : decode qM_segment.1 29 = .ok (.getfield 57, 3) := by decide +kernel
theorem d_M_segment_32 : decode qM_segment.1 32 = .ok (.iload 6, 2) := by decide +kernel
theorem d_M_segment_34 : decode qM_segment.1 34 = .ok (.iload_n 3, 1) := by decide +kernel
theorem d_M_segment_35 : decode qM_segment.1 35 = .ok (.iastore, 1) := by decide +kernel
theorem d_M_segment_36 : decode qM_segment.1 36 = .ok (.aload_n 0, 1) := by decide +kernel
theorem d_M_segment_37 : decode qM_segment.1 37 = .ok (.getfield 60, 3) := by decide +kernel
theorem d_M_segment_40 : decode qM_segment.1 40 = .ok (.iload 6, 2) := by decide +kernel
theorem d_M_segment_42 : decode qM_segment.1 42 = .ok (.iload 4, 2) := by decide +kernel
theorem d_M_segment_44 : decode qM_segment.1 44 = .ok (.iastore, 1) := by decide +kernel
theorem d_M_segment_45 : decode qM_segment.1 45 = .ok (.aload_n 0, 1) := by decide +kernel
theorem d_M_segment_46 : decode qM_segment.1 46 = .ok (.getfield 63, 3) := by decide +kernel
theorem d_M_segment_49 : decode qM_segment.1 49 = .ok (.iload 6, 2) := by decide +kernel
theorem d_M_segment_51 : decode qM_segment.1 51 = .ok (.iload 5, 2) := by decide +kernel
theorem d_M_segment_53 : decode qM_segment.1 53 = .ok (.iastore, 1) := by decide +kernel
theorem d_M_segment_54 : decode qM_segment.1 54 = .ok (.aload_n 0, 1) := by decide +kernel
theorem d_M_segment_55 : decode qM_segment.1 55 = .ok (.getfield 66, 3) := by decide +kernel
theorem d_M_segment_58 : decode qM_segment.1 58 = .ok (.iload 6, 2) := by decide +kernel
theorem d_M_segment_60 : decode qM_segment.1 60 = .ok (.aload_n 0, 1) := by decide +kernel
theorem d_M_segment_61 : decode qM_segment.1 61 = .ok (.getfield 175, 3) := by decide +kernel
theorem d_M_segment_64 : decode qM_segment.1 64 = .ok (.iastore, 1) := by decide +kernel
theorem d_M_segment_65 : decode qM_segment.1 65 = .ok (.aload_n 0, 1) := by decide +kernel
theorem d_M_segment_66 : decode qM_segment.1 66 = .ok (.getfield 69, 3) := by decide +kernel
theorem d_M_segment_69 : decode qM_segment.1 69 = .ok (.iload 6, 2) := by decide +kernel
theorem d_M_segment_71 : decode qM_segment.1 71 = .ok (.aload_n 0, 1) := by decide +kernel
theorem d_M_segment_72 : decode qM_segment.1 72 = .ok (.getfield 178, 3) := by decide +kernel
theorem d_M_segment_75 : decode qM_segment.1 75 = .ok (.iastore, 1) := by decide +kernel
theorem d_M_segment_76 : decode qM_segment.1 76 = .ok (.aload_n 0, 1) := by decide +kernel
theorem d_M_segment_77 : decode qM_segment.1 77 = .ok (.getfield 72, 3) := by decide +kernel
theorem d_M_segment_80 : decode qM_segment.1 80 = .ok (.iload 6, 2) := by decide +kernel
theorem d_M_segment_82 : decode qM_segment.1 82 = .ok (.aload_n 0, 1) := by decide +kernel
theorem d_M_segment_83 : decode qM_segment.1 83 = .ok (.getfield 181, 3) := by decide +kernel
theorem d_M_segment_86 : decode qM_segment.1 86 = .ok (.iastore, 1) := by decide +kernel
theorem d_M_segment_87 : decode qM_segment.1 87 = .ok (.aload_n 0, 1) := by decide +kernel
theorem d_M_segment_88 : decode qM_segment.1 88 = .ok (.getfield 75, 3) := by decide +kernel
theorem d_M_segment_91 : decode qM_segment.1 91 = .ok (.iload 6, 2) := by decide +kernel
theorem d_M_segment_93 : decode qM_segment.1 93 = .ok (.aload_n 0, 1) := by decide +kernel
theorem d_M_segment_94 : decode qM_segment.1 94 = .ok (.getfield 184, 3) := by decide +kernel
theorem d_M_segment_97 : decode qM_segment.1 97 = .ok (.iastore, 1) := by decide +kernel
theorem d_M_segment_98 : decode qM_segment.1 98 = .ok (.aload_n 0, 1) := by decide +kernel
theorem d_M_segment_99 : decode qM_segment.1 99 = .ok (.dup, 1) := by decide +kernel
theorem d_M_segment_100 : decode qM_segment.1 100 = .ok (.getfield 172, 3) := by decide +kernel
theorem d_M_segment_103 : decode qM_segment.1 103 = .ok (.iconst 1, 1) := by decide +kernel
theorem d_M_segment_104 : decode qM_segment.1 104 = .ok (.iadd, 1) := by decide +kernel
theorem d_M_segment_105 : decode qM_segment.1 105 = .ok (.putfield 172, 3) := by decide +kernel
theorem d_M_segment_108 : decode qM_segment.1 108 = .ok (.aload_n 0, 1) := by decide +kernel
theorem d_M_segment_109 : decode qM_segment.1 109 = .ok (.iload 5, 2) := by decide +kernel
theorem d_M_segment_111 : decode qM_segment.1 111 = .ok (.iload 4, 2) := by decide +kernel
theorem d_M_segment_113 : decode qM_segment.1 113 = .ok (.iload_n 1, 1) := by decide +kernel
theorem d_M_segment_114 : decode qM_segment.1 114 = .ok (.iload 6, 2) := by decide +kernel
theorem d_M_segment_116 : decode qM_segment.1 116 = .ok (.invokevirtual 187, 3) := by decide +kernel
theorem d_M_segment_119 : decode qM_segment.1 119 = .ok (.return_, 1) := by decide +kernel
set_option maxRecDepth 100000 in
def m_segment (σ : St) (p1 : Int32) (p2 : Int32) (p3 : Int32) (p4 : Int32) (p5 : Int32) : Option (St) :=
  if (p4 : Int32) = 0 then (
  some σ
  ) else (
  Lt ((σ 0 30) : Int32) fun x1 =>
  Gd (Ix x1 42) <|
  Lt (s2 σ 7 (Int32.toNatClampNeg x1) p1) fun σ2 =>
  Gd (Ix x1 42) <|
  Lt (s2 σ2 10 (Int32.toNatClampNeg x1) p2) fun σ3 =>
  Gd (Ix x1 42) <|
  Lt (s2 σ3 11 (Int32.toNatClampNeg x1) p3) fun σ4 =>
  Gd (Ix x1 42) <|
  Lt (s2 σ4 12 (Int32.toNatClampNeg x1) p4) fun σ5 =>
  Gd (Ix x1 42) <|
  Lt (s2 σ5 13 (Int32.toNatClampNeg x1) p5) fun σ6 =>
  Gd (Ix x1 42) <|
  Lt (s2 σ6 14 (Int32.toNatClampNeg x1) (σ6 0 31)) fun σ7 =>
  Gd (Ix x1 42) <|
  Lt (s2 σ7 15 (Int32.toNatClampNeg x1) (σ7 0 32)) fun σ8 =>
  Gd (Ix x1 42) <|
  Lt (s2 σ8 16 (Int32.toNatClampNeg x1) (σ8 0 33)) fun σ9 =>
  Gd (Ix x1 42) <|
  Lt (s2 σ9 17 (Int32.toNatClampNeg x1) (σ9 0 34)) fun σ10 =>
  Lt (s2 σ10 0 30 ((σ10 0 30) + (1 : Int32))) fun σ11 =>
  Option.bind (m_inbound σ11 p5 p4 p1 x1) fun x12 =>
  some x12
  )
set_option maxHeartbeats 4000000 in
set_option maxRecDepth 100000 in
theorem cM_segment (l : Launch) (g : Ge) (hi : injB wM.2 g) (σ : St) (p1 : Int32) (p2 : Int32) (p3 : Int32) (p4 : Int32) (p5 : Int32) (x : St) (h : m_segment σ p1 p2 p3 p4 p5 = some x) : Ct l wM g yM_segment qM_segment 1 24 [.ref (g.1 0), .int p1, .int p2, .int p3, .int p4, .int p5] σ (none, x) := by
  refine Ct.of (out := o_v) FM_segment rfl hi rfl h (fun z hz C => ?_)
  clear h
  subst hz
  unfold m_segment
  show Rt z qM_segment wM g o_v 0 [(0, .ref (g.1 0)), (1, .int p1), (2, .int p2), (3, .int p3), (4, .int p4), (5, .int p5)] [] σ _
  refine q_iload (pc' := 2) C 4 d_M_segment_0 rfl rfl ?_
  refine q_if_ne (tgt := 6) (pc' := 5) C d_M_segment_2 rfl rfl ?_ ?_
  · refine q_aload_n (pc' := 7) C 0 d_M_segment_6 rfl rfl ?_
    refine gM_172 (pc' := 10) C d_M_segment_7 rfl rfl ?_
    refine q_let (fun x1 e1 => ?_)
    refine q_topi e1 ?_
    refine q_istore (pc' := 12) (lv' := [(6, .int x1), (0, .ref (g.1 0)), (1, .int p1), (2, .int p2), (3, .int p3), (4, .int p4), (5, .int p5)]) C d_M_segment_10 (by decide) rfl rfl ?_
    refine q_aload_n (pc' := 13) C 1 d_M_segment_12 rfl rfl ?_
    refine gM_45 (pc' := 16) C d_M_segment_13 rfl rfl ?_
    refine q_iload (pc' := 18) C 0 d_M_segment_16 rfl rfl ?_
    refine q_iload_n (pc' := 19) C 2 d_M_segment_18 rfl rfl ?_
    refine q_iast (pc' := 20) C 7 jM_7 kM_7 d_M_segment_19 rfl ?_
    refine q_let (fun σ2 e2 => ?_)
    refine q_state e2 ?_
    refine q_aload_n (pc' := 21) C 1 d_M_segment_20 rfl rfl ?_
    refine gM_54 (pc' := 24) C d_M_segment_21 rfl rfl ?_
    refine q_iload (pc' := 26) C 0 d_M_segment_24 rfl rfl ?_
    refine q_iload_n (pc' := 27) C 3 d_M_segment_26 rfl rfl ?_
    refine q_iast (pc' := 28) C 10 jM_10 kM_10 d_M_segment_27 rfl ?_
    refine q_let (fun σ3 e3 => ?_)
    refine q_state e3 ?_
    refine q_aload_n (pc' := 29) C 1 d_M_segment_28 rfl rfl ?_
    refine gM_57 (pc' := 32) C d_M_segment_29 rfl rfl ?_
    refine q_iload (pc' := 34) C 0 d_M_segment_32 rfl rfl ?_
    refine q_iload_n (pc' := 35) C 4 d_M_segment_34 rfl rfl ?_
    refine q_iast (pc' := 36) C 11 jM_11 kM_11 d_M_segment_35 rfl ?_
    refine q_let (fun σ4 e4 => ?_)
    refine q_state e4 ?_
    refine q_aload_n (pc' := 37) C 1 d_M_segment_36 rfl rfl ?_
    refine gM_60 (pc' := 40) C d_M_segment_37 rfl rfl ?_
    refine q_iload (pc' := 42) C 0 d_M_segment_40 rfl rfl ?_
    refine q_iload (pc' := 44) C 5 d_M_segment_42 rfl rfl ?_
    refine q_iast (pc' := 45) C 12 jM_12 kM_12 d_M_segment_44 rfl ?_
    refine q_let (fun σ5 e5 => ?_)
    refine q_state e5 ?_
    refine q_aload_n (pc' := 46) C 1 d_M_segment_45 rfl rfl ?_
    refine gM_63 (pc' := 49) C d_M_segment_46 rfl rfl ?_
    refine q_iload (pc' := 51) C 0 d_M_segment_49 rfl rfl ?_
    refine q_iload (pc' := 53) C 6 d_M_segment_51 rfl rfl ?_
    refine q_iast (pc' := 54) C 13 jM_13 kM_13 d_M_segment_53 rfl ?_
    refine q_let (fun σ6 e6 => ?_)
    refine q_state e6 ?_
    refine q_aload_n (pc' := 55) C 1 d_M_segment_54 rfl rfl ?_
    refine gM_66 (pc' := 58) C d_M_segment_55 rfl rfl ?_
    refine q_iload (pc' := 60) C 0 d_M_segment_58 rfl rfl ?_
    refine q_aload_n (pc' := 61) C 1 d_M_segment_60 rfl rfl ?_
    refine gM_175 (pc' := 64) C d_M_segment_61 rfl rfl ?_
    refine q_iast (pc' := 65) C 14 jM_14 kM_14 d_M_segment_64 rfl ?_
    refine q_let (fun σ7 e7 => ?_)
    refine q_state e7 ?_
    refine q_aload_n (pc' := 66) C 1 d_M_segment_65 rfl rfl ?_
    refine gM_69 (pc' := 69) C d_M_segment_66 rfl rfl ?_
    refine q_iload (pc' := 71) C 0 d_M_segment_69 rfl rfl ?_
    refine q_aload_n (pc' := 72) C 1 d_M_segment_71 rfl rfl ?_
    refine gM_178 (pc' := 75) C d_M_segment_72 rfl rfl ?_
    refine q_iast (pc' := 76) C 15 jM_15 kM_15 d_M_segment_75 rfl ?_
    refine q_let (fun σ8 e8 => ?_)
    refine q_state e8 ?_
    refine q_aload_n (pc' := 77) C 1 d_M_segment_76 rfl rfl ?_
    refine gM_72 (pc' := 80) C d_M_segment_77 rfl rfl ?_
    refine q_iload (pc' := 82) C 0 d_M_segment_80 rfl rfl ?_
    refine q_aload_n (pc' := 83) C 1 d_M_segment_82 rfl rfl ?_
    refine gM_181 (pc' := 86) C d_M_segment_83 rfl rfl ?_
    refine q_iast (pc' := 87) C 16 jM_16 kM_16 d_M_segment_86 rfl ?_
    refine q_let (fun σ9 e9 => ?_)
    refine q_state e9 ?_
    refine q_aload_n (pc' := 88) C 1 d_M_segment_87 rfl rfl ?_
    refine gM_75 (pc' := 91) C d_M_segment_88 rfl rfl ?_
    refine q_iload (pc' := 93) C 0 d_M_segment_91 rfl rfl ?_
    refine q_aload_n (pc' := 94) C 1 d_M_segment_93 rfl rfl ?_
    refine gM_184 (pc' := 97) C d_M_segment_94 rfl rfl ?_
    refine q_iast (pc' := 98) C 17 jM_17 kM_17 d_M_segment_97 rfl ?_
    refine q_let (fun σ10 e10 => ?_)
    refine q_state e10 ?_
    refine q_aload_n (pc' := 99) C 1 d_M_segment_98 rfl rfl ?_
    refine q_dup (pc' := 100) C d_M_segment_99 rfl rfl ?_
    refine gM_172 (pc' := 103) C d_M_segment_100 rfl rfl ?_
    refine q_iconst (pc' := 104) C d_M_segment_103 ki_1 rfl ?_
    refine q_iadd (pc' := 105) C d_M_segment_104 rfl ?_
    refine pM_172 (pc' := 108) C d_M_segment_105 rfl rfl ?_
    refine q_let (fun σ11 e11 => ?_)
    refine q_state e11 ?_
    refine q_aload_n (pc' := 109) C 1 d_M_segment_108 rfl rfl ?_
    refine q_iload (pc' := 111) C 6 d_M_segment_109 rfl rfl ?_
    refine q_iload (pc' := 113) C 5 d_M_segment_111 rfl rfl ?_
    refine q_iload_n (pc' := 114) C 2 d_M_segment_113 rfl rfl ?_
    refine q_iload (pc' := 116) C 0 d_M_segment_114 rfl rfl ?_
    refine q_callVv (fr' := 0) (lo' := 0) (pc' := 119) C FM_inbound lmM_187 d_M_segment_116 0 jM_0 kM_0 cM0 [.int p5, .int p4, .int p1, .int x1] [] rfl rfl (Nat.le_of_ble_eq_true rfl) ⟨rfl, rfl⟩ (fun x h => cM_inbound _ g hi σ11 p5 p4 p1 x1 x h) rfl (fun x12 _ => ?_)
    exact q_vret C rfl d_M_segment_119 rfl
  · exact q_vret C rfl d_M_segment_5 rfl
theorem d_M_straightTo_0 : decode qM_straightTo.1 0 = .ok (.aload_n 0, 1) := by decide +kernel
theorem d_M_straightTo_1 : decode qM_straightTo.1 1 = .ok (.getfield 172, 3) := by decide +kernel
theorem d_M_straightTo_4 : decode qM_straightTo.1 4 = .ok (.istore 4, 2) := by decide +kernel
theorem d_M_straightTo_6 : decode qM_straightTo.1 6 = .ok (.aload_n 0, 1) := by decide +kernel
theorem d_M_straightTo_7 : decode qM_straightTo.1 7 = .ok (.iload_n 1, 1) := by decide +kernel
theorem d_M_straightTo_8 : decode qM_straightTo.1 8 = .ok (.iload_n 2, 1) := by decide +kernel
theorem d_M_straightTo_9 : decode qM_straightTo.1 9 = .ok (.iload_n 3, 1) := by decide +kernel
theorem d_M_straightTo_10 : decode qM_straightTo.1 10 = .ok (.aload_n 0, 1) := by decide +kernel
theorem d_M_straightTo_11 : decode qM_straightTo.1 11 = .ok (.getfield 191, 3) := by decide +kernel
theorem d_M_straightTo_14 : decode qM_straightTo.1 14 = .ok (.aload_n 0, 1) := by decide +kernel
theorem d_M_straightTo_15 : decode qM_straightTo.1 15 = .ok (.getfield 194, 3) := by decide +kernel
theorem d_M_straightTo_18 : decode qM_straightTo.1 18 = .ok (.iload_n 2, 1) := by decide +kernel
theorem d_M_straightTo_19 : decode qM_straightTo.1 19 = .ok (.iload_n 3, 1) := by decide +kernel
theorem d_M_straightTo_20 : decode qM_straightTo.1 20 = .ok (.invokestatic 197, 3) := by decide +kernel
theorem d_M_straightTo_23 : decode qM_straightTo.1 23 = .ok (.aload_n 0, 1) := by decide +kernel
theorem d_M_straightTo_24 : decode qM_straightTo.1 24 = .ok (.aload_n 0, 1) := by decide +kernel
theorem d_M_straightTo_25 : decode qM_straightTo.1 25 = .ok (.getfield 191, 3) := by decide +kernel
theorem d_M_straightTo_28 : decode qM_straightTo.1 28 = .ok (.aload_n 0, 1) := by decide +kernel
theorem d_M_straightTo_29 : decode qM_straightTo.1 29 = .ok (.getfield 194, 3) := by decide +kernel
theorem d_M_straightTo_32 : decode qM_straightTo.1 32 = .ok (.iload_n 2, 1) := by decide +kernel
theorem d_M_straightTo_33 : decode qM_straightTo.1 33 = .ok (.iload_n 3, 1) := by decide +kernel
theorem d_M_straightTo_34 : decode qM_straightTo.1 34 = .ok (.invokevirtual 201, 3) := by decide +kernel
theorem d_M_straightTo_37 : decode qM_straightTo.1 37 = .ok (.invokevirtual 204, 3) := by decide +kernel
theorem d_M_straightTo_40 : decode qM_straightTo.1 40 = .ok (.aload_n 0, 1) := by decide +kernel
theorem d_M_straightTo_41 : decode qM_straightTo.1 41 = .ok (.getfield 172, 3) := by decide +kernel
theorem d_M_straightTo_44 : decode qM_straightTo.1 44 = .ok (.iload 4, 2) := by decide +kernel
theorem d_M_straightTo_46 : decode qM_straightTo.1 46 = .ok (.if_icmp .le 25, 3) := by decide +kernel
theorem d_M_straightTo_49 : decode qM_straightTo.1 49 = .ok (.aload_n 0, 1) := by decide +kernel
theorem d_M_straightTo_50 : decode qM_straightTo.1 50 = .ok (.getfield 48, 3) := by decide +kernel
theorem d_M_straightTo_53 : decode qM_straightTo.1 53 = .ok (.iload 4, 2) := by decide +kernel
theorem d_M_straightTo_55 : decode qM_straightTo.1 55 = .ok (.aload_n 0, 1) := by decide +kernel
theorem d_M_straightTo_56 : decode qM_straightTo.1 56 = .ok (.getfield 191, 3) := by decide +kernel
theorem d_M_straightTo_59 : decode qM_straightTo.1 59 = .ok (.iastore, 1) := by decide +kernel
theorem d_M_straightTo_60 : decode qM_straightTo.1 60 = .ok (.aload_n 0, 1) := by decide +kernel
theorem d_M_straightTo_61 : decode qM_straightTo.1 61 = .ok (.getfield 51, 3) := by decide +kernel
theorem d_M_straightTo_64 : decode qM_straightTo.1 64 = .ok (.iload 4, 2) := by decide +kernel
theorem d_M_straightTo_66 : decode qM_straightTo.1 66 = .ok (.aload_n 0, 1) := by decide +kernel
theorem d_M_straightTo_67 : decode qM_straightTo.1 67 = .ok (.getfield 194, 3) := by decide +kernel
theorem d_M_straightTo_70 : decode qM_straightTo.1 70 = .ok (.iastore, 1) := by decide +kernel
theorem d_M_straightTo_71 : decode qM_straightTo.1 71 = .ok (.return_, 1) := by decide +kernel
set_option maxRecDepth 100000 in
def m_straightTo (σ : St) (p1 : Int32) (p2 : Int32) (p3 : Int32) : Option (St) :=
  Lt ((σ 0 30) : Int32) fun x1 =>
  Option.bind (m_distance (σ 0 42) (σ 0 43) p2 p3) fun x2 =>
  Option.bind (m_courseTo σ (σ 0 42) (σ 0 43) p2 p3) fun x3 =>
  Option.bind (m_segment σ p1 p2 p3 x2 x3) fun x4 =>
  Jn (fun (σ5 : St) =>
  some σ5
  ) fun J6 =>
  if ((x4 0 30) : Int32) ≤ x1 then (
  J6 x4
  ) else (
  Gd (Ix x1 42) <|
  Lt (s2 x4 8 (Int32.toNatClampNeg x1) (x4 0 42)) fun σ7 =>
  Gd (Ix x1 42) <|
  Lt (s2 σ7 9 (Int32.toNatClampNeg x1) (σ7 0 43)) fun σ8 =>
  J6 σ8
  )
set_option maxHeartbeats 4000000 in
set_option maxRecDepth 100000 in
theorem cM_straightTo (l : Launch) (g : Ge) (hi : injB wM.2 g) (σ : St) (p1 : Int32) (p2 : Int32) (p3 : Int32) (x : St) (h : m_straightTo σ p1 p2 p3 = some x) : Ct l wM g yM_straightTo qM_straightTo 3 75 [.ref (g.1 0), .int p1, .int p2, .int p3] σ (none, x) := by
  refine Ct.of (out := o_v) FM_straightTo rfl hi rfl h (fun z hz C => ?_)
  clear h
  subst hz
  unfold m_straightTo
  show Rt z qM_straightTo wM g o_v 0 [(0, .ref (g.1 0)), (1, .int p1), (2, .int p2), (3, .int p3)] [] σ _
  refine q_aload_n (pc' := 1) C 0 d_M_straightTo_0 rfl rfl ?_
  refine gM_172 (pc' := 4) C d_M_straightTo_1 rfl rfl ?_
  refine q_let (fun x1 e1 => ?_)
  refine q_topi e1 ?_
  refine q_istore (pc' := 6) (lv' := [(4, .int x1), (0, .ref (g.1 0)), (1, .int p1), (2, .int p2), (3, .int p3)]) C d_M_straightTo_4 (by decide) rfl rfl ?_
  refine q_aload_n (pc' := 7) C 1 d_M_straightTo_6 rfl rfl ?_
  refine q_iload_n (pc' := 8) C 2 d_M_straightTo_7 rfl rfl ?_
  refine q_iload_n (pc' := 9) C 3 d_M_straightTo_8 rfl rfl ?_
  refine q_iload_n (pc' := 10) C 4 d_M_straightTo_9 rfl rfl ?_
  refine q_aload_n (pc' := 11) C 1 d_M_straightTo_10 rfl rfl ?_
  refine gM_191 (pc' := 14) C d_M_straightTo_11 rfl rfl ?_
  refine q_aload_n (pc' := 15) C 1 d_M_straightTo_14 rfl rfl ?_
  refine gM_194 (pc' := 18) C d_M_straightTo_15 rfl rfl ?_
  refine q_iload_n (pc' := 19) C 3 d_M_straightTo_18 rfl rfl ?_
  refine q_iload_n (pc' := 20) C 4 d_M_straightTo_19 rfl rfl ?_
  refine q_callSr (fr' := 0) (lo' := 0) (pc' := 23) C FM_distance lmM_197 d_M_straightTo_20 [.int (σ 0 42), .int (σ 0 43), .int p2, .int p3] [.int p3, .int p2, .int p1, .ref (g.1 0)] rfl rfl (Nat.le_of_ble_eq_true rfl) ⟨rfl, rfl⟩ (fun x h => cM_distance _ g hi σ (σ 0 42) (σ 0 43) p2 p3 x h) rfl (fun x2 _ => ?_)
  refine q_aload_n (pc' := 24) C 1 d_M_straightTo_23 rfl rfl ?_
  refine q_aload_n (pc' := 25) C 1 d_M_straightTo_24 rfl rfl ?_
  refine gM_191 (pc' := 28) C d_M_straightTo_25 rfl rfl ?_
  refine q_aload_n (pc' := 29) C 1 d_M_straightTo_28 rfl rfl ?_
  refine gM_194 (pc' := 32) C d_M_straightTo_29 rfl rfl ?_
  refine q_iload_n (pc' := 33) C 3 d_M_straightTo_32 rfl rfl ?_
  refine q_iload_n (pc' := 34) C 4 d_M_straightTo_33 rfl rfl ?_
  refine q_callVr (fr' := 2) (lo' := 41) (pc' := 37) C FM_courseTo lmM_201 d_M_straightTo_34 0 jM_0 kM_0 cM0 [.int (σ 0 42), .int (σ 0 43), .int p2, .int p3] [.int x2, .int p3, .int p2, .int p1, .ref (g.1 0)] rfl rfl (Nat.le_of_ble_eq_true rfl) ⟨rfl, rfl⟩ (fun x h => cM_courseTo _ g hi σ (σ 0 42) (σ 0 43) p2 p3 x h) rfl (fun x3 _ => ?_)
  refine q_callVv (fr' := 1) (lo' := 24) (pc' := 40) C FM_segment lmM_204 d_M_straightTo_37 0 jM_0 kM_0 cM0 [.int p1, .int p2, .int p3, .int x2, .int x3] [] rfl rfl (Nat.le_of_ble_eq_true rfl) ⟨rfl, rfl⟩ (fun x h => cM_segment _ g hi σ p1 p2 p3 x2 x3 x h) rfl (fun x4 _ => ?_)
  refine q_aload_n (pc' := 41) C 1 d_M_straightTo_40 rfl rfl ?_
  refine gM_172 (pc' := 44) C d_M_straightTo_41 rfl rfl ?_
  refine q_iload (pc' := 46) C 0 d_M_straightTo_44 rfl rfl ?_
  refine q_join (fun J6 : St → Option (St) => ∀ (σ5 : St), Rt z qM_straightTo wM g o_v 71 [] [] σ5 (J6 σ5)) (fun σ5 => ?_) (fun J6 hJ6 => ?_)
  · exact q_vret C rfl d_M_straightTo_71 rfl
  refine q_icmp_le (tgt := 71) (pc' := 49) C d_M_straightTo_46 rfl rfl ?_ ?_
  · exact Rt.sub [] rfl (hJ6 x4)
  · refine q_aload_n (pc' := 50) C 1 d_M_straightTo_49 rfl rfl ?_
    refine gM_48 (pc' := 53) C d_M_straightTo_50 rfl rfl ?_
    refine q_iload (pc' := 55) C 0 d_M_straightTo_53 rfl rfl ?_
    refine q_aload_n (pc' := 56) C 1 d_M_straightTo_55 rfl rfl ?_
    refine gM_191 (pc' := 59) C d_M_straightTo_56 rfl rfl ?_
    refine q_iast (pc' := 60) C 8 jM_8 kM_8 d_M_straightTo_59 rfl ?_
    refine q_let (fun σ7 e7 => ?_)
    refine q_state e7 ?_
    refine q_aload_n (pc' := 61) C 1 d_M_straightTo_60 rfl rfl ?_
    refine gM_51 (pc' := 64) C d_M_straightTo_61 rfl rfl ?_
    refine q_iload (pc' := 66) C 0 d_M_straightTo_64 rfl rfl ?_
    refine q_aload_n (pc' := 67) C 1 d_M_straightTo_66 rfl rfl ?_
    refine gM_194 (pc' := 70) C d_M_straightTo_67 rfl rfl ?_
    refine q_iast (pc' := 71) C 9 jM_9 kM_9 d_M_straightTo_70 rfl ?_
    refine q_let (fun σ8 e8 => ?_)
    refine q_state e8 ?_
    exact Rt.sub [] rfl (hJ6 σ8)
theorem d_M_onCourse_0 : decode qM_onCourse.1 0 = .ok (.aload_n 0, 1) := by decide +kernel
theorem d_M_onCourse_1 : decode qM_onCourse.1 1 = .ok (.getfield 172, 3) := by decide +kernel
theorem d_M_onCourse_4 : decode qM_onCourse.1 4 = .ok (.istore 4, 2) := by decide +kernel
theorem d_M_onCourse_6 : decode qM_onCourse.1 6 = .ok (.aload_n 0, 1) := by decide +kernel
theorem d_M_onCourse_7 : decode qM_onCourse.1 7 = .ok (.iload_n 1, 1) := by decide +kernel
theorem d_M_onCourse_8 : decode qM_onCourse.1 8 = .ok (.aload_n 0, 1) := by decide +kernel
theorem d_M_onCourse_9 : decode qM_onCourse.1 9 = .ok (.aload_n 0, 1) := by decide +kernel
theorem d_M_onCourse_10 : decode qM_onCourse.1 10 = .ok (.getfield 191, 3) := by decide +kernel
theorem d_M_onCourse_13 : decode qM_onCourse.1 13 = .ok (.iload_n 2, 1) := by decide +kernel
theorem d_M_onCourse_14 : decode qM_onCourse.1 14 = .ok (.aload_n 0, 1) := by decide +kernel
theorem d_M_onCourse_15 : decode qM_onCourse.1 15 = .ok (.iload_n 3, 1) := by decide +kernel
theorem d_M_onCourse_16 : decode qM_onCourse.1 16 = .ok (.invokevirtual 162, 3) := by decide +kernel
theorem d_M_onCourse_19 : decode qM_onCourse.1 19 = .ok (.invokevirtual 208, 3) := by decide +kernel
theorem d_M_onCourse_22 : decode qM_onCourse.1 22 = .ok (.aload_n 0, 1) := by decide +kernel
theorem d_M_onCourse_23 : decode qM_onCourse.1 23 = .ok (.aload_n 0, 1) := by decide +kernel
theorem d_M_onCourse_24 : decode qM_onCourse.1 24 = .ok (.getfield 194, 3) := by decide +kernel
theorem d_M_onCourse_27 : decode qM_onCourse.1 27 = .ok (.iload_n 2, 1) := by decide +kernel
theorem d_M_onCourse_28 : decode qM_onCourse.1 28 = .ok (.aload_n 0, 1) := by decide +kernel
theorem d_M_onCourse_29 : decode qM_onCourse.1 29 = .ok (.iload_n 3, 1) := by decide +kernel
theorem d_M_onCourse_30 : decode qM_onCourse.1 30 = .ok (.invokevirtual 165, 3) := by decide +kernel
theorem d_M_onCourse_33 : decode qM_onCourse.1 33 = .ok (.invokevirtual 208, 3) := by decide +kernel
theorem d_M_onCourse_36 : decode qM_onCourse.1 36 = .ok (.iload_n 2, 1) := by decide +kernel
theorem d_M_onCourse_37 : decode qM_onCourse.1 37 = .ok (.iload_n 3, 1) := by decide +kernel
theorem d_M_onCourse_38 : decode qM_onCourse.1 38 = .ok (.invokevirtual 204, 3) := by decide +kernel
theorem d_M_onCourse_41 : decode qM_onCourse.1 41 = .ok (.aload_n 0, 1) := by decide +kernel
theorem d_M_onCourse_42 : decode qM_onCourse.1 42 = .ok (.getfield 172, 3) := by decide +kernel
theorem d_M_onCourse_45 : decode qM_onCourse.1 45 = .ok (.iload 4, 2) := by decide +kernel
theorem d_M_onCourse_47 : decode qM_onCourse.1 47 = .ok (.if_icmp .le 25, 3) := by decide +kernel
theorem d_M_onCourse_50 : decode qM_onCourse.1 50 = .ok (.aload_n 0, 1) := by decide +kernel
theorem d_M_onCourse_51 : decode qM_onCourse.1 51 = .ok (.getfield 48, 3) := by decide +kernel
theorem d_M_onCourse_54 : decode qM_onCourse.1 54 = .ok (.iload 4, 2) := by decide +kernel
theorem d_M_onCourse_56 : decode qM_onCourse.1 56 = .ok (.aload_n 0, 1) := by decide +kernel
theorem d_M_onCourse_57 : decode qM_onCourse.1 57 = .ok (.getfield 191, 3) := by decide +kernel
theorem d_M_onCourse_60 : decode qM_onCourse.1 60 = .ok (.iastore, 1) := by decide +kernel
theorem d_M_onCourse_61 : decode qM_onCourse.1 61 = .ok (.aload_n 0, 1) := by decide +kernel
theorem d_M_onCourse_62 : decode qM_onCourse.1 62 = .ok (.getfield 51, 3) := by decide +kernel
theorem d_M_onCourse_65 : decode qM_onCourse.1 65 = .ok (.iload 4, 2) := by decide +kernel
theorem d_M_onCourse_67 : decode qM_onCourse.1 67 = .ok (.aload_n 0, 1) := by decide +kernel
theorem d_M_onCourse_68 : decode qM_onCourse.1 68 = .ok (.getfield 194, 3) := by decide +kernel
theorem d_M_onCourse_71 : decode qM_onCourse.1 71 = .ok (.iastore, 1) := by decide +kernel
theorem d_M_onCourse_72 : decode qM_onCourse.1 72 = .ok (.return_, 1) := by decide +kernel
set_option maxRecDepth 100000 in
def m_onCourse (σ : St) (p1 : Int32) (p2 : Int32) (p3 : Int32) : Option (St) :=
  Lt ((σ 0 30) : Int32) fun x1 =>
  Option.bind (m_sx σ p3) fun x2 =>
  Option.bind (m_ahead (σ 0 42) p2 x2) fun x3 =>
  Option.bind (m_sy σ p3) fun x4 =>
  Option.bind (m_ahead (σ 0 43) p2 x4) fun x5 =>
  Option.bind (m_segment σ p1 x3 x5 p2 p3) fun x6 =>
  Jn (fun (σ7 : St) =>
  some σ7
  ) fun J8 =>
  if ((x6 0 30) : Int32) ≤ x1 then (
  J8 x6
  ) else (
  Gd (Ix x1 42) <|
  Lt (s2 x6 8 (Int32.toNatClampNeg x1) (x6 0 42)) fun σ9 =>
  Gd (Ix x1 42) <|
  Lt (s2 σ9 9 (Int32.toNatClampNeg x1) (σ9 0 43)) fun σ10 =>
  J8 σ10
  )
set_option maxHeartbeats 4000000 in
set_option maxRecDepth 100000 in
theorem cM_onCourse (l : Launch) (g : Ge) (hi : injB wM.2 g) (σ : St) (p1 : Int32) (p2 : Int32) (p3 : Int32) (x : St) (h : m_onCourse σ p1 p2 p3 = some x) : Ct l wM g yM_onCourse qM_onCourse 2 50 [.ref (g.1 0), .int p1, .int p2, .int p3] σ (none, x) := by
  refine Ct.of (out := o_v) FM_onCourse rfl hi rfl h (fun z hz C => ?_)
  clear h
  subst hz
  unfold m_onCourse
  show Rt z qM_onCourse wM g o_v 0 [(0, .ref (g.1 0)), (1, .int p1), (2, .int p2), (3, .int p3)] [] σ _
  refine q_aload_n (pc' := 1) C 0 d_M_onCourse_0 rfl rfl ?_
  refine gM_172 (pc' := 4) C d_M_onCourse_1 rfl rfl ?_
  refine q_let (fun x1 e1 => ?_)
  refine q_topi e1 ?_
  refine q_istore (pc' := 6) (lv' := [(4, .int x1), (0, .ref (g.1 0)), (1, .int p1), (2, .int p2), (3, .int p3)]) C d_M_onCourse_4 (by decide) rfl rfl ?_
  refine q_aload_n (pc' := 7) C 1 d_M_onCourse_6 rfl rfl ?_
  refine q_iload_n (pc' := 8) C 2 d_M_onCourse_7 rfl rfl ?_
  refine q_aload_n (pc' := 9) C 1 d_M_onCourse_8 rfl rfl ?_
  refine q_aload_n (pc' := 10) C 1 d_M_onCourse_9 rfl rfl ?_
  refine gM_191 (pc' := 13) C d_M_onCourse_10 rfl rfl ?_
  refine q_iload_n (pc' := 14) C 3 d_M_onCourse_13 rfl rfl ?_
  refine q_aload_n (pc' := 15) C 1 d_M_onCourse_14 rfl rfl ?_
  refine q_iload_n (pc' := 16) C 4 d_M_onCourse_15 rfl rfl ?_
  refine q_callVr (fr' := 1) (lo' := 20) (pc' := 19) C FM_sx lmM_162 d_M_onCourse_16 0 jM_0 kM_0 cM0 [.int p3] [.int p2, .int (σ 0 42), .ref (g.1 0), .int p1, .ref (g.1 0)] rfl rfl (Nat.le_of_ble_eq_true rfl) ⟨rfl, rfl⟩ (fun x h => cM_sx _ g hi σ p3 x h) rfl (fun x2 _ => ?_)
  refine q_callVr (fr' := 0) (lo' := 0) (pc' := 22) C FM_ahead lmM_208 d_M_onCourse_19 0 jM_0 kM_0 cM0 [.int (σ 0 42), .int p2, .int x2] [.int p1, .ref (g.1 0)] rfl rfl (Nat.le_of_ble_eq_true rfl) ⟨rfl, rfl⟩ (fun x h => cM_ahead _ g hi σ (σ 0 42) p2 x2 x h) rfl (fun x3 _ => ?_)
  refine q_aload_n (pc' := 23) C 1 d_M_onCourse_22 rfl rfl ?_
  refine q_aload_n (pc' := 24) C 1 d_M_onCourse_23 rfl rfl ?_
  refine gM_194 (pc' := 27) C d_M_onCourse_24 rfl rfl ?_
  refine q_iload_n (pc' := 28) C 3 d_M_onCourse_27 rfl rfl ?_
  refine q_aload_n (pc' := 29) C 1 d_M_onCourse_28 rfl rfl ?_
  refine q_iload_n (pc' := 30) C 4 d_M_onCourse_29 rfl rfl ?_
  refine q_callVr (fr' := 1) (lo' := 20) (pc' := 33) C FM_sy lmM_165 d_M_onCourse_30 0 jM_0 kM_0 cM0 [.int p3] [.int p2, .int (σ 0 43), .ref (g.1 0), .int x3, .int p1, .ref (g.1 0)] rfl rfl (Nat.le_of_ble_eq_true rfl) ⟨rfl, rfl⟩ (fun x h => cM_sy _ g hi σ p3 x h) rfl (fun x4 _ => ?_)
  refine q_callVr (fr' := 0) (lo' := 0) (pc' := 36) C FM_ahead lmM_208 d_M_onCourse_33 0 jM_0 kM_0 cM0 [.int (σ 0 43), .int p2, .int x4] [.int x3, .int p1, .ref (g.1 0)] rfl rfl (Nat.le_of_ble_eq_true rfl) ⟨rfl, rfl⟩ (fun x h => cM_ahead _ g hi σ (σ 0 43) p2 x4 x h) rfl (fun x5 _ => ?_)
  refine q_iload_n (pc' := 37) C 3 d_M_onCourse_36 rfl rfl ?_
  refine q_iload_n (pc' := 38) C 4 d_M_onCourse_37 rfl rfl ?_
  refine q_callVv (fr' := 1) (lo' := 24) (pc' := 41) C FM_segment lmM_204 d_M_onCourse_38 0 jM_0 kM_0 cM0 [.int p1, .int x3, .int x5, .int p2, .int p3] [] rfl rfl (Nat.le_of_ble_eq_true rfl) ⟨rfl, rfl⟩ (fun x h => cM_segment _ g hi σ p1 x3 x5 p2 p3 x h) rfl (fun x6 _ => ?_)
  refine q_aload_n (pc' := 42) C 1 d_M_onCourse_41 rfl rfl ?_
  refine gM_172 (pc' := 45) C d_M_onCourse_42 rfl rfl ?_
  refine q_iload (pc' := 47) C 0 d_M_onCourse_45 rfl rfl ?_
  refine q_join (fun J8 : St → Option (St) => ∀ (σ7 : St), Rt z qM_onCourse wM g o_v 72 [] [] σ7 (J8 σ7)) (fun σ7 => ?_) (fun J8 hJ8 => ?_)
  · exact q_vret C rfl d_M_onCourse_72 rfl
  refine q_icmp_le (tgt := 72) (pc' := 50) C d_M_onCourse_47 rfl rfl ?_ ?_
  · exact Rt.sub [] rfl (hJ8 x6)
  · refine q_aload_n (pc' := 51) C 1 d_M_onCourse_50 rfl rfl ?_
    refine gM_48 (pc' := 54) C d_M_onCourse_51 rfl rfl ?_
    refine q_iload (pc' := 56) C 0 d_M_onCourse_54 rfl rfl ?_
    refine q_aload_n (pc' := 57) C 1 d_M_onCourse_56 rfl rfl ?_
    refine gM_191 (pc' := 60) C d_M_onCourse_57 rfl rfl ?_
    refine q_iast (pc' := 61) C 8 jM_8 kM_8 d_M_onCourse_60 rfl ?_
    refine q_let (fun σ9 e9 => ?_)
    refine q_state e9 ?_
    refine q_aload_n (pc' := 62) C 1 d_M_onCourse_61 rfl rfl ?_
    refine gM_51 (pc' := 65) C d_M_onCourse_62 rfl rfl ?_
    refine q_iload (pc' := 67) C 0 d_M_onCourse_65 rfl rfl ?_
    refine q_aload_n (pc' := 68) C 1 d_M_onCourse_67 rfl rfl ?_
    refine gM_194 (pc' := 71) C d_M_onCourse_68 rfl rfl ?_
    refine q_iast (pc' := 72) C 9 jM_9 kM_9 d_M_onCourse_71 rfl ?_
    refine q_let (fun σ10 e10 => ?_)
    refine q_state e10 ?_
    exact Rt.sub [] rfl (hJ8 σ10)
theorem d_M_towardOnCourse_0 : decode qM_towardOnCourse.1 0 = .ok (.aload_n 0, 1) := by decide +kernel
theorem d_M_towardOnCourse_1 : decode qM_towardOnCourse.1 1 = .ok (.getfield 172, 3) := by decide +kernel
theorem d_M_towardOnCourse_4 : decode qM_towardOnCourse.1 4 = .ok (.istore 6, 2) := by decide +kernel
theorem d_M_towardOnCourse_6 : decode qM_towardOnCourse.1 6 = .ok (.aload_n 0, 1) := by decide +kernel
theorem d_M_towardOnCourse_7 : decode qM_towardOnCourse.1 7 = .ok (.iload_n 1, 1) := by decide +kernel
theorem d_M_towardOnCourse_8 : decode qM_towardOnCourse.1 8 = .ok (.iload_n 2, 1) := by decide +kernel
theorem d_M_towardOnCourse_9 : decode qM_towardOnCourse.1 9 = .ok (.iload_n 3, 1) := by decide +kernel
theorem d_M_towardOnCourse_10 : decode qM_towardOnCourse.1 10 = .ok (.iload 4, 2) := by decide +kernel
theorem d_M_towardOnCourse_12 : decode qM_towardOnCourse.1 12 = .ok (.iload 5, 2) := by decide +kernel
theorem d_M_towardOnCourse_14 : decode qM_towardOnCourse.1 14 = .ok (.invokevirtual 204, 3) := by decide +kernel
theorem d_M_towardOnCourse_17 : decode qM_towardOnCourse.1 17 = .ok (.aload_n 0, 1) := by decide +kernel
theorem d_M_towardOnCourse_18 : decode qM_towardOnCourse.1 18 = .ok (.getfield 172, 3) := by decide +kernel
theorem d_M_towardOnCourse_21 : decode qM_towardOnCourse.1 21 = .ok (.iload 6, 2) := by decide +kernel
theorem d_M_towardOnCourse_23 : decode qM_towardOnCourse.1 23 = .ok (.if_icmp .le 25, 3) := by decide +kernel
theorem d_M_towardOnCourse_26 : decode qM_towardOnCourse.1 26 = .ok (.aload_n 0, 1) := by decide +kernel
theorem d_M_towardOnCourse_27 : decode qM_towardOnCourse.1 27 = .ok (.getfield 48, 3) := by decide +kernel
theorem d_M_towardOnCourse_30 : decode qM_towardOnCourse.1 30 = .ok (.iload 6, 2) := by decide +kernel
theorem d_M_towardOnCourse_32 : decode qM_towardOnCourse.1 32 = .ok (.aload_n 0, 1) := by decide +kernel
theorem d_M_towardOnCourse_33 : decode qM_towardOnCourse.1 33 = .ok (.getfield 191, 3) := by decide +kernel
theorem d_M_towardOnCourse_36 : decode qM_towardOnCourse.1 36 = .ok (.iastore, 1) := by decide +kernel
theorem d_M_towardOnCourse_37 : decode qM_towardOnCourse.1 37 = .ok (.aload_n 0, 1) := by decide +kernel
theorem d_M_towardOnCourse_38 : decode qM_towardOnCourse.1 38 = .ok (.getfield 51, 3) := by decide +kernel
theorem d_M_towardOnCourse_41 : decode qM_towardOnCourse.1 41 = .ok (.iload 6, 2) := by decide +kernel
theorem d_M_towardOnCourse_43 : decode qM_towardOnCourse.1 43 = .ok (.aload_n 0, 1) := by decide +kernel
theorem d_M_towardOnCourse_44 : decode qM_towardOnCourse.1 44 = .ok (.getfield 194, 3) := by decide +kernel
theorem d_M_towardOnCourse_47 : decode qM_towardOnCourse.1 47 = .ok (.iastore, 1) := by decide +kernel
theorem d_M_towardOnCourse_48 : decode qM_towardOnCourse.1 48 = .ok (.return_, 1) := by decide +kernel
set_option maxRecDepth 100000 in
def m_towardOnCourse (σ : St) (p1 : Int32) (p2 : Int32) (p3 : Int32) (p4 : Int32) (p5 : Int32) : Option (St) :=
  Lt ((σ 0 30) : Int32) fun x1 =>
  Option.bind (m_segment σ p1 p2 p3 p4 p5) fun x2 =>
  Jn (fun (σ3 : St) =>
  some σ3
  ) fun J4 =>
  if ((x2 0 30) : Int32) ≤ x1 then (
  J4 x2
  ) else (
  Gd (Ix x1 42) <|
  Lt (s2 x2 8 (Int32.toNatClampNeg x1) (x2 0 42)) fun σ5 =>
  Gd (Ix x1 42) <|
  Lt (s2 σ5 9 (Int32.toNatClampNeg x1) (σ5 0 43)) fun σ6 =>
  J4 σ6
  )
set_option maxHeartbeats 4000000 in
set_option maxRecDepth 100000 in
theorem cM_towardOnCourse (l : Launch) (g : Ge) (hi : injB wM.2 g) (σ : St) (p1 : Int32) (p2 : Int32) (p3 : Int32) (p4 : Int32) (p5 : Int32) (x : St) (h : m_towardOnCourse σ p1 p2 p3 p4 p5 = some x) : Ct l wM g yM_towardOnCourse qM_towardOnCourse 2 50 [.ref (g.1 0), .int p1, .int p2, .int p3, .int p4, .int p5] σ (none, x) := by
  refine Ct.of (out := o_v) FM_towardOnCourse rfl hi rfl h (fun z hz C => ?_)
  clear h
  subst hz
  unfold m_towardOnCourse
  show Rt z qM_towardOnCourse wM g o_v 0 [(0, .ref (g.1 0)), (1, .int p1), (2, .int p2), (3, .int p3), (4, .int p4), (5, .int p5)] [] σ _
  refine q_aload_n (pc' := 1) C 0 d_M_towardOnCourse_0 rfl rfl ?_
  refine gM_172 (pc' := 4) C d_M_towardOnCourse_1 rfl rfl ?_
  refine q_let (fun x1 e1 => ?_)
  refine q_topi e1 ?_
  refine q_istore (pc' := 6) (lv' := [(6, .int x1), (0, .ref (g.1 0)), (1, .int p1), (2, .int p2), (3, .int p3), (4, .int p4), (5, .int p5)]) C d_M_towardOnCourse_4 (by decide) rfl rfl ?_
  refine q_aload_n (pc' := 7) C 1 d_M_towardOnCourse_6 rfl rfl ?_
  refine q_iload_n (pc' := 8) C 2 d_M_towardOnCourse_7 rfl rfl ?_
  refine q_iload_n (pc' := 9) C 3 d_M_towardOnCourse_8 rfl rfl ?_
  refine q_iload_n (pc' := 10) C 4 d_M_towardOnCourse_9 rfl rfl ?_
  refine q_iload (pc' := 12) C 5 d_M_towardOnCourse_10 rfl rfl ?_
  refine q_iload (pc' := 14) C 6 d_M_towardOnCourse_12 rfl rfl ?_
  refine q_callVv (fr' := 1) (lo' := 24) (pc' := 17) C FM_segment lmM_204 d_M_towardOnCourse_14 0 jM_0 kM_0 cM0 [.int p1, .int p2, .int p3, .int p4, .int p5] [] rfl rfl (Nat.le_of_ble_eq_true rfl) ⟨rfl, rfl⟩ (fun x h => cM_segment _ g hi σ p1 p2 p3 p4 p5 x h) rfl (fun x2 _ => ?_)
  refine q_aload_n (pc' := 18) C 1 d_M_towardOnCourse_17 rfl rfl ?_
  refine gM_172 (pc' := 21) C d_M_towardOnCourse_18 rfl rfl ?_
  refine q_iload (pc' := 23) C 0 d_M_towardOnCourse_21 rfl rfl ?_
  refine q_join (fun J4 : St → Option (St) => ∀ (σ3 : St), Rt z qM_towardOnCourse wM g o_v 48 [] [] σ3 (J4 σ3)) (fun σ3 => ?_) (fun J4 hJ4 => ?_)
  · exact q_vret C rfl d_M_towardOnCourse_48 rfl
  refine q_icmp_le (tgt := 48) (pc' := 26) C d_M_towardOnCourse_23 rfl rfl ?_ ?_
  · exact Rt.sub [] rfl (hJ4 x2)
  · refine q_aload_n (pc' := 27) C 1 d_M_towardOnCourse_26 rfl rfl ?_
    refine gM_48 (pc' := 30) C d_M_towardOnCourse_27 rfl rfl ?_
    refine q_iload (pc' := 32) C 0 d_M_towardOnCourse_30 rfl rfl ?_
    refine q_aload_n (pc' := 33) C 1 d_M_towardOnCourse_32 rfl rfl ?_
    refine gM_191 (pc' := 36) C d_M_towardOnCourse_33 rfl rfl ?_
    refine q_iast (pc' := 37) C 8 jM_8 kM_8 d_M_towardOnCourse_36 rfl ?_
    refine q_let (fun σ5 e5 => ?_)
    refine q_state e5 ?_
    refine q_aload_n (pc' := 38) C 1 d_M_towardOnCourse_37 rfl rfl ?_
    refine gM_51 (pc' := 41) C d_M_towardOnCourse_38 rfl rfl ?_
    refine q_iload (pc' := 43) C 0 d_M_towardOnCourse_41 rfl rfl ?_
    refine q_aload_n (pc' := 44) C 1 d_M_towardOnCourse_43 rfl rfl ?_
    refine gM_194 (pc' := 47) C d_M_towardOnCourse_44 rfl rfl ?_
    refine q_iast (pc' := 48) C 9 jM_9 kM_9 d_M_towardOnCourse_47 rfl ?_
    refine q_let (fun σ6 e6 => ?_)
    refine q_state e6 ?_
    exact Rt.sub [] rfl (hJ4 σ6)
theorem d_M_laysCourseToFix_0 : decode qM_laysCourseToFix.1 0 = .ok (.aload_n 0, 1) := by decide +kernel
theorem d_M_laysCourseToFix_1 : decode qM_laysCourseToFix.1 1 = .ok (.iload_n 1, 1) := by decide +kernel
theorem d_M_laysCourseToFix_2 : decode qM_laysCourseToFix.1 2 = .ok (.iload_n 2, 1) := by decide +kernel
theorem d_M_laysCourseToFix_3 : decode qM_laysCourseToFix.1 3 = .ok (.iconst 2, 1) := by decide +kernel
theorem d_M_laysCourseToFix_4 : decode qM_laysCourseToFix.1 4 = .ok (.invokevirtual 168, 3) := by decide +kernel
theorem d_M_laysCourseToFix_7 : decode qM_laysCourseToFix.1 7 = .ok (.istore 5, 2) := by decide +kernel
theorem d_M_laysCourseToFix_9 : decode qM_laysCourseToFix.1 9 = .ok (.aload_n 0, 1) := by decide +kernel
theorem d_M_laysCourseToFix_10 : decode qM_laysCourseToFix.1 10 = .ok (.iload_n 1, 1) := by decide +kernel
theorem d_M_laysCourseToFix_11 : decode qM_laysCourseToFix.1 11 = .ok (.iload_n 2, 1) := by decide +kernel
theorem d_M_laysCourseToFix_12 : decode qM_laysCourseToFix.1 12 = .ok (.iconst 1, 1) := by decide +kernel
theorem d_M_laysCourseToFix_13 : decode qM_laysCourseToFix.1 13 = .ok (.isub, 1) := by decide +kernel
theorem d_M_laysCourseToFix_14 : decode qM_laysCourseToFix.1 14 = .ok (.iconst 0, 1) := by decide +kernel
theorem d_M_laysCourseToFix_15 : decode qM_laysCourseToFix.1 15 = .ok (.invokevirtual 168, 3) := by decide +kernel
theorem d_M_laysCourseToFix_18 : decode qM_laysCourseToFix.1 18 = .ok (.iconst 5, 1) := by decide +kernel
theorem d_M_laysCourseToFix_19 : decode qM_laysCourseToFix.1 19 = .ok (.if_icmp .ne 28, 3) := by decide +kernel
theorem d_M_laysCourseToFix_22 : decode qM_laysCourseToFix.1 22 = .ok (.aload_n 0, 1) := by decide +kernel
theorem d_M_laysCourseToFix_23 : decode qM_laysCourseToFix.1 23 = .ok (.iload_n 2, 1) := by decide +kernel
theorem d_M_laysCourseToFix_24 : decode qM_laysCourseToFix.1 24 = .ok (.iload_n 3, 1) := by decide +kernel
theorem d_M_laysCourseToFix_25 : decode qM_laysCourseToFix.1 25 = .ok (.iload 4, 2) := by decide +kernel
theorem d_M_laysCourseToFix_27 : decode qM_laysCourseToFix.1 27 = .ok (.aload_n 0, 1) := by decide +kernel
theorem d_M_laysCourseToFix_28 : decode qM_laysCourseToFix.1 28 = .ok (.getfield 191, 3) := by decide +kernel
theorem d_M_laysCourseToFix_31 : decode qM_laysCourseToFix.1 31 = .ok (.aload_n 0, 1) := by decide +kernel
theorem d_M_laysCourseToFix_32 : decode qM_laysCourseToFix.1 32 = .ok (.getfield 194, 3) := by decide +kernel
theorem d_M_laysCourseToFix_35 : decode qM_laysCourseToFix.1 35 = .ok (.iload_n 3, 1) := by decide +kernel
theorem d_M_laysCourseToFix_36 : decode qM_laysCourseToFix.1 36 = .ok (.iload 4, 2) := by decide +kernel
theorem d_M_laysCourseToFix_38 : decode qM_laysCourseToFix.1 38 = .ok (.invokestatic 197, 3) := by decide +kernel
theorem d_M_laysCourseToFix_41 : decode qM_laysCourseToFix.1 41 = .ok (.iload 5, 2) := by decide +kernel
theorem d_M_laysCourseToFix_43 : decode qM_laysCourseToFix.1 43 = .ok (.invokevirtual 211, 3) := by decide +kernel
theorem d_M_laysCourseToFix_46 : decode qM_laysCourseToFix.1 46 = .ok (.return_, 1) := by decide +kernel
theorem d_M_laysCourseToFix_47 : decode qM_laysCourseToFix.1 47 = .ok (.aload_n 0, 1) := by decide +kernel
theorem d_M_laysCourseToFix_48 : decode qM_laysCourseToFix.1 48 = .ok (.iload_n 3, 1) := by decide +kernel
theorem d_M_laysCourseToFix_49 : decode qM_laysCourseToFix.1 49 = .ok (.bipush 50, 2) := by decide +kernel
theorem d_M_laysCourseToFix_51 : decode qM_laysCourseToFix.1 51 = .ok (.aload_n 0, 1) := by decide +kernel
theorem d_M_laysCourseToFix_52 : decode qM_laysCourseToFix.1 52 = .ok (.iload 5, 2) := by decide +kernel
theorem d_M_laysCourseToFix_54 : decode qM_laysCourseToFix.1 54 = .ok (.bipush 12, 2) := by decide +kernel
theorem d_M_laysCourseToFix_56 : decode qM_laysCourseToFix.1 56 = .ok (.iadd, 1) := by decide +kernel
theorem d_M_laysCourseToFix_57 : decode qM_laysCourseToFix.1 57 = .ok (.invokevirtual 162, 3) := by decide +kernel
theorem d_M_laysCourseToFix_60 : decode qM_laysCourseToFix.1 60 = .ok (.invokevirtual 208, 3) := by decide +kernel
theorem d_M_laysCourseToFix_63 : decode qM_laysCourseToFix.1 63 = .ok (.istore 6, 2) := by decide +kernel
theorem d_M_laysCourseToFix_65 : decode qM_laysCourseToFix.1 65 = .ok (.aload_n 0, 1) := by decide +kernel
theorem d_M_laysCourseToFix_66 : decode qM_laysCourseToFix.1 66 = .ok (.iload 4, 2) := by decide +kernel
theorem d_M_laysCourseToFix_68 : decode qM_laysCourseToFix.1 68 = .ok (.bipush 50, 2) := by decide +kernel
theorem d_M_laysCourseToFix_70 : decode qM_laysCourseToFix.1 70 = .ok (.aload_n 0, 1) := by decide +kernel
theorem d_M_laysCourseToFix_71 : decode qM_laysCourseToFix.1 71 = .ok (.iload 5, 2) := by decide +kernel
theorem d_M_laysCourseToFix_73 : decode qM_laysCourseToFix.1 73 = .ok (.bipush 12, 2) := by decide +kernel
theorem d_M_laysCourseToFix_75 : decode qM_laysCourseToFix.1 75 = .ok (.iadd, 1) := by decide +kernel
theorem d_M_laysCourseToFix_76 : decode qM_laysCourseToFix.1 76 = .ok (.invokevirtual 165, 3) := by decide +kernel
theorem d_M_laysCourseToFix_79 : decode qM_laysCourseToFix.1 79 = .ok (.invokevirtual 208, 3) := by decide +kernel
theorem d_M_laysCourseToFix_82 : decode qM_laysCourseToFix.1 82 = .ok (.istore 7, 2) := by decide +kernel
theorem d_M_laysCourseToFix_84 : decode qM_laysCourseToFix.1 84 = .ok (.aload_n 0, 1) := by decide +kernel
theorem d_M_laysCourseToFix_85 : decode qM_laysCourseToFix.1 85 = .ok (.iload_n 2, 1) := by decide +kernel
theorem d_M_laysCourseToFix_86 : decode qM_laysCourseToFix.1 86 = .ok (.iload 6, 2) := by decide +kernel
theorem d_M_laysCourseToFix_88 : decode qM_laysCourseToFix.1 88 = .ok (.iload 7, 2) := by decide +kernel
theorem d_M_laysCourseToFix_90 : decode qM_laysCourseToFix.1 90 = .ok (.invokevirtual 214, 3) := by decide +kernel
theorem d_M_laysCourseToFix_93 : decode qM_laysCourseToFix.1 93 = .ok (.aload_n 0, 1) := by decide +kernel
theorem d_M_laysCourseToFix_94 : decode qM_laysCourseToFix.1 94 = .ok (.iload 6, 2) := by decide +kernel
theorem d_M_laysCourseToFix_96 : decode qM_laysCourseToFix.1 96 = .ok (.putfield 191, 3) := by decide +kernel
theorem d_M_laysCourseToFix_99 : decode qM_laysCourseToFix.1 99 = .ok (.aload_n 0, 1) := by decide +kernel
theorem d_M_laysCourseToFix_100 : decode qM_laysCourseToFix.1 100 = .ok (.iload 7, 2) := by decide +kernel
theorem d_M_laysCourseToFix_102 : decode qM_laysCourseToFix.1 102 = .ok (.putfield 194, 3) := by decide +kernel
theorem d_M_laysCourseToFix_105 : decode qM_laysCourseToFix.1 105 = .ok (.aload_n 0, 1) := by decide +kernel
theorem d_M_laysCourseToFix_106 : decode qM_laysCourseToFix.1 106 = .ok (.iload_n 2, 1) := by decide +kernel
theorem d_M_laysCourseToFix_107 : decode qM_laysCourseToFix.1 107 = .ok (.iload_n 3, 1) := by decide +kernel
theorem d_M_laysCourseToFix_108 : decode qM_laysCourseToFix.1 108 = .ok (.iload 4, 2) := by decide +kernel
theorem d_M_laysCourseToFix_110 : decode qM_laysCourseToFix.1 110 = .ok (.bipush 50, 2) := by decide +kernel
theorem d_M_laysCourseToFix_112 : decode qM_laysCourseToFix.1 112 = .ok (.iload 5, 2) := by decide +kernel
theorem d_M_laysCourseToFix_114 : decode qM_laysCourseToFix.1 114 = .ok (.invokevirtual 211, 3) := by decide +kernel
theorem d_M_laysCourseToFix_117 : decode qM_laysCourseToFix.1 117 = .ok (.return_, 1) := by decide +kernel
set_option maxRecDepth 100000 in
def m_laysCourseToFix (σ : St) (p1 : Int32) (p2 : Int32) (p3 : Int32) (p4 : Int32) : Option (St) :=
  Option.bind (m_of σ p1 p2 (2 : Int32)) fun x1 =>
  Option.bind (m_of σ p1 (p2 - (1 : Int32)) (0 : Int32)) fun x2 =>
  if (x2 : Int32) = (5 : Int32) then (
  Option.bind (m_distance (σ 0 42) (σ 0 43) p3 p4) fun x11 =>
  Option.bind (m_towardOnCourse σ p2 p3 p4 x11 x1) fun x12 =>
  some x12
  ) else (
  Option.bind (m_sx σ (x1 + (12 : Int32))) fun x3 =>
  Option.bind (m_ahead p3 (50 : Int32) x3) fun x4 =>
  Option.bind (m_sy σ (x1 + (12 : Int32))) fun x5 =>
  Option.bind (m_ahead p4 (50 : Int32) x5) fun x6 =>
  Option.bind (m_straightTo σ p2 x4 x6) fun x7 =>
  Lt (s2 x7 0 42 x4) fun σ8 =>
  Lt (s2 σ8 0 43 x6) fun σ9 =>
  Option.bind (m_towardOnCourse σ9 p2 p3 p4 (50 : Int32) x1) fun x10 =>
  some x10
  )
set_option maxHeartbeats 4000000 in
set_option maxRecDepth 100000 in
theorem cM_laysCourseToFix (l : Launch) (g : Ge) (hi : injB wM.2 g) (σ : St) (p1 : Int32) (p2 : Int32) (p3 : Int32) (p4 : Int32) (x : St) (h : m_laysCourseToFix σ p1 p2 p3 p4 = some x) : Ct l wM g yM_laysCourseToFix qM_laysCourseToFix 4 99 [.ref (g.1 0), .int p1, .int p2, .int p3, .int p4] σ (none, x) := by
  refine Ct.of (out := o_v) FM_laysCourseToFix rfl hi rfl h (fun z hz C => ?_)
  clear h
  subst hz
  unfold m_laysCourseToFix
  show Rt z qM_laysCourseToFix wM g o_v 0 [(0, .ref (g.1 0)), (1, .int p1), (2, .int p2), (3, .int p3), (4, .int p4)] [] σ _
  refine q_aload_n (pc' := 1) C 0 d_M_laysCourseToFix_0 rfl rfl ?_
  refine q_iload_n (pc' := 2) C 1 d_M_laysCourseToFix_1 rfl rfl ?_
  refine q_iload_n (pc' := 3) C 2 d_M_laysCourseToFix_2 rfl rfl ?_
  refine q_iconst (pc' := 4) C d_M_laysCourseToFix_3 ki_2 rfl ?_
  refine q_callVr (fr' := 0) (lo' := 0) (pc' := 7) C FM_of lmM_168 d_M_laysCourseToFix_4 0 jM_0 kM_0 cM0 [.int p1, .int p2, .int (2 : Int32)] [] rfl rfl (Nat.le_of_ble_eq_true rfl) ⟨rfl, rfl⟩ (fun x h => cM_of _ g hi σ p1 p2 (2 : Int32) x h) rfl (fun x1 _ => ?_)
  refine q_istore (pc' := 9) (lv' := [(5, .int x1), (0, .ref (g.1 0)), (1, .int p1), (2, .int p2), (3, .int p3), (4, .int p4)]) C d_M_laysCourseToFix_7 (by decide) rfl rfl ?_
  refine q_aload_n (pc' := 10) C 1 d_M_laysCourseToFix_9 rfl rfl ?_
  refine q_iload_n (pc' := 11) C 2 d_M_laysCourseToFix_10 rfl rfl ?_
  refine q_iload_n (pc' := 12) C 3 d_M_laysCourseToFix_11 rfl rfl ?_
  refine q_iconst (pc' := 13) C d_M_laysCourseToFix_12 ki_1 rfl ?_
  refine q_isub (pc' := 14) C d_M_laysCourseToFix_13 rfl ?_
  refine q_iconst (pc' := 15) C d_M_laysCourseToFix_14 ki_0 rfl ?_
  refine q_callVr (fr' := 0) (lo' := 0) (pc' := 18) C FM_of lmM_168 d_M_laysCourseToFix_15 0 jM_0 kM_0 cM0 [.int p1, .int (p2 - (1 : Int32)), .int (0 : Int32)] [] rfl rfl (Nat.le_of_ble_eq_true rfl) ⟨rfl, rfl⟩ (fun x h => cM_of _ g hi σ p1 (p2 - (1 : Int32)) (0 : Int32) x h) rfl (fun x2 _ => ?_)
  refine q_iconst (pc' := 19) C d_M_laysCourseToFix_18 ki_5 rfl ?_
  refine q_icmp_ne (tgt := 47) (pc' := 22) C d_M_laysCourseToFix_19 rfl rfl ?_ ?_
  · refine q_aload_n (pc' := 48) C 1 d_M_laysCourseToFix_47 rfl rfl ?_
    refine q_iload_n (pc' := 49) C 4 d_M_laysCourseToFix_48 rfl rfl ?_
    refine q_bipush (pc' := 51) C d_M_laysCourseToFix_49 kb_50 rfl ?_
    refine q_aload_n (pc' := 52) C 1 d_M_laysCourseToFix_51 rfl rfl ?_
    refine q_iload (pc' := 54) C 0 d_M_laysCourseToFix_52 rfl rfl ?_
    refine q_bipush (pc' := 56) C d_M_laysCourseToFix_54 kb_12 rfl ?_
    refine q_iadd (pc' := 57) C d_M_laysCourseToFix_56 rfl ?_
    refine q_callVr (fr' := 1) (lo' := 20) (pc' := 60) C FM_sx lmM_162 d_M_laysCourseToFix_57 0 jM_0 kM_0 cM0 [.int (x1 + (12 : Int32))] [.int (50 : Int32), .int p3, .ref (g.1 0)] rfl rfl (Nat.le_of_ble_eq_true rfl) ⟨rfl, rfl⟩ (fun x h => cM_sx _ g hi σ (x1 + (12 : Int32)) x h) rfl (fun x3 _ => ?_)
    refine q_callVr (fr' := 0) (lo' := 0) (pc' := 63) C FM_ahead lmM_208 d_M_laysCourseToFix_60 0 jM_0 kM_0 cM0 [.int p3, .int (50 : Int32), .int x3] [] rfl rfl (Nat.le_of_ble_eq_true rfl) ⟨rfl, rfl⟩ (fun x h => cM_ahead _ g hi σ p3 (50 : Int32) x3 x h) rfl (fun x4 _ => ?_)
    refine q_istore (pc' := 65) (lv' := [(6, .int x4), (5, .int x1), (0, .ref (g.1 0)), (1, .int p1), (2, .int p2), (3, .int p3), (4, .int p4)]) C d_M_laysCourseToFix_63 (by decide) rfl rfl ?_
    refine q_aload_n (pc' := 66) C 2 d_M_laysCourseToFix_65 rfl rfl ?_
    refine q_iload (pc' := 68) C 6 d_M_laysCourseToFix_66 rfl rfl ?_
    refine q_bipush (pc' := 70) C d_M_laysCourseToFix_68 kb_50 rfl ?_
    refine q_aload_n (pc' := 71) C 2 d_M_laysCourseToFix_70 rfl rfl ?_
    refine q_iload (pc' := 73) C 1 d_M_laysCourseToFix_71 rfl rfl ?_
    refine q_bipush (pc' := 75) C d_M_laysCourseToFix_73 kb_12 rfl ?_
    refine q_iadd (pc' := 76) C d_M_laysCourseToFix_75 rfl ?_
    refine q_callVr (fr' := 1) (lo' := 20) (pc' := 79) C FM_sy lmM_165 d_M_laysCourseToFix_76 0 jM_0 kM_0 cM0 [.int (x1 + (12 : Int32))] [.int (50 : Int32), .int p4, .ref (g.1 0)] rfl rfl (Nat.le_of_ble_eq_true rfl) ⟨rfl, rfl⟩ (fun x h => cM_sy _ g hi σ (x1 + (12 : Int32)) x h) rfl (fun x5 _ => ?_)
    refine q_callVr (fr' := 0) (lo' := 0) (pc' := 82) C FM_ahead lmM_208 d_M_laysCourseToFix_79 0 jM_0 kM_0 cM0 [.int p4, .int (50 : Int32), .int x5] [] rfl rfl (Nat.le_of_ble_eq_true rfl) ⟨rfl, rfl⟩ (fun x h => cM_ahead _ g hi σ p4 (50 : Int32) x5 x h) rfl (fun x6 _ => ?_)
    refine q_istore (pc' := 84) (lv' := [(7, .int x6), (6, .int x4), (5, .int x1), (0, .ref (g.1 0)), (1, .int p1), (2, .int p2), (3, .int p3), (4, .int p4)]) C d_M_laysCourseToFix_82 (by decide) rfl rfl ?_
    refine q_aload_n (pc' := 85) C 3 d_M_laysCourseToFix_84 rfl rfl ?_
    refine q_iload_n (pc' := 86) C 5 d_M_laysCourseToFix_85 rfl rfl ?_
    refine q_iload (pc' := 88) C 1 d_M_laysCourseToFix_86 rfl rfl ?_
    refine q_iload (pc' := 90) C 0 d_M_laysCourseToFix_88 rfl rfl ?_
    refine q_callVv (fr' := 3) (lo' := 75) (pc' := 93) C FM_straightTo lmM_214 d_M_laysCourseToFix_90 0 jM_0 kM_0 cM0 [.int p2, .int x4, .int x6] [] rfl rfl (Nat.le_of_ble_eq_true rfl) ⟨rfl, rfl⟩ (fun x h => cM_straightTo _ g hi σ p2 x4 x6 x h) rfl (fun x7 _ => ?_)
    refine q_aload_n (pc' := 94) C 3 d_M_laysCourseToFix_93 rfl rfl ?_
    refine q_iload (pc' := 96) C 1 d_M_laysCourseToFix_94 rfl rfl ?_
    refine pM_191 (pc' := 99) C d_M_laysCourseToFix_96 rfl rfl ?_
    refine q_let (fun σ8 e8 => ?_)
    refine q_state e8 ?_
    refine q_aload_n (pc' := 100) C 3 d_M_laysCourseToFix_99 rfl rfl ?_
    refine q_iload (pc' := 102) C 0 d_M_laysCourseToFix_100 rfl rfl ?_
    refine pM_194 (pc' := 105) C d_M_laysCourseToFix_102 rfl rfl ?_
    refine q_let (fun σ9 e9 => ?_)
    refine q_state e9 ?_
    refine q_aload_n (pc' := 106) C 3 d_M_laysCourseToFix_105 rfl rfl ?_
    refine q_iload_n (pc' := 107) C 5 d_M_laysCourseToFix_106 rfl rfl ?_
    refine q_iload_n (pc' := 108) C 6 d_M_laysCourseToFix_107 rfl rfl ?_
    refine q_iload (pc' := 110) C 7 d_M_laysCourseToFix_108 rfl rfl ?_
    refine q_bipush (pc' := 112) C d_M_laysCourseToFix_110 kb_50 rfl ?_
    refine q_iload (pc' := 114) C 2 d_M_laysCourseToFix_112 rfl rfl ?_
    refine q_callVv (fr' := 2) (lo' := 50) (pc' := 117) C FM_towardOnCourse lmM_211 d_M_laysCourseToFix_114 0 jM_0 kM_0 cM0 [.int p2, .int p3, .int p4, .int (50 : Int32), .int x1] [] rfl rfl (Nat.le_of_ble_eq_true rfl) ⟨rfl, rfl⟩ (fun x h => cM_towardOnCourse _ g hi σ9 p2 p3 p4 (50 : Int32) x1 x h) rfl (fun x10 _ => ?_)
    exact q_vret C rfl d_M_laysCourseToFix_117 rfl
  · refine q_aload_n (pc' := 23) C 1 d_M_laysCourseToFix_22 rfl rfl ?_
    refine q_iload_n (pc' := 24) C 3 d_M_laysCourseToFix_23 rfl rfl ?_
    refine q_iload_n (pc' := 25) C 4 d_M_laysCourseToFix_24 rfl rfl ?_
    refine q_iload (pc' := 27) C 5 d_M_laysCourseToFix_25 rfl rfl ?_
    refine q_aload_n (pc' := 28) C 1 d_M_laysCourseToFix_27 rfl rfl ?_
    refine gM_191 (pc' := 31) C d_M_laysCourseToFix_28 rfl rfl ?_
    refine q_aload_n (pc' := 32) C 1 d_M_laysCourseToFix_31 rfl rfl ?_
    refine gM_194 (pc' := 35) C d_M_laysCourseToFix_32 rfl rfl ?_
    refine q_iload_n (pc' := 36) C 4 d_M_laysCourseToFix_35 rfl rfl ?_
    refine q_iload (pc' := 38) C 5 d_M_laysCourseToFix_36 rfl rfl ?_
    refine q_callSr (fr' := 0) (lo' := 0) (pc' := 41) C FM_distance lmM_197 d_M_laysCourseToFix_38 [.int (σ 0 42), .int (σ 0 43), .int p3, .int p4] [.int p4, .int p3, .int p2, .ref (g.1 0)] rfl rfl (Nat.le_of_ble_eq_true rfl) ⟨rfl, rfl⟩ (fun x h => cM_distance _ g hi σ (σ 0 42) (σ 0 43) p3 p4 x h) rfl (fun x11 _ => ?_)
    refine q_iload (pc' := 43) C 0 d_M_laysCourseToFix_41 rfl rfl ?_
    refine q_callVv (fr' := 2) (lo' := 50) (pc' := 46) C FM_towardOnCourse lmM_211 d_M_laysCourseToFix_43 0 jM_0 kM_0 cM0 [.int p2, .int p3, .int p4, .int x11, .int x1] [] rfl rfl (Nat.le_of_ble_eq_true rfl) ⟨rfl, rfl⟩ (fun x h => cM_towardOnCourse _ g hi σ p2 p3 p4 x11 x1 x h) rfl (fun x12 _ => ?_)
    exact q_vret C rfl d_M_laysCourseToFix_46 rfl
