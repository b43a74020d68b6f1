/-! segments on both sides -/
theorem asg_else {c : St} {b r : Nat} {leg toX toY len crs : Int32} {a k : Nat} (h3 : a ≠ b + 3) (h5 : a ≠ b + 5) : asg c b r leg toX toY len crs a k = c a k := by
  unfold asg row11
  rw [s2_ne h3, s2_ne h3, s2_ne h3, s2_ne h3, s2_ne h3, s2_ne h3, s2_ne h3, s2_ne h5, s2_ne h5, s2_ne h5, s2_ne h5, s2_ne h5, s2_ne h5, s2_ne h5, s2_ne h5, s2_ne h5, s2_ne h5, s2_ne h5]
theorem asg_old {c : St} {b r : Nat} {leg toX toY len crs : Int32} {k : Nat} (h : k < r * 16 ∨ r * 16 + 11 ≤ k) : asg c b r leg toX toY len crs (b + 5) k = c (b + 5) k := by
  have hne : b + 5 ≠ b + 3 := by omega
  unfold asg row11
  rw [s2_ne hne, s2_ne hne, s2_ne hne, s2_ne hne, s2_ne hne, s2_ne hne, s2_ne hne, s2_nk (Or.inr (by omega)), s2_nk (Or.inr (by omega)), s2_nk (Or.inr (by omega)), s2_nk (Or.inr (by omega)), s2_nk (Or.inr (by omega)), s2_nk (Or.inr (by omega)), s2_nk (Or.inr (by omega)), s2_nk (Or.inr (by omega)), s2_nk (Or.inr (by omega)), s2_nk (Or.inr (by omega)), s2_nk (Or.inr (by omega))]
theorem asg_0 {c : St} {b r : Nat} {leg toX toY len crs : Int32} : asg c b r leg toX toY len crs (b + 5) (r * 16 + 0) = leg := by
  have hne : b + 5 ≠ b + 3 := by omega
  unfold asg row11
  rw [s2_ne hne, s2_ne hne, s2_ne hne, s2_ne hne, s2_ne hne, s2_ne hne, s2_ne hne, s2_nk (Or.inr (by omega)), s2_nk (Or.inr (by omega)), s2_nk (Or.inr (by omega)), s2_nk (Or.inr (by omega)), s2_nk (Or.inr (by omega)), s2_nk (Or.inr (by omega)), s2_nk (Or.inr (by omega)), s2_nk (Or.inr (by omega)), s2_nk (Or.inr (by omega)), s2_nk (Or.inr (by omega)), s2_at]
theorem asg_1 {c : St} {b r : Nat} {leg toX toY len crs : Int32} : asg c b r leg toX toY len crs (b + 5) (r * 16 + 1) = (c (b + 3) 5) := by
  have hne : b + 5 ≠ b + 3 := by omega
  unfold asg row11
  rw [s2_ne hne, s2_ne hne, s2_ne hne, s2_ne hne, s2_ne hne, s2_ne hne, s2_ne hne, s2_nk (Or.inr (by omega)), s2_nk (Or.inr (by omega)), s2_nk (Or.inr (by omega)), s2_nk (Or.inr (by omega)), s2_nk (Or.inr (by omega)), s2_nk (Or.inr (by omega)), s2_nk (Or.inr (by omega)), s2_nk (Or.inr (by omega)), s2_nk (Or.inr (by omega)), s2_at]
theorem asg_2 {c : St} {b r : Nat} {leg toX toY len crs : Int32} : asg c b r leg toX toY len crs (b + 5) (r * 16 + 2) = (c (b + 3) 6) := by
  have hne : b + 5 ≠ b + 3 := by omega
  unfold asg row11
  rw [s2_ne hne, s2_ne hne, s2_ne hne, s2_ne hne, s2_ne hne, s2_ne hne, s2_ne hne, s2_nk (Or.inr (by omega)), s2_nk (Or.inr (by omega)), s2_nk (Or.inr (by omega)), s2_nk (Or.inr (by omega)), s2_nk (Or.inr (by omega)), s2_nk (Or.inr (by omega)), s2_nk (Or.inr (by omega)), s2_nk (Or.inr (by omega)), s2_at]
theorem asg_3 {c : St} {b r : Nat} {leg toX toY len crs : Int32} : asg c b r leg toX toY len crs (b + 5) (r * 16 + 3) = toX := by
  have hne : b + 5 ≠ b + 3 := by omega
  unfold asg row11
  rw [s2_ne hne, s2_ne hne, s2_ne hne, s2_ne hne, s2_ne hne, s2_ne hne, s2_ne hne, s2_nk (Or.inr (by omega)), s2_nk (Or.inr (by omega)), s2_nk (Or.inr (by omega)), s2_nk (Or.inr (by omega)), s2_nk (Or.inr (by omega)), s2_nk (Or.inr (by omega)), s2_nk (Or.inr (by omega)), s2_at]
theorem asg_4 {c : St} {b r : Nat} {leg toX toY len crs : Int32} : asg c b r leg toX toY len crs (b + 5) (r * 16 + 4) = toY := by
  have hne : b + 5 ≠ b + 3 := by omega
  unfold asg row11
  rw [s2_ne hne, s2_ne hne, s2_ne hne, s2_ne hne, s2_ne hne, s2_ne hne, s2_ne hne, s2_nk (Or.inr (by omega)), s2_nk (Or.inr (by omega)), s2_nk (Or.inr (by omega)), s2_nk (Or.inr (by omega)), s2_nk (Or.inr (by omega)), s2_nk (Or.inr (by omega)), s2_at]
theorem asg_5 {c : St} {b r : Nat} {leg toX toY len crs : Int32} : asg c b r leg toX toY len crs (b + 5) (r * 16 + 5) = len := by
  have hne : b + 5 ≠ b + 3 := by omega
  unfold asg row11
  rw [s2_ne hne, s2_ne hne, s2_ne hne, s2_ne hne, s2_ne hne, s2_ne hne, s2_ne hne, s2_nk (Or.inr (by omega)), s2_nk (Or.inr (by omega)), s2_nk (Or.inr (by omega)), s2_nk (Or.inr (by omega)), s2_nk (Or.inr (by omega)), s2_at]
theorem asg_6 {c : St} {b r : Nat} {leg toX toY len crs : Int32} : asg c b r leg toX toY len crs (b + 5) (r * 16 + 6) = crs := by
  have hne : b + 5 ≠ b + 3 := by omega
  unfold asg row11
  rw [s2_ne hne, s2_ne hne, s2_ne hne, s2_ne hne, s2_ne hne, s2_ne hne, s2_ne hne, s2_nk (Or.inr (by omega)), s2_nk (Or.inr (by omega)), s2_nk (Or.inr (by omega)), s2_nk (Or.inr (by omega)), s2_at]
theorem asg_7 {c : St} {b r : Nat} {leg toX toY len crs : Int32} : asg c b r leg toX toY len crs (b + 5) (r * 16 + 7) = (c (b + 3) 7) := by
  have hne : b + 5 ≠ b + 3 := by omega
  unfold asg row11
  rw [s2_ne hne, s2_ne hne, s2_ne hne, s2_ne hne, s2_ne hne, s2_ne hne, s2_ne hne, s2_nk (Or.inr (by omega)), s2_nk (Or.inr (by omega)), s2_nk (Or.inr (by omega)), s2_at]
theorem asg_8 {c : St} {b r : Nat} {leg toX toY len crs : Int32} : asg c b r leg toX toY len crs (b + 5) (r * 16 + 8) = (c (b + 3) 8) := by
  have hne : b + 5 ≠ b + 3 := by omega
  unfold asg row11
  rw [s2_ne hne, s2_ne hne, s2_ne hne, s2_ne hne, s2_ne hne, s2_ne hne, s2_ne hne, s2_nk (Or.inr (by omega)), s2_nk (Or.inr (by omega)), s2_at]
theorem asg_9 {c : St} {b r : Nat} {leg toX toY len crs : Int32} : asg c b r leg toX toY len crs (b + 5) (r * 16 + 9) = (c (b + 3) 9) := by
  have hne : b + 5 ≠ b + 3 := by omega
  unfold asg row11
  rw [s2_ne hne, s2_ne hne, s2_ne hne, s2_ne hne, s2_ne hne, s2_ne hne, s2_ne hne, s2_nk (Or.inr (by omega)), s2_at]
theorem asg_10 {c : St} {b r : Nat} {leg toX toY len crs : Int32} : asg c b r leg toX toY len crs (b + 5) (r * 16 + 10) = (if c (b + 3) 10 = 0 then 0 else 1) := by
  have hne : b + 5 ≠ b + 3 := by omega
  unfold asg row11
  rw [s2_ne hne, s2_ne hne, s2_ne hne, s2_ne hne, s2_ne hne, s2_ne hne, s2_ne hne, s2_at]
theorem asgf_4 {c : St} {b r : Nat} {leg toX toY len crs : Int32} : asg c b r leg toX toY len crs (b + 3) 4 = (nI r + (1 : Int32)) := by
  unfold asg
  rw [s2_nk (Or.inr (by decide)), s2_nk (Or.inr (by decide)), s2_nk (Or.inr (by decide)), s2_nk (Or.inr (by decide)), s2_nk (Or.inr (by decide)), s2_nk (Or.inr (by decide)), s2_at]
theorem asgf_5 {c : St} {b r : Nat} {leg toX toY len crs : Int32} : asg c b r leg toX toY len crs (b + 3) 5 = toX := by
  unfold asg
  rw [s2_nk (Or.inr (by decide)), s2_nk (Or.inr (by decide)), s2_nk (Or.inr (by decide)), s2_nk (Or.inr (by decide)), s2_nk (Or.inr (by decide)), s2_at]
theorem asgf_6 {c : St} {b r : Nat} {leg toX toY len crs : Int32} : asg c b r leg toX toY len crs (b + 3) 6 = toY := by
  unfold asg
  rw [s2_nk (Or.inr (by decide)), s2_nk (Or.inr (by decide)), s2_nk (Or.inr (by decide)), s2_nk (Or.inr (by decide)), s2_at]
theorem asgf_10 {c : St} {b r : Nat} {leg toX toY len crs : Int32} : asg c b r leg toX toY len crs (b + 3) 10 = (1 : Int32) := by
  unfold asg
  rw [s2_nk (Or.inr (by decide)), s2_nk (Or.inr (by decide)), s2_nk (Or.inr (by decide)), s2_at]
theorem asgf_7 {c : St} {b r : Nat} {leg toX toY len crs : Int32} : asg c b r leg toX toY len crs (b + 3) 7 = leg := by
  unfold asg
  rw [s2_nk (Or.inr (by decide)), s2_nk (Or.inr (by decide)), s2_at]
theorem asgf_8 {c : St} {b r : Nat} {leg toX toY len crs : Int32} : asg c b r leg toX toY len crs (b + 3) 8 = crs := by
  unfold asg
  rw [s2_nk (Or.inr (by decide)), s2_at]
theorem asgf_9 {c : St} {b r : Nat} {leg toX toY len crs : Int32} : asg c b r leg toX toY len crs (b + 3) 9 = len := by
  unfold asg
  rw [s2_at]
theorem asgf_11 {c : St} {b r : Nat} {leg toX toY len crs : Int32} : asg c b r leg toX toY len crs (b + 3) 11 = c (b + 3) 11 := by
  unfold asg row11
  rw [s2_nk (Or.inr (by decide)), s2_nk (Or.inr (by decide)), s2_nk (Or.inr (by decide)), s2_nk (Or.inr (by decide)), s2_nk (Or.inr (by decide)), s2_nk (Or.inr (by decide)), s2_nk (Or.inr (by decide)), s2_ne b35, s2_ne b35, s2_ne b35, s2_ne b35, s2_ne b35, s2_ne b35, s2_ne b35, s2_ne b35, s2_ne b35, s2_ne b35, s2_ne b35]
/-- the reference's state behind a new segment -/
def msg (m : St) (r : Nat) (leg x y len crs : Int32) : St := s2 (s2 (s2 (s2 (s2 (s2 (s2 (s2 (s2 (s2 (s2 (s2 (s2 (s2 m 7 r leg) 10 r x) 11 r y) 12 r len) 13 r crs) 14 r (m 0 31)) 15 r (m 0 32)) 16 r (m 0 33)) 17 r (m 0 34)) 0 30 (nI r + (1 : Int32))) 0 31 crs) 0 32 len) 0 33 leg) 0 34 (nI r)
def msg2 (m : St) (r : Nat) (leg x y len crs : Int32) : St := s2 (s2 (msg m r leg x y len crs) 8 r (m 0 42)) 9 r (m 0 43)
theorem seg_m {m : St} {r : Nat} {leg x y len crs : Int32} (hr : r < 42) (hm : m 0 30 = nI r) (hl : ¬ len = 0) : m_segment m leg x y len crs = some (msg m r leg x y len crs) := by
  have hi : Ix (nI r) 42 := Ix_n hr (by decide)
  have hc : (nI r).toNatClampNeg = r := nI_clamp (by omega)
  unfold m_segment m_inbound
  rw [if_neg hl]
  simp only [Lt_e, hm, Gd_t hi, hc]
  unfold msg
  simp only [s2_ne (show (0 : Nat) ≠ 7 by decide), s2_ne (show (0 : Nat) ≠ 10 by decide), s2_ne (show (0 : Nat) ≠ 11 by decide), s2_ne (show (0 : Nat) ≠ 12 by decide), s2_ne (show (0 : Nat) ≠ 13 by decide), s2_ne (show (0 : Nat) ≠ 14 by decide), s2_ne (show (0 : Nat) ≠ 15 by decide), s2_ne (show (0 : Nat) ≠ 16 by decide), s2_ne (show (0 : Nat) ≠ 17 by decide), hm]
  rfl
theorem seg_m0 {m : St} {leg x y crs : Int32} : m_segment m leg x y 0 crs = some m := by
  unfold m_segment
  rw [if_pos rfl]
theorem msg_else {m : St} {r : Nat} {leg x y len crs : Int32} {a k : Nat} (h : a ≠ 0 ∧ a ≠ 7 ∧ a ≠ 10 ∧ a ≠ 11 ∧ a ≠ 12 ∧ a ≠ 13 ∧ a ≠ 14 ∧ a ≠ 15 ∧ a ≠ 16 ∧ a ≠ 17) : msg m r leg x y len crs a k = m a k := by
  obtain ⟨h0, h7, h10, h11, h12, h13, h14, h15, h16, h17⟩ := h
  unfold msg
  rw [s2_ne h0, s2_ne h0, s2_ne h0, s2_ne h0, s2_ne h0, s2_ne h17, s2_ne h16, s2_ne h15, s2_ne h14, s2_ne h13, s2_ne h12, s2_ne h11, s2_ne h10, s2_ne h7]
theorem msg_old {m : St} {r : Nat} {leg x y len crs : Int32} {a k : Nat} (h0 : a ≠ 0) (hk : k ≠ r) : msg m r leg x y len crs a k = m a k := by
  unfold msg
  rw [s2_ne h0, s2_ne h0, s2_ne h0, s2_ne h0, s2_ne h0, s2_nk (Or.inr hk), s2_nk (Or.inr hk), s2_nk (Or.inr hk), s2_nk (Or.inr hk), s2_nk (Or.inr hk), s2_nk (Or.inr hk), s2_nk (Or.inr hk), s2_nk (Or.inr hk), s2_nk (Or.inr hk)]
theorem msg_7 {m : St} {r : Nat} {leg x y len crs : Int32} : msg m r leg x y len crs 7 r = leg := by
  unfold msg
  rw [s2_nk (Or.inl (by decide)), s2_nk (Or.inl (by decide)), s2_nk (Or.inl (by decide)), s2_nk (Or.inl (by decide)), s2_nk (Or.inl (by decide)), s2_nk (Or.inl (by decide)), s2_nk (Or.inl (by decide)), s2_nk (Or.inl (by decide)), s2_nk (Or.inl (by decide)), s2_nk (Or.inl (by decide)), s2_nk (Or.inl (by decide)), s2_nk (Or.inl (by decide)), s2_nk (Or.inl (by decide)), s2_at]
theorem msg_10 {m : St} {r : Nat} {leg x y len crs : Int32} : msg m r leg x y len crs 10 r = x := by
  unfold msg
  rw [s2_nk (Or.inl (by decide)), s2_nk (Or.inl (by decide)), s2_nk (Or.inl (by decide)), s2_nk (Or.inl (by decide)), s2_nk (Or.inl (by decide)), s2_nk (Or.inl (by decide)), s2_nk (Or.inl (by decide)), s2_nk (Or.inl (by decide)), s2_nk (Or.inl (by decide)), s2_nk (Or.inl (by decide)), s2_nk (Or.inl (by decide)), s2_nk (Or.inl (by decide)), s2_at]
theorem msg_11 {m : St} {r : Nat} {leg x y len crs : Int32} : msg m r leg x y len crs 11 r = y := by
  unfold msg
  rw [s2_nk (Or.inl (by decide)), s2_nk (Or.inl (by decide)), s2_nk (Or.inl (by decide)), s2_nk (Or.inl (by decide)), s2_nk (Or.inl (by decide)), s2_nk (Or.inl (by decide)), s2_nk (Or.inl (by decide)), s2_nk (Or.inl (by decide)), s2_nk (Or.inl (by decide)), s2_nk (Or.inl (by decide)), s2_nk (Or.inl (by decide)), s2_at]
theorem msg_12 {m : St} {r : Nat} {leg x y len crs : Int32} : msg m r leg x y len crs 12 r = len := by
  unfold msg
  rw [s2_nk (Or.inl (by decide)), s2_nk (Or.inl (by decide)), s2_nk (Or.inl (by decide)), s2_nk (Or.inl (by decide)), s2_nk (Or.inl (by decide)), s2_nk (Or.inl (by decide)), s2_nk (Or.inl (by decide)), s2_nk (Or.inl (by decide)), s2_nk (Or.inl (by decide)), s2_nk (Or.inl (by decide)), s2_at]
theorem msg_13 {m : St} {r : Nat} {leg x y len crs : Int32} : msg m r leg x y len crs 13 r = crs := by
  unfold msg
  rw [s2_nk (Or.inl (by decide)), s2_nk (Or.inl (by decide)), s2_nk (Or.inl (by decide)), s2_nk (Or.inl (by decide)), s2_nk (Or.inl (by decide)), s2_nk (Or.inl (by decide)), s2_nk (Or.inl (by decide)), s2_nk (Or.inl (by decide)), s2_nk (Or.inl (by decide)), s2_at]
theorem msg_14 {m : St} {r : Nat} {leg x y len crs : Int32} : msg m r leg x y len crs 14 r = (m 0 31) := by
  unfold msg
  rw [s2_nk (Or.inl (by decide)), s2_nk (Or.inl (by decide)), s2_nk (Or.inl (by decide)), s2_nk (Or.inl (by decide)), s2_nk (Or.inl (by decide)), s2_nk (Or.inl (by decide)), s2_nk (Or.inl (by decide)), s2_nk (Or.inl (by decide)), s2_at]
theorem msg_15 {m : St} {r : Nat} {leg x y len crs : Int32} : msg m r leg x y len crs 15 r = (m 0 32) := by
  unfold msg
  rw [s2_nk (Or.inl (by decide)), s2_nk (Or.inl (by decide)), s2_nk (Or.inl (by decide)), s2_nk (Or.inl (by decide)), s2_nk (Or.inl (by decide)), s2_nk (Or.inl (by decide)), s2_nk (Or.inl (by decide)), s2_at]
theorem msg_16 {m : St} {r : Nat} {leg x y len crs : Int32} : msg m r leg x y len crs 16 r = (m 0 33) := by
  unfold msg
  rw [s2_nk (Or.inl (by decide)), s2_nk (Or.inl (by decide)), s2_nk (Or.inl (by decide)), s2_nk (Or.inl (by decide)), s2_nk (Or.inl (by decide)), s2_nk (Or.inl (by decide)), s2_at]
theorem msg_17 {m : St} {r : Nat} {leg x y len crs : Int32} : msg m r leg x y len crs 17 r = (m 0 34) := by
  unfold msg
  rw [s2_nk (Or.inl (by decide)), s2_nk (Or.inl (by decide)), s2_nk (Or.inl (by decide)), s2_nk (Or.inl (by decide)), s2_nk (Or.inl (by decide)), s2_at]
theorem msgf_30 {m : St} {r : Nat} {leg x y len crs : Int32} : msg m r leg x y len crs 0 30 = (nI r + (1 : Int32)) := by
  unfold msg
  rw [s2_nk (Or.inr (by decide)), s2_nk (Or.inr (by decide)), s2_nk (Or.inr (by decide)), s2_nk (Or.inr (by decide)), s2_at]
theorem msgf_31 {m : St} {r : Nat} {leg x y len crs : Int32} : msg m r leg x y len crs 0 31 = crs := by
  unfold msg
  rw [s2_nk (Or.inr (by decide)), s2_nk (Or.inr (by decide)), s2_nk (Or.inr (by decide)), s2_at]
theorem msgf_32 {m : St} {r : Nat} {leg x y len crs : Int32} : msg m r leg x y len crs 0 32 = len := by
  unfold msg
  rw [s2_nk (Or.inr (by decide)), s2_nk (Or.inr (by decide)), s2_at]
theorem msgf_33 {m : St} {r : Nat} {leg x y len crs : Int32} : msg m r leg x y len crs 0 33 = leg := by
  unfold msg
  rw [s2_nk (Or.inr (by decide)), s2_at]
theorem msgf_34 {m : St} {r : Nat} {leg x y len crs : Int32} : msg m r leg x y len crs 0 34 = (nI r) := by
  unfold msg
  rw [s2_at]
theorem msgf_else {m : St} {r : Nat} {leg x y len crs : Int32} {k : Nat} (h : k < 30 ∨ 34 < k) : msg m r leg x y len crs 0 k = m 0 k := by
  unfold msg
  rw [s2_nk (Or.inr (by omega)), s2_nk (Or.inr (by omega)), s2_nk (Or.inr (by omega)), s2_nk (Or.inr (by omega)), s2_nk (Or.inr (by omega)), s2_nk (Or.inl (by decide)), s2_nk (Or.inl (by decide)), s2_nk (Or.inl (by decide)), s2_nk (Or.inl (by decide)), s2_nk (Or.inl (by decide)), s2_nk (Or.inl (by decide)), s2_nk (Or.inl (by decide)), s2_nk (Or.inl (by decide)), s2_nk (Or.inl (by decide))]
/-- the tail that straightTo, onCourse and towardOnCourse share -/
theorem seg_tail {m m1 : St} {r : Nat} (hr : r < 42) {len : Int32} {leg x y crs : Int32} (hm : m 0 30 = nI r) (hl : ¬ len = 0) (e : m1 = msg m r leg x y len crs) : (if (m1 0 30 : Int32) ≤ nI r then (some m1) else (
  Gd (Ix (nI r) 42) <|
  Lt (s2 m1 8 (Int32.toNatClampNeg (nI r)) (m1 0 42)) fun σ5 =>
  Gd (Ix (nI r) 42) <|
  Lt (s2 σ5 9 (Int32.toNatClampNeg (nI r)) (σ5 0 43)) fun σ6 =>
  some σ6)) = some (msg2 m r leg x y len crs) := by
  have hi : Ix (nI r) 42 := Ix_n hr (by decide)
  have hc : (nI r).toNatClampNeg = r := nI_clamp (by omega)
  have h30 : m1 0 30 = nI (r + 1) := by rw [e, msgf_30, nI_1]
  have h42 : m1 0 42 = m 0 42 := by rw [e, msgf_else (by omega)]
  have h43 : m1 0 43 = m 0 43 := by rw [e, msgf_else (by omega)]
  rw [if_neg (by rw [h30]; exact nI_ge (by omega) (by omega)), Gd_t hi, Lt_e, Gd_t hi, Lt_e, hc, h42, s2_ne (show (0 : Nat) ≠ 8 by decide), h43, e]
  rfl
theorem toward_m {m : St} {r : Nat} {leg x y len crs : Int32} (hr : r < 42) (hm : m 0 30 = nI r) (hl : ¬ len = 0) : m_towardOnCourse m leg x y len crs = some (msg2 m r leg x y len crs) := by
  unfold m_towardOnCourse
  rw [Lt_e, bd_e (seg_m hr hm hl), Jn_e, hm]
  exact seg_tail hr hm hl rfl
theorem toward_m0 {m : St} {r : Nat} {leg x y crs : Int32} (hm : m 0 30 = nI r) : m_towardOnCourse m leg x y 0 crs = some m := by
  unfold m_towardOnCourse
  rw [Lt_e, bd_e seg_m0, Jn_e, if_pos (Int32.le_refl _)]
