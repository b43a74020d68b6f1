/-! fixes and the text -/

/-- only the text and what is read of it changed -/
theorem INV.txt {t t' : Nat} {c m c' m' : St} (h : INV t c m) (htt : t ≤ t') (hD : Dm c') (hc : ∀ a, a ≠ 4 → a ≠ 5 → a ≠ 7 → c' a = c a) (hm : ∀ a, a ≠ 0 → a ≠ 41 → a ≠ 43 → m' a = m a) (h0 : ∀ k, k < 30 → m' 0 k = m 0 k)
  (hL : ∃ L : Nat, L ≤ 200 ∧ L ≤ t' ∧ c' 4 3 = nI L ∧ m' 0 68 = nI L ∧ ∀ k, k < L → c' 5 k = m' 41 k ∧ 0 ≤ (c' 5 k).toInt ∧ (c' 5 k).toInt ≤ 255) : INV t' c' m' := by
  obtain ⟨na, cur, fl, ed, nm, Ra, hB, hA, hM⟩ := h
  obtain ⟨k, rfl⟩ : ∃ k, t' = t + k := ⟨t' - t, by omega⟩
  have hu : ∀ k, IB (t + k) c m na cur fl ed nm Ra := fun k => by
    induction k with
    | zero => exact hB
    | succ k ih => exact ih.up
  obtain ⟨d1, d2, d3, d4, d5, d6, d7, d8, d9, d10, d11, d12, d13, d14, d15⟩ := hu k
  have c1 := hc 1 (by decide) (by decide) (by decide)
  have m1 := hm 1 (by decide) (by decide) (by decide)
  have m3 := hm 3 (by decide) (by decide) (by decide)
  have m4 := hm 4 (by decide) (by decide) (by decide)
  refine ⟨na, cur, fl, ed, nm, Ra, ⟨hD, d2.of (hm _ (by decide) (by decide) (by decide)) (hm _ (by decide) (by decide) (by decide)) (hm _ (by decide) (by decide) (by decide)), d3.of c1 h0, ?_, hL, d6.of (hc _ (by decide) (by decide) (by decide)) (hc _ (by decide) (by decide) (by decide)) c1 m1 m3 m4, d7, ?_, d9, ?_, ?_, ?_, ?_, ?_, ?_⟩, ?_, ?_⟩
  · unfold FB at *; rw [c1, hc 3 (by decide) (by decide) (by decide), hc 10 (by decide) (by decide) (by decide), h0 7 (by decide), m3, m4]; exact d4
  · rw [hc 8 (by decide) (by decide) (by decide), m1]; exact d8
  · unfold zp at *; rw [hc 10 (by decide) (by decide) (by decide)]; exact d10
  · rw [hc 0 (by decide) (by decide) (by decide), h0 1 (by decide)]; exact d11
  · intro q
    obtain ⟨cu, rs, R, a1, a2, a3, a4, a5, a6, a7⟩ := d12 q
    have h11 := hc 11 (by decide) (by decide) (by decide)
    exact ⟨cu, rs, R, by rw [h11]; exact a1, by rw [m1]; exact a2, by rw [h11]; exact a3, by rw [m1]; exact a4, by rw [h11]; exact a5, by rw [m1]; exact a6, a7.of (hc _ (by decide) (by decide) (by decide)) (by rw [c1]) m1 m3 m4⟩
  · obtain ⟨sz, nx, a1, a2, a3, a4, a5, a6⟩ := d13
    have h47 := hc 47 (by decide) (by decide) (by decide)
    exact ⟨sz, nx, a1, a2, by rw [h47]; exact a3, by rw [h0 2 (by decide)]; exact a4, by rw [h47]; exact a5, fun j hj => (a6 j hj).of (hc _ (by decide) (by decide) (by decide)) (hc _ (by decide) (by decide) (by decide)) c1 m1 (hm _ (by decide) (by decide) (by decide)) m3 m4⟩
  · rw [hc 52 (by decide) (by decide) (by decide), h0 4 (by decide)]; exact d14
  · intro q
    obtain ⟨x, a1, a2⟩ := d15 q
    exact ⟨x, a1.of c1 (hc _ (by decide) (by decide) (by decide)) (hc _ (by decide) (by decide) (by decide)), a2⟩
  · intro q
    rw [hc 17 (by decide) (by decide) (by decide)] at q
    obtain ⟨x, a1, a2⟩ := hA q
    exact ⟨x, a1.of c1 (hc _ (by decide) (by decide) (by decide)) (hc _ (by decide) (by decide) (by decide)), a2.of (hc _ (by decide) (by decide) (by decide)) (by rw [hc _ (by decide) (by decide) (by decide)]) (hc _ (by decide) (by decide) (by decide))⟩
  · intro q1 q2
    rw [hc 27 (by decide) (by decide) (by decide)] at q2
    obtain ⟨x, a1, a2⟩ := hM q1 q2
    exact ⟨x, a1.of c1 (hc _ (by decide) (by decide) (by decide)) (hc _ (by decide) (by decide) (by decide)), a2.of (hc _ (by decide) (by decide) (by decide)) (by rw [hc _ (by decide) (by decide) (by decide)]) (hc _ (by decide) (by decide) (by decide))⟩
theorem k_clearText {t : Nat} {c m : St} (h : INV t c m) : AQ t (f_FL_clearText c) (m_clearText m) := by
  have h' := h
  obtain ⟨na, cur, fl, ed, nm, Ra, hB, hA, hM⟩ := h
  obtain ⟨L, l1, l2, l3, l4, l5⟩ := hB.L
  unfold f_FL_clearText m_clearText
  rw [l3, l4]
  simp only [Lt_e]
  refine ⟨_, _, _, rfl, rfl, h'.txt (by omega) (hB.D.s2 (by decide)) (fun a p1 p2 p3 => s2_ne p1) (fun a p1 p2 p3 => s2_ne p1) (fun k p => s2_k (by omega)) ⟨0, by decide, by omega, s2_at, s2_at, fun k hk => absurd hk (by omega)⟩⟩
theorem k_type {t : Nat} {c m : St} (h : INV t c m) (p1 : Int32) : AQ t (f_FL_type c p1) (m_type m p1) := by
  have h' := h
  obtain ⟨na, cur, fl, ed, nm, Ra, hB, hA, hM⟩ := h
  obtain ⟨L, l1, l2, l3, l4, l5⟩ := hB.L
  have g : ∀ (v : Int32) (C M : St), C = c → M = m → INV (t + 1) C M := fun v C M e1 e2 => by rw [e1, e2]; exact h'.up
  unfold f_FL_type m_type
  rcases wi (p := p1) (a := 0) (b := 255) (a' := 0) (b' := 255) (by decide) (by decide) with ⟨a, b, lo, hi⟩ | ⟨a, b⟩
  rotate_left
  · rw [bd_e a, bd_e b, if_pos rfl, if_pos rfl]
    exact ⟨_, c, m, rfl, rfl, h'.up⟩
  rw [bd_e a, bd_e b, if_neg n10, if_neg n10, l4]
  rcases (show L = 200 ∨ L < 200 by omega) with e | e
  · have : f_Rx_append c 4 p1 = some (0, c) := by
      unfold f_Rx_append
      rw [Jn_e, l3, e, if_neg (by decide), if_neg (by decide)]
    rw [bd_e this, Jn_e, if_pos rfl, if_pos (by rw [e]; decide)]
    exact ⟨_, c, m, rfl, rfl, h'.up⟩
  · have hL : (nI L).toInt = (L : Int) := nI_toInt (by omega)
    have : f_Rx_append c 4 p1 = some (1, s2 (s2 c 5 L p1) 4 3 (nI (L + 1))) := by
      unfold f_Rx_append
      rw [Jn_e, show rc 4 1 = 5 from rfl, show ln 5 = 200 from rfl, l3, if_neg (nI_pos (by omega)), if_pos (show nI L < Int32.ofNat 200 from nI_lt e (by decide)), Gd_t (Ix_n e (by decide)), Lt_e, Lt_e, nI_clamp (by omega), s2_ne (show (4 : Nat) ≠ 5 by decide), l3, nI_1]
    have hne : ¬ (nI L = (200 : Int32)) := fun q => by
      have := congrArg Int32.toInt q
      rw [hL] at this
      have : (200 : Int32).toInt = 200 := by decide
      omega
    rw [bd_e this, Jn_e, if_neg n10, if_neg hne, Gd_t (Ix_n e (by decide)), Lt_e, Lt_e, nI_clamp (by omega), s2_at, s2_ne (show (0 : Nat) ≠ 41 by decide), l4, nI_1]
    dsimp only
    rw [s2_at]
    refine ⟨_, _, _, rfl, rfl, h'.txt (by omega) ((hB.D.s2 (by decide)).s2 (by decide)) (fun a p1 p2 p3 => by rw [s2_ne p1, s2_ne p2]) (fun a p1 p2 p3 => by rw [s2_ne p1, s2_ne p2]) (fun k p => by rw [s2_k (by omega), s2_ne (by decide)]) ⟨L + 1, by omega, by omega, s2_at, s2_at, fun k hk => ?_⟩⟩
    rw [s2_ne (show (5 : Nat) ≠ 4 by decide), s2_ne (show (41 : Nat) ≠ 0 by decide)]
    by_cases q : k = L
    · rw [q, s2_at, s2_at]
      exact ⟨rfl, lo, hi⟩
    · rw [s2_k q, s2_k q]
      exact l5 k (by omega)
/-- a fix was added -/
theorem k_addFix {t : Nat} {c m : St} (h : INV t c m) (p1 p2 : Int32) : AQ t (f_FL_addFix c p1 p2) (m_addFix m p1 p2) := by
  have h' := h
  obtain ⟨na, cur, fl, ed, nm, Ra, hB, hA, hM⟩ := h
  obtain ⟨F, F1, F2, F3, F4, F5⟩ := hB.F
  unfold f_FL_addFix m_addFix
  simp only [Jn_e]
  rcases wi (p := p1) (a := (-9999 : Int32)) (b := 9999) (a' := (-9999 : Int64)) (b' := 9999) (by decide) (by decide) with ⟨a, b, lo, hi⟩ | ⟨a, b⟩
  rotate_left
  · rw [bd_e a, bd_e b, if_pos rfl, if_pos rfl]
    exact ⟨_, c, m, rfl, rfl, h'.up⟩
  rw [bd_e a, bd_e b, if_neg n10, if_neg n10]
  rcases wi (p := p2) (a := (-9999 : Int32)) (b := 9999) (a' := (-9999 : Int64)) (b' := 9999) (by decide) (by decide) with ⟨a, b, lo2, hi2⟩ | ⟨a, b⟩
  rotate_left
  · rw [bd_e a, bd_e b, if_pos rfl, if_pos rfl]
    exact ⟨_, c, m, rfl, rfl, h'.up⟩
  rw [bd_e a, bd_e b, if_neg n10, if_neg n10, F2, F3]
  rcases (show F = 16 ∨ F < 16 by omega) with e | e
  · rw [if_neg (by rw [e]; decide), if_pos (by rw [e]; decide)]
    exact ⟨_, c, m, rfl, rfl, h'.up⟩
  · have hL : (nI F).toInt = (F : Int) := nI_toInt (by omega)
    have hne : ¬ (nI F = (16 : Int32)) := fun q => by
      have := congrArg Int32.toInt q
      rw [hL] at this
      have : (16 : Int32).toInt = 16 := by decide
      omega
    have T : TabOK c 2 16 2 := hB.D.1
    have D2 : Dm (s2 c 3 (F * 2 + 0) p1) := hB.D.s2 (by decide)
    have e1 : f_Tb_put c 2 (nI F) 0 p1 = some (s2 c 3 (F * 2 + 0) p1) := Tb_put' T rfl rfl e (by decide)
    have e2 : f_Tb_put (s2 c 3 (F * 2 + 0) p1) 2 (nI F) 1 p2 = some (s2 (s2 c 3 (F * 2 + 0) p1) 3 (F * 2 + 1) p2) := Tb_put' D2.1 rfl rfl e (by decide)
    rw [if_pos (show nI F < (16 : Int32) from nI_lt e (by decide)), Lt_e, bd_e e1, bd_e e2, Lt_e, if_neg hne, Gd_t (Ix_n e (by decide)), Lt_e, s2_ne (show (0 : Nat) ≠ 3 by decide), F3, Gd_t (Ix_n e (by decide)), Lt_e, Lt_e, nI_clamp (by omega), s2_ne (show (0 : Nat) ≠ 4 by decide), s2_ne (show (0 : Nat) ≠ 3 by decide), F3, nI_1, s2_at, show nI (F + 1) - (1 : Int32) = nI F by rw [← nI_1]; exact Int32.add_sub_cancel _ _]
    obtain ⟨C, eC⟩ : ∃ C, C = s2 (s2 (s2 c 3 (F * 2 + 0) p1) 3 (F * 2 + 1) p2) 1 1 (nI (F + 1)) := ⟨_, rfl⟩
    obtain ⟨M, eM⟩ : ∃ M, M = s2 (s2 (s2 m 3 F p1) 4 F p2) 0 7 (nI (F + 1)) := ⟨_, rfl⟩
    rw [← eC, ← eM]
    refine ⟨_, C, M, rfl, rfl, ?_⟩
    have hD : Dm C := by rw [eC]; exact ((hB.D.s2 (by decide)).s2 (by decide)).s2 (by decide)
    have hc : ∀ a, a ≠ 1 → a ≠ 3 → C a = c a := fun a q1 q2 => by rw [eC, s2_ne q1, s2_ne q2, s2_ne q2]
    have hc1 : ∀ k, k ≠ 1 → C 1 k = c 1 k := fun k q => by rw [eC, s2_k q, s2_ne (by decide), s2_ne (by decide)]
    have C11 : C 1 1 = nI (F + 1) := by rw [eC, s2_at]
    have hm : ∀ a, a ≠ 0 → a ≠ 3 → a ≠ 4 → M a = m a := fun a q0 q1 q2 => by rw [eM, s2_ne q0, s2_ne q2, s2_ne q1]
    have h0 : ∀ k, k ≠ 7 → M 0 k = m 0 k := fun k q => by rw [eM, s2_k q, s2_ne (by decide), s2_ne (by decide)]
    have h3 : ∀ f, f ≠ F → M 3 f = m 3 f ∧ M 4 f = m 4 f := fun f q => ⟨by rw [eM, s2_ne (by decide), s2_ne (by decide), s2_k q], by rw [eM, s2_ne (by decide), s2_k q, s2_ne (by decide)]⟩
    have h34 : ∀ f, f < F → M 3 f = m 3 f ∧ M 4 f = m 4 f := fun f q => h3 f (by omega)
    obtain ⟨d1, d2, d3, d4, d5, d6, d7, d8, d9, d10, d11, d12, d13, d14, d15⟩ := hB
    have m1 := hm 1 (by decide) (by decide) (by decide)
    have c10 := hc 10 (by decide) (by decide)
    have key : IB t C M na cur fl ed nm Ra := by
      refine ⟨hD, d2.of (hm _ (by decide) (by decide) (by decide)) (hm _ (by decide) (by decide) (by decide)) (hm _ (by decide) (by decide) (by decide)), d3.of1 (fun k q => hc1 k (by omega)) (fun k q _ => h0 k (by omega)), ⟨F + 1, by omega, C11, by rw [eM, s2_at], ?_, ?_⟩, ?_, ⟨d6.le, by rw [hc 8 (by decide) (by decide)]; exact d6.cc, by rw [m1]; exact d6.cm, d6.off, fun i hi => (d6.leg i hi).fx (by omega) F2 F4 hi c10 m1 h34⟩, d7, ?_, d9, ?_, ?_, ?_, ?_, ?_, ?_⟩
      · intro i k q1 q2 q3 q4
        rw [show C (8 + 2) = c 10 from c10] at q2 ⊢
        have := F4 i k q1 q2 q3 q4
        rw [F2, nI_toInt (by omega)] at this
        rw [C11, nI_toInt (by omega)]
        have : (c 10 (i * 14 + 1)).toInt < (F : Int) := this
        omega
      · intro f hf
        have hC3 : ∀ j, C 3 j = s2 (s2 c 3 (F * 2 + 0) p1) 3 (F * 2 + 1) p2 3 j := fun j => by rw [eC, s2_ne (show (3 : Nat) ≠ 1 by decide)]
        by_cases q : f = F
        · rw [q, hC3, hC3, s2_k (by omega), s2_at, s2_at]
          have x1 : M 3 F = p1 := by rw [eM, s2_ne (by decide), s2_ne (by decide), s2_at]
          have x2 : M 4 F = p2 := by rw [eM, s2_ne (by decide), s2_at]
          rw [x1, x2]
          exact ⟨rfl, rfl, lo, hi, lo2, hi2⟩
        · rw [hC3, hC3, s2_k (by omega), s2_k (by omega), s2_k (by omega), s2_k (by omega), (h3 f q).1, (h3 f q).2]
          exact F5 f (by omega)
      · rw [hc 4 (by decide) (by decide), hc 5 (by decide) (by decide), h0 68 (by decide), hm 41 (by decide) (by decide) (by decide)]; exact d5
      · rw [hc 8 (by decide) (by decide), m1]; exact d8
      · unfold zp at *; rw [show C (8 + 2) = c (8 + 2) from c10]; exact d10
      · rw [hc 0 (by decide) (by decide), h0 1 (by decide)]; exact d11
      · intro q
        obtain ⟨cu, rs, R, a1, a2, a3, a4, a5, a6, a7⟩ := d12 q
        have h11 := hc 11 (by decide) (by decide)
        exact ⟨cu, rs, R, by rw [h11]; exact a1, by rw [m1]; exact a2, by rw [h11]; exact a3, by rw [m1]; exact a4, by rw [h11]; exact a5, by rw [m1]; exact a6, a7.fx (Nat.le_succ F) (by omega) F2 C11 (hc _ (by decide) (by decide)) m1 h34⟩
      · obtain ⟨sz, nx, a1, a2, a3, a4, a5, a6⟩ := d13
        have h47 := hc 47 (by decide) (by decide)
        exact ⟨sz, nx, a1, a2, by rw [h47]; exact a3, by rw [h0 2 (by decide)]; exact a4, by rw [h47]; exact a5, fun j hj => (a6 j hj).fx (Nat.le_succ F) (by omega) F2 C11 (hc _ (by decide) (by decide)) (hc _ (by decide) (by decide)) m1 (hm _ (by decide) (by decide) (by decide)) h34⟩
      · rw [hc 52 (by decide) (by decide), h0 4 (by decide)]; exact d14
      · intro q
        obtain ⟨x, a1, a2⟩ := d15 q
        exact ⟨x, a1.of1 (fun k q => hc1 k (by omega)) (hc _ (by decide) (by decide)) c10, a2⟩
    refine INV.up ⟨na, cur, fl, ed, nm, Ra, key, fun q => ?_, fun q1 q2 => ?_⟩
    · rw [hc 17 (by decide) (by decide)] at q
      obtain ⟨x, a1, a2⟩ := hA q
      exact ⟨x, a1.of1 (fun k q => hc1 k (by omega)) (hc _ (by decide) (by decide)) c10, a2.of (hc _ (by decide) (by decide)) (by rw [hc _ (by decide) (by decide)]) (hc _ (by decide) (by decide))⟩
    · rw [hc 27 (by decide) (by decide)] at q2
      obtain ⟨x, a1, a2⟩ := hM q1 q2
      exact ⟨x, a1.of1 (fun k q => hc1 k (by omega)) (hc _ (by decide) (by decide)) (hc _ (by decide) (by decide)), a2.of (hc _ (by decide) (by decide)) (by rw [hc _ (by decide) (by decide)]) (hc _ (by decide) (by decide))⟩
