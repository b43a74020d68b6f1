/-! settings, fixes, the text -/

theorem wi {p a b : Int32} {a' b' : Int64} (ha : a'.toInt = a.toInt) (hb : b'.toInt = b.toInt) : (f_FL_within p a b = some 1 ∧ m_in p.toInt64 a' b' = some 1 ∧ a.toInt ≤ p.toInt ∧ p.toInt ≤ b.toInt) ∨ (f_FL_within p a b = some 0 ∧ m_in p.toInt64 a' b' = some 0) := by
  have key : (a' ≤ p.toInt64 ∧ p.toInt64 ≤ b') ↔ (a.toInt ≤ p.toInt ∧ p.toInt ≤ b.toInt) := by
    rw [Int64.le_iff_toInt_le, Int64.le_iff_toInt_le, tw, ha, hb]
  have key2 : (a ≤ p ∧ p ≤ b) ↔ (a.toInt ≤ p.toInt ∧ p.toInt ≤ b.toInt) := by
    rw [Int32.le_iff_toInt_le, Int32.le_iff_toInt_le]
  rw [within_e, in_e]
  by_cases h : a.toInt ≤ p.toInt ∧ p.toInt ≤ b.toInt
  · left
    rw [decide_eq_true (key.mpr h), decide_eq_true (key2.mpr h)]
    exact ⟨rfl, rfl, h⟩
  · right
    rw [decide_eq_false (fun q => h (key.mp q)), decide_eq_false (fun q => h (key2.mp q))]
    exact ⟨rfl, rfl⟩
theorem LegR.fx {c m c' m' : St} {q P i F n : Nat} {R : Int} (h : LegR c m q P R i) (hF : F ≤ 16) (hc : c 1 1 = nI F) (hB : FB c q n) (hi : i < n) (h1 : c' (q + 2) = c (q + 2)) (h3 : m' 1 = m 1) (h4 : ∀ f, f < F → m' 3 f = m 3 f ∧ m' 4 f = m 4 f) : LegR c' m' q P R i := by
  obtain ⟨⟨k, k1, k2, k3, k4, k5, k6⟩, hr⟩ := h
  unfold LegR
  rw [h1, h3]
  refine ⟨⟨k, k1, k2, k3, fun hx => ?_, k5, k6⟩, hr⟩
  obtain ⟨f, G, f1, f2, f3, f4, f5, f6⟩ := k4 hx
  have := hB i k hi k2 k1 hx
  rw [f4, hc, nI_toInt (by omega), nI_toInt (by omega)] at this
  obtain ⟨e1, e2⟩ := h4 f (by omega)
  refine ⟨f, G, f1, f2, f3, f4, f5, ?_⟩
  rw [e1, e2]
  exact f6
theorem MP.fx {t : Nat} {c m c' m' : St} {q P n cu rs cur fl F F' : Nat} {R : Int} (h : MP t c m q P n cu rs R cur fl) (hF : F ≤ F') (hF' : F' ≤ 16) (hc : c 1 1 = nI F) (hc' : c' 1 1 = nI F') (h1 : c' (q + 2) = c (q + 2)) (h3 : m' 1 = m 1) (h4 : ∀ f, f < F → m' 3 f = m 3 f ∧ m' 4 f = m 4 f) : MP t c' m' q P n cu rs R cur fl := by
  obtain ⟨a1, a2, a3, ⟨a4, a5⟩, a6⟩ := h
  refine ⟨a1, a2, fun i hi => (a3 i hi).fx (by omega) hc a5 hi h1 h3 h4, ⟨a4, fun i k p1 p2 p3 p4 => ?_⟩, ?_⟩
  · rw [h1] at p2
    have := a5 i k p1 p2 p3 p4
    rw [hc, nI_toInt (by omega)] at this
    rw [h1, hc', nI_toInt (by omega)]
    omega
  · unfold zp at *
    rw [h1]
    exact a6
theorem HE.fx {t : Nat} {c m c' m' : St} {cur fl s j F F' : Nat} (h : HE t c m cur fl s j) (hF : F ≤ F') (hF' : F' ≤ 16) (hc : c 1 1 = nI F) (hc' : c' 1 1 = nI F') (h1 : c' 49 = c 49) (h2 : c' 51 = c 51) (m1 : m' 1 = m 1) (m2 : m' 2 = m 2) (h4 : ∀ f, f < F → m' 3 f = m 3 f ∧ m' 4 f = m 4 f) : HE t c' m' cur fl s j := by
  obtain ⟨e, a1, a2, a3, a4⟩ := h
  refine ⟨e, a1, by rw [h1]; exact a2, by rw [m2]; exact a3, fun q => ?_⟩
  obtain ⟨n, cu, rs, R, b1, b2, b3, b4, b5, b6, b7⟩ := a4 q
  refine ⟨n, cu, rs, R, by rw [h1]; exact b1, by rw [m1]; exact b2, by rw [h1]; exact b3, by rw [m1]; exact b4, by rw [h1]; exact b5, by rw [m1]; exact b6, b7.fx hF hF' (c := vw c s) (c' := vw c' s) hc hc' ?_ m1 h4⟩
  funext k
  unfold vw
  rw [if_pos rfl, if_pos rfl, h2]
theorem set_lock {t na cur fl ed nm : Nat} {Ra : Int} {c m c1 m1 : St} (ht : t ≤ 511) (hB : IB t c m na cur fl ed nm Ra) (hD : Dm c1) (hS : SetR c1 m1) (hc : ∀ a, a ≠ 1 → c1 a = c a) (hc1 : c1 1 1 = c 1 1) (hm : ∀ a, a ≠ 0 → m1 a = m a) (h0 : ∀ k, k < 8 ∨ 16 < k → m1 0 k = m 0 k) : ∃ c' m', f_FL_afterSetting c1 = some c' ∧ m_clamps m1 = some m' ∧ INV t c' m' := by
  obtain ⟨d1, d2, d3, d4, d5, d6, d7, d8, d9, d10, d11, d12, d13, d14, d15⟩ := hB
  have m3 := hm 3 (by decide)
  have m4 := hm 4 (by decide)
  obtain ⟨F, F1, F2, F3, F4, F5⟩ := d4
  have key : ∃ c' m', f_FL_afterSetting c1 = some c' ∧ m_clamps m1 = some m' ∧ INV t c' m' ∧ c' 8 = c1 8 ∧ m' 1 = m1 1 := by
    refine after_lock (ed := ed) (nm := nm) (by omega) hD (d2.of (hm _ (by decide)) (hm _ (by decide)) (hm _ (by decide))) hS ⟨F, F1, by rw [hc1]; exact F2, by rw [h0 7 (by decide)]; exact F3, F4.of (hc _ (by decide)) hc1, ?_⟩ ?_ (d6.of1 (hc _ (by decide)) (hc _ (by decide)) (hm _ (by decide)) m3 m4) d7 ?_ d9 ?_ ?_ ?_ ?_ ?_
    · rw [hc 3 (by decide), m3, m4]; exact F5
    · rw [hc 4 (by decide), hc 5 (by decide), h0 68 (by decide), hm 41 (by decide)]; exact d5
    · rw [hc 8 (by decide), hm 1 (by decide)]; exact d8
    · unfold zp at *; rw [hc 10 (by decide)]; exact d10
    · rw [hc 0 (by decide), h0 1 (by decide)]; exact d11
    · intro q
      obtain ⟨cu, rs, R, b1, b2, b3, b4, b5, b6, b7⟩ := d12 q
      exact ⟨cu, rs, R, by rw [hc 11 (by decide)]; exact b1, by rw [hm 1 (by decide)]; exact b2, by rw [hc 11 (by decide)]; exact b3, by rw [hm 1 (by decide)]; exact b4, by rw [hc 11 (by decide)]; exact b5, by rw [hm 1 (by decide)]; exact b6, b7.of (hc _ (by decide)) hc1 (hm _ (by decide)) m3 m4⟩
    · obtain ⟨sz, nx, a1, a2, a3, a4, a5, a6⟩ := d13
      exact ⟨sz, nx, a1, a2, by rw [hc 47 (by decide)]; exact a3, by rw [h0 2 (by decide)]; exact a4, by rw [hc 47 (by decide)]; exact a5, fun j hj => (a6 j hj).fx (Nat.le_refl _) F1 F2 (by rw [hc1]; exact F2) (hc _ (by decide)) (hc _ (by decide)) (hm _ (by decide)) (hm _ (by decide)) (fun f _ => ⟨by rw [m3], by rw [m4]⟩)⟩
    · rw [hc 52 (by decide), h0 4 (by decide)]; exact d14
  obtain ⟨c', m', e1, e2, e3, -⟩ := key
  exact ⟨c', m', e1, e2, e3⟩
theorem k_setWind {t : Nat} {c m : St} (ht : t ≤ 511) (h : INV t c m) (p1 p2 : Int32) : AQ t (f_FL_setWind c p1 p2) (m_setWind m p1 p2) := by
  obtain ⟨na, cur, fl, ed, nm, Ra, hB, hA, hM⟩ := h
  have hi : INV (t + 1) c m := INV.up ⟨na, cur, fl, ed, nm, Ra, hB, hA, hM⟩
  unfold f_FL_setWind m_setWind
  simp only [Jn_e]
  rcases wi (p := p1) (a := (-99 : Int32)) (b := 99) (a' := (-99 : Int64)) (b' := 99) (by decide) (by decide) with ⟨a0, b0, l0, u0⟩ | ⟨a0, b0⟩
  rotate_left
  · rw [bd_e a0, bd_e b0, if_pos rfl, if_pos rfl]
    exact ⟨_, c, m, rfl, rfl, hi⟩
  rw [bd_e a0, bd_e b0, if_neg n10, if_neg n10]
  rcases wi (p := p2) (a := (-99 : Int32)) (b := 99) (a' := (-99 : Int64)) (b' := 99) (by decide) (by decide) with ⟨a1, b1, l1, u1⟩ | ⟨a1, b1⟩
  rotate_left
  · rw [bd_e a1, bd_e b1, if_pos rfl, if_pos rfl]
    exact ⟨_, c, m, rfl, rfl, hi⟩
  rw [bd_e a1, bd_e b1, if_neg n10, if_neg n10]
  obtain ⟨C, eC⟩ : ∃ C, C = s2 (s2 c 1 2 p1) 1 3 p2 := ⟨_, rfl⟩
  obtain ⟨M, eM⟩ : ∃ M, M = s2 (s2 m 0 8 p1) 0 9 p2 := ⟨_, rfl⟩
  have hD : Dm C := by rw [eC]; exact ((hB.D.s2 (by decide)).s2 (by decide))
  have hS : SetR C M := by
    have hs := hB.S
    unfold SetR at hs ⊢
    rw [eC, eM]
    simp only [s2, true_and]
    simp (decide := true) only [if_true, if_false, and_true, true_and]
    obtain ⟨-, z2, z3, z4, z5, z6, z7, z8, z9, z10⟩ := hs
    try rw [show ((-99 : Int32)).toInt = -99 by decide] at *
    exact ⟨⟨l0, u0⟩, ⟨l1, u1⟩, z4, z5, z6, z7, z8, z9, z10⟩
  obtain ⟨c', m', e1, e2, e3⟩ := set_lock ht hB hD hS (fun a p => by rw [eC]; simp only [s2_ne p]) (by rw [eC, s2_k (by decide), s2_k (by decide)]) (fun a p => by rw [eM]; simp only [s2_ne p]) (fun k p => by rw [eM, s2_k (by omega), s2_k (by omega)])
  simp only [Lt_e]
  rw [← eC, ← eM, bd_e e1, bd_e e2]
  exact ⟨_, c', m', rfl, rfl, e3.up⟩
theorem k_setCruise {t : Nat} {c m : St} (ht : t ≤ 511) (h : INV t c m) (p1 p2 : Int32) : AQ t (f_FL_setCruise c p1 p2) (m_setCruise m p1 p2) := by
  obtain ⟨na, cur, fl, ed, nm, Ra, hB, hA, hM⟩ := h
  have hi : INV (t + 1) c m := INV.up ⟨na, cur, fl, ed, nm, Ra, hB, hA, hM⟩
  unfold f_FL_setCruise m_setCruise
  simp only [Jn_e]
  rcases wi (p := p1) (a := 10) (b := 450) (a' := 10) (b' := 450) (by decide) (by decide) with ⟨a0, b0, l0, u0⟩ | ⟨a0, b0⟩
  rotate_left
  · rw [bd_e a0, bd_e b0, if_pos rfl, if_pos rfl]
    exact ⟨_, c, m, rfl, rfl, hi⟩
  rw [bd_e a0, bd_e b0, if_neg n10, if_neg n10]
  rcases wi (p := p2) (a := 100) (b := 500) (a' := 100) (b' := 500) (by decide) (by decide) with ⟨a1, b1, l1, u1⟩ | ⟨a1, b1⟩
  rotate_left
  · rw [bd_e a1, bd_e b1, if_pos rfl, if_pos rfl]
    exact ⟨_, c, m, rfl, rfl, hi⟩
  rw [bd_e a1, bd_e b1, if_neg n10, if_neg n10]
  obtain ⟨C, eC⟩ : ∃ C, C = s2 (s2 c 1 4 p1) 1 5 p2 := ⟨_, rfl⟩
  obtain ⟨M, eM⟩ : ∃ M, M = s2 (s2 m 0 10 p1) 0 11 p2 := ⟨_, rfl⟩
  have hD : Dm C := by rw [eC]; exact ((hB.D.s2 (by decide)).s2 (by decide))
  have hS : SetR C M := by
    have hs := hB.S
    unfold SetR at hs ⊢
    rw [eC, eM]
    simp only [s2, true_and]
    simp (decide := true) only [if_true, if_false, and_true, true_and]
    obtain ⟨-, z2, z3, z4, z5, z6, z7, z8, z9, z10⟩ := hs
    try rw [show ((-99 : Int32)).toInt = -99 by decide] at *
    exact ⟨z2, z3, ⟨l0, u0⟩, ⟨l1, u1⟩, z6, z7, z8, z9, z10⟩
  obtain ⟨c', m', e1, e2, e3⟩ := set_lock ht hB hD hS (fun a p => by rw [eC]; simp only [s2_ne p]) (by rw [eC, s2_k (by decide), s2_k (by decide)]) (fun a p => by rw [eM]; simp only [s2_ne p]) (fun k p => by rw [eM, s2_k (by omega), s2_k (by omega)])
  have eo : c 1 4 = m 0 10 := hB.S.2.2.2.1.1
  simp only [Lt_e]
  rw [← eC, ← eM, bd_e e1, bd_e e2, eo]
  exact ⟨_, c', m', rfl, rfl, e3.up⟩
theorem k_setGradients {t : Nat} {c m : St} (ht : t ≤ 511) (h : INV t c m) (p1 p2 p3 : Int32) : AQ t (f_FL_setGradients c p1 p2 p3) (m_setGradients m p1 p2 p3) := by
  obtain ⟨na, cur, fl, ed, nm, Ra, hB, hA, hM⟩ := h
  have hi : INV (t + 1) c m := INV.up ⟨na, cur, fl, ed, nm, Ra, hB, hA, hM⟩
  unfold f_FL_setGradients m_setGradients
  simp only [Jn_e]
  rcases wi (p := p1) (a := 100) (b := 900) (a' := 100) (b' := 900) (by decide) (by decide) with ⟨a0, b0, l0, u0⟩ | ⟨a0, b0⟩
  rotate_left
  · rw [bd_e (show f_FL_isGradient p1 = some 0 by unfold f_FL_isGradient; rw [bd_e a0]; exact Gd_t (by decide)), bd_e b0, if_pos rfl, if_pos rfl]
    exact ⟨_, c, m, rfl, rfl, hi⟩
  rw [bd_e (show f_FL_isGradient p1 = some 1 by unfold f_FL_isGradient; rw [bd_e a0]; exact Gd_t (by decide)), bd_e b0, if_neg n10, if_neg n10]
  rcases wi (p := p2) (a := 100) (b := 900) (a' := 100) (b' := 900) (by decide) (by decide) with ⟨a1, b1, l1, u1⟩ | ⟨a1, b1⟩
  rotate_left
  · rw [bd_e (show f_FL_isGradient p2 = some 0 by unfold f_FL_isGradient; rw [bd_e a1]; exact Gd_t (by decide)), bd_e b1, if_pos rfl, if_pos rfl]
    exact ⟨_, c, m, rfl, rfl, hi⟩
  rw [bd_e (show f_FL_isGradient p2 = some 1 by unfold f_FL_isGradient; rw [bd_e a1]; exact Gd_t (by decide)), bd_e b1, if_neg n10, if_neg n10]
  rcases wi (p := p3) (a := 100) (b := 900) (a' := 100) (b' := 900) (by decide) (by decide) with ⟨a2, b2, l2, u2⟩ | ⟨a2, b2⟩
  rotate_left
  · rw [bd_e (show f_FL_isGradient p3 = some 0 by unfold f_FL_isGradient; rw [bd_e a2]; exact Gd_t (by decide)), bd_e b2, if_pos rfl, if_pos rfl]
    exact ⟨_, c, m, rfl, rfl, hi⟩
  rw [bd_e (show f_FL_isGradient p3 = some 1 by unfold f_FL_isGradient; rw [bd_e a2]; exact Gd_t (by decide)), bd_e b2, if_neg n10, if_neg n10]
  obtain ⟨C, eC⟩ : ∃ C, C = s2 (s2 (s2 c 1 6 p1) 1 7 p2) 1 8 p3 := ⟨_, rfl⟩
  obtain ⟨M, eM⟩ : ∃ M, M = s2 (s2 (s2 m 0 12 p1) 0 13 p2) 0 14 p3 := ⟨_, rfl⟩
  have hD : Dm C := by rw [eC]; exact (((hB.D.s2 (by decide)).s2 (by decide)).s2 (by decide))
  have hS : SetR C M := by
    have hs := hB.S
    unfold SetR at hs ⊢
    rw [eC, eM]
    simp only [s2, true_and]
    simp (decide := true) only [if_true, if_false, and_true, true_and]
    obtain ⟨-, z2, z3, z4, z5, z6, z7, z8, z9, z10⟩ := hs
    try rw [show ((-99 : Int32)).toInt = -99 by decide] at *
    exact ⟨z2, z3, z4, z5, ⟨l0, u0⟩, ⟨l1, u1⟩, ⟨l2, u2⟩, z9, z10⟩
  obtain ⟨c', m', e1, e2, e3⟩ := set_lock ht hB hD hS (fun a p => by rw [eC]; simp only [s2_ne p]) (by rw [eC, s2_k (by decide), s2_k (by decide), s2_k (by decide)]) (fun a p => by rw [eM]; simp only [s2_ne p]) (fun k p => by rw [eM, s2_k (by omega), s2_k (by omega), s2_k (by omega)])
  have eo : c 1 6 = m 0 12 := hB.S.2.2.2.2.2.1.1
  simp only [Lt_e]
  rw [← eC, ← eM, bd_e e1, bd_e e2, eo]
  exact ⟨_, c', m', rfl, rfl, e3.up⟩
theorem k_setEnds {t : Nat} {c m : St} (ht : t ≤ 511) (h : INV t c m) (p1 p2 : Int32) : AQ t (f_FL_setEnds c p1 p2) (m_setEnds m p1 p2) := by
  obtain ⟨na, cur, fl, ed, nm, Ra, hB, hA, hM⟩ := h
  have hi : INV (t + 1) c m := INV.up ⟨na, cur, fl, ed, nm, Ra, hB, hA, hM⟩
  unfold f_FL_setEnds m_setEnds
  simp only [Jn_e]
  rcases wi (p := p1) (a := 0) (b := 450) (a' := 0) (b' := 450) (by decide) (by decide) with ⟨a0, b0, l0, u0⟩ | ⟨a0, b0⟩
  rotate_left
  · rw [bd_e a0, bd_e b0, if_pos rfl, if_pos rfl]
    exact ⟨_, c, m, rfl, rfl, hi⟩
  rw [bd_e a0, bd_e b0, if_neg n10, if_neg n10]
  rcases wi (p := p2) (a := 0) (b := 450) (a' := 0) (b' := 450) (by decide) (by decide) with ⟨a1, b1, l1, u1⟩ | ⟨a1, b1⟩
  rotate_left
  · rw [bd_e a1, bd_e b1, if_pos rfl, if_pos rfl]
    exact ⟨_, c, m, rfl, rfl, hi⟩
  rw [bd_e a1, bd_e b1, if_neg n10, if_neg n10]
  obtain ⟨C, eC⟩ : ∃ C, C = s2 (s2 c 1 9 p1) 1 10 p2 := ⟨_, rfl⟩
  obtain ⟨M, eM⟩ : ∃ M, M = s2 (s2 m 0 15 p1) 0 16 p2 := ⟨_, rfl⟩
  have hD : Dm C := by rw [eC]; exact ((hB.D.s2 (by decide)).s2 (by decide))
  have hS : SetR C M := by
    have hs := hB.S
    unfold SetR at hs ⊢
    rw [eC, eM]
    simp only [s2, true_and]
    simp (decide := true) only [if_true, if_false, and_true, true_and]
    obtain ⟨-, z2, z3, z4, z5, z6, z7, z8, z9, z10⟩ := hs
    try rw [show ((-99 : Int32)).toInt = -99 by decide] at *
    exact ⟨z2, z3, z4, z5, z6, z7, z8, ⟨l0, u0⟩, ⟨l1, u1⟩⟩
  obtain ⟨c', m', e1, e2, e3⟩ := set_lock ht hB hD hS (fun a p => by rw [eC]; simp only [s2_ne p]) (by rw [eC, s2_k (by decide), s2_k (by decide)]) (fun a p => by rw [eM]; simp only [s2_ne p]) (fun k p => by rw [eM, s2_k (by omega), s2_k (by omega)])
  have eo : c 1 9 = m 0 15 := hB.S.2.2.2.2.2.2.2.2.1.1
  simp only [Lt_e]
  rw [← eC, ← eM, bd_e e1, bd_e e2, eo]
  exact ⟨_, c', m', rfl, rfl, e3.up⟩
