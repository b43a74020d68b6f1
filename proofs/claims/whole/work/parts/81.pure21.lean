/-! points between points; a piece more, on both sides -/

/-- the point a stretch before b on the way from a to b -/
def bf (a b s l : Int32) : Int32 := if l = 0 then b else if s ≤ l then Int64.toInt32 (b.toInt64 + (((a.toInt64 - b.toInt64) * s.toInt64) / l.toInt64)) else a
theorem bf_c (a b s l : Int32) : f_Cm_before a b s l = some (bf a b s l) := by
  unfold f_Cm_before bf
  by_cases h : l = 0
  · rw [if_pos h, if_pos h]
  · rw [if_neg h, if_neg h]
    by_cases h1 : s ≤ l
    · rw [if_pos h1, if_pos h1, Gd_t]
      intro q
      have := congrArg Int64.toInt q
      rw [tw] at this
      exact h (i2 this)
    · rw [if_neg h1, if_neg h1]
theorem bf_m (a b s l : Int32) : m_before a b s l = some (bf a b s l) := by rw [before_e]; exact bf_c a b s l
/-- the number of such a point -/
theorem bf_v {a b s l : Int32} {W : Int} (hW : W ≤ 20000000) (ha : -W ≤ a.toInt ∧ a.toInt ≤ W) (hb : -W ≤ b.toInt ∧ b.toInt ≤ W) (hl : 1 ≤ l.toInt) (hs : 0 ≤ s.toInt) (hsl : s.toInt ≤ l.toInt) (hl2 : l.toInt ≤ 20000000) : (bf a b s l).toInt = b.toInt + ((a.toInt - b.toInt) * s.toInt).tdiv l.toInt := by
  have h0 : ¬ l = 0 := fun q => by rw [q] at hl; revert hl; decide
  have mm := mulb (a := a.toInt - b.toInt) (b := s.toInt) (A := 40000000) (B := 20000000) (by omega) (by omega) (by omega) (by omega)
  have d1 : (a.toInt64 - b.toInt64).toInt = a.toInt - b.toInt := by rw [tL_sub (by rw [tw, tw]; omega) (by rw [tw, tw]; omega), tw, tw]
  have d2 : ((a.toInt64 - b.toInt64) * s.toInt64).toInt = (a.toInt - b.toInt) * s.toInt := by rw [tL_mul (by rw [d1, tw]; omega) (by rw [d1, tw]; omega), d1, tw]
  have d3 : (((a.toInt64 - b.toInt64) * s.toInt64) / l.toInt64).toInt = ((a.toInt - b.toInt) * s.toInt).tdiv l.toInt := by rw [tL_div (tw l) (by omega), d2]
  have hq : -40000000 ≤ ((a.toInt - b.toInt) * s.toInt).tdiv l.toInt ∧ ((a.toInt - b.toInt) * s.toInt).tdiv l.toInt ≤ 40000000 := by
    have key : ∀ x : Int, 0 ≤ x → x ≤ 40000000 → 0 ≤ (x * s.toInt).tdiv l.toInt ∧ (x * s.toInt).tdiv l.toInt ≤ 40000000 := fun x x0 x1 => by
      have p0 : 0 ≤ x * s.toInt := Int.mul_nonneg x0 hs
      rw [td_pos p0]
      refine ⟨Int.ediv_nonneg p0 (by omega), Int.ediv_le_of_le_mul (by omega) ?_⟩
      have h1 : x * s.toInt ≤ 40000000 * s.toInt := Int.mul_le_mul_of_nonneg_right x1 hs
      have h2 : 40000000 * s.toInt ≤ 40000000 * l.toInt := Int.mul_le_mul_of_nonneg_left hsl (by decide)
      omega
    rcases Int.lt_or_le (a.toInt - b.toInt) 0 with h | h
    · have := key (-(a.toInt - b.toInt)) (by omega) (by omega)
      rw [Int.neg_mul, Int.neg_tdiv] at this
      omega
    · have := key (a.toInt - b.toInt) h (by omega)
      omega
  have d4 : (b.toInt64 + (((a.toInt64 - b.toInt64) * s.toInt64) / l.toInt64)).toInt = b.toInt + ((a.toInt - b.toInt) * s.toInt).tdiv l.toInt := by rw [tL_add (by rw [tw, d3]; omega) (by rw [tw, d3]; omega), tw, d3]
  unfold bf
  rw [if_neg h0, if_pos (Int32.le_iff_toInt_le.mpr hsl), tn (by rw [d4]; omega) (by rw [d4]; omega), d4]
theorem td_rem {x l : Int} (hl : 1 ≤ l) : ∃ ρ : Int, l * x.tdiv l = x - ρ ∧ -l < ρ ∧ ρ < l := by
  refine ⟨x.tmod l, ?_, ?_, ?_⟩
  · have := Int.mul_tdiv_add_tmod x l
    omega
  · have := Int.tmod_lt_of_pos (-x) (show 0 < l by omega)
    rw [Int.neg_tmod] at this
    omega
  · exact Int.tmod_lt_of_pos x (by omega)
theorem scl {k x y W : Int} (h : x * x + y * y ≤ W * W) : (k * x) * (k * x) + (k * y) * (k * y) ≤ (k * W) * (k * W) := by
  have e1 : (k * x) * (k * x) + (k * y) * (k * y) = (k * k) * (x * x + y * y) := by grind
  have e2 : (k * W) * (k * W) = (k * k) * (W * W) := by grind
  rw [e1, e2]
  exact Int.mul_le_mul_of_nonneg_left h (sqn k)
/-- a point between two points, cut to whole numbers -/
theorem btw {a a' b b' s l W : Int} (hW : 0 ≤ W) (h1 : a * a + a' * a' ≤ W * W) (h2 : b * b + b' * b' ≤ W * W) (hl : 1 ≤ l) (hs : 0 ≤ s) (hsl : s ≤ l) : (b + ((a - b) * s).tdiv l) * (b + ((a - b) * s).tdiv l) + (b' + ((a' - b') * s).tdiv l) * (b' + ((a' - b') * s).tdiv l) ≤ (W + 2) * (W + 2) := by
  obtain ⟨p, p1, p2, p3⟩ := td_rem (x := (a - b) * s) hl
  obtain ⟨q, q1, q2, q3⟩ := td_rem (x := (a' - b') * s) hl
  generalize ((a - b) * s).tdiv l = u at *
  generalize ((a' - b') * s).tdiv l = v at *
  have t1 := tri (x := (l - s) * b) (y := (l - s) * b') (u := s * a) (v := s * a') (R := (l - s) * W) (L := s * W) (Int.mul_nonneg (by omega) hW) (Int.mul_nonneg hs hW) (scl h2) (scl h1)
  have eW : (l - s) * W + s * W = l * W := by grind
  rw [eW] at t1
  have t2 := tri (x := (l - s) * b + s * a) (y := (l - s) * b' + s * a') (u := -p) (v := -q) (R := l * W) (L := 2 * l) (Int.mul_nonneg (by omega) hW) (by omega) t1 (by
    have a1 := sq_le (a := p.natAbs) (b := l) (by omega) (by omega)
    have a2 := sq_le (a := q.natAbs) (b := l) (by omega) (by omega)
    have e1 : (p.natAbs : Int) * p.natAbs = p * p := Int.natAbs_mul_self' p
    have e2 : (q.natAbs : Int) * q.natAbs = q * q := Int.natAbs_mul_self' q
    have e3 : (2 * l) * (2 * l) = 4 * (l * l) := by grind
    have e4 := sqn l
    rw [e3, Int.neg_mul_neg, Int.neg_mul_neg]
    omega)
  have x1 : (l - s) * b + s * a + -p = l * (b + u) := by
    have : l * (b + u) = l * b + l * u := by grind
    rw [this, p1]
    grind
  have x2 : (l - s) * b' + s * a' + -q = l * (b' + v) := by
    have : l * (b' + v) = l * b' + l * v := by grind
    rw [this, q1]
    grind
  rw [x1, x2, show l * W + 2 * l = l * (W + 2) by grind] at t2
  have e1 : (l * (b + u)) * (l * (b + u)) + (l * (b' + v)) * (l * (b' + v)) = (l * l) * ((b + u) * (b + u) + (b' + v) * (b' + v)) := by grind
  have e2 : (l * (W + 2)) * (l * (W + 2)) = (l * l) * ((W + 2) * (W + 2)) := by grind
  rw [e1, e2] at t2
  exact Int.le_of_mul_le_mul_left t2 (Int.mul_pos (by omega) (by omega))
theorem bf_nb {a a' b b' s l : Int32} {W : Int} (hW : W ≤ 20000000) (ha : Nb W a a') (hb : Nb W b b') (hl : 1 ≤ l.toInt) (hs : 0 ≤ s.toInt) (hl2 : l.toInt ≤ 20000000) : Nb (W + 2) (bf a b s l) (bf a' b' s l) := by
  have h0 := ha.1
  rcases Int.lt_or_le l.toInt s.toInt with h | h
  · have hz : ¬ l = 0 := fun q => by rw [q] at hl; revert hl; decide
    have hn : ¬ s ≤ l := fun q => by have := Int32.le_iff_toInt_le.mp q; omega
    unfold bf
    rw [if_neg hz, if_neg hn, if_neg hz, if_neg hn]
    exact ha.le (by omega)
  · refine ⟨by omega, ?_⟩
    rw [bf_v hW ha.ab.1 hb.ab.1 hl hs h hl2, bf_v hW ha.ab.2 hb.ab.2 hl hs h hl2]
    exact btw h0 ha.2 hb.2 hl hs h
/-- such a point is no farther from b than a is, and two more -/
theorem bf_d {a a' b b' s l : Int32} {W D : Int} (hW : W ≤ 20000000) (ha : Nb W a a') (hb : Nb W b b') (hl : 1 ≤ l.toInt) (hs : 0 ≤ s.toInt) (hsl : s.toInt ≤ l.toInt) (hl2 : l.toInt ≤ 20000000) (hD : 0 ≤ D) (hd : dsq a a' b b' ≤ D * D) : dsq b b' (bf a b s l) (bf a' b' s l) ≤ (D + 2) * (D + 2) := by
  have e := btw (a := a.toInt - b.toInt) (a' := a'.toInt - b'.toInt) (b := 0) (b' := 0) (s := s.toInt) (l := l.toInt) (W := D) hD (by rw [dsq_comm] at hd; unfold dsq at hd; exact hd) (by have := sqn D; omega) hl hs hsl
  unfold dsq
  rw [bf_v hW ha.ab.1 hb.ab.1 hl hs hsl hl2, bf_v hW ha.ab.2 hb.ab.2 hl hs hsl hl2, show ∀ p q : Int, p + q - p = q from fun p q => by omega, show ∀ p q : Int, p + q - p = q from fun p q => by omega]
  rw [Int.zero_add, Int.zero_add, Int.sub_zero, Int.sub_zero] at e
  exact e
def PQ (c m : St) (b : Nat) (R : Int) (k : Nat) : Prop :=
  (∀ j, j < 8 → c (b + 8) (k * 8 + j) = m (29 + j) k) ∧
  (∃ l : Nat, 1 ≤ l ∧ l ≤ 5965232 ∧ m 31 k = nI l) ∧
  (∃ v : Nat, v < 24 ∧ m 32 k = nI v) ∧
  (Nb (R + 400) (m 33 k) (m 34 k)) ∧
  (Nb (R + 400) (m 35 k) (m 36 k))
theorem PQ.row {c m : St} {b : Nat} {R : Int} {k : Nat} (h : PQ c m b R k) : ∀ j, j < 8 → c (b + 8) (k * 8 + j) = m (29 + j) k := h.1
theorem PQ.len {c m : St} {b : Nat} {R : Int} {k : Nat} (h : PQ c m b R k) : ∃ l : Nat, 1 ≤ l ∧ l ≤ 5965232 ∧ m 31 k = nI l := h.2.1
theorem PQ.crs {c m : St} {b : Nat} {R : Int} {k : Nat} (h : PQ c m b R k) : ∃ v : Nat, v < 24 ∧ m 32 k = nI v := h.2.2.1
theorem PQ.n1 {c m : St} {b : Nat} {R : Int} {k : Nat} (h : PQ c m b R k) : Nb (R + 400) (m 33 k) (m 34 k) := h.2.2.2.1
theorem PQ.n2 {c m : St} {b : Nat} {R : Int} {k : Nat} (h : PQ c m b R k) : Nb (R + 400) (m 35 k) (m 36 k) := h.2.2.2.2
def PcR (c m : St) (b : Nat) (R : Int) (p : Nat) : Prop :=
  (c (b + 6) 5 = nI p) ∧
  (m 0 57 = nI p) ∧
  (∀ k, k < p → PQ c m b R k)
theorem PcR.cc {c m : St} {b : Nat} {R : Int} {p : Nat} (h : PcR c m b R p) : c (b + 6) 5 = nI p := h.1
theorem PcR.cm {c m : St} {b : Nat} {R : Int} {p : Nat} (h : PcR c m b R p) : m 0 57 = nI p := h.2.1
theorem PcR.row {c m : St} {b : Nat} {R : Int} {p : Nat} (h : PcR c m b R p) : ∀ k, k < p → PQ c m b R k := h.2.2
def XY (c m : St) (b : Nat) (R : Int) : Prop :=
  (c (b + 6) 7 = m 0 58) ∧
  (c (b + 6) 8 = m 0 59) ∧
  (Nb (R + 400) (m 0 58) (m 0 59))
theorem XY.x {c m : St} {b : Nat} {R : Int} (h : XY c m b R) : c (b + 6) 7 = m 0 58 := h.1
theorem XY.y {c m : St} {b : Nat} {R : Int} (h : XY c m b R) : c (b + 6) 8 = m 0 59 := h.2.1
theorem XY.nb {c m : St} {b : Nat} {R : Int} (h : XY c m b R) : Nb (R + 400) (m 0 58) (m 0 59) := h.2.2
def PS (c m c' m' : St) (b : Nat) (R : Int) (p p' g : Nat) : Prop :=
  (p ≤ p') ∧
  (PcR c' m' b R p') ∧
  (XY c' m' b R) ∧
  (∀ a, a ≠ b + 6 → a ≠ b + 8 → c' a = c a) ∧
  (c' (b + 6) 6 = c (b + 6) 6) ∧
  (∀ a, a ≠ 0 → (a < 29 ∨ 36 < a) → m' a = m a) ∧
  (∀ k, (k < 57 ∨ 59 < k) → m' 0 k = m 0 k) ∧
  (∀ k, p ≤ k → k < p' → m' 29 k = nI g) ∧
  (∀ k, k < p → ∀ a, 29 ≤ a → a ≤ 36 → m' a k = m a k)
theorem PS.le {c m c' m' : St} {b : Nat} {R : Int} {p p' g : Nat} (h : PS c m c' m' b R p p' g) : p ≤ p' := h.1
theorem PS.pr {c m c' m' : St} {b : Nat} {R : Int} {p p' g : Nat} (h : PS c m c' m' b R p p' g) : PcR c' m' b R p' := h.2.1
theorem PS.xy {c m c' m' : St} {b : Nat} {R : Int} {p p' g : Nat} (h : PS c m c' m' b R p p' g) : XY c' m' b R := h.2.2.1
theorem PS.fc {c m c' m' : St} {b : Nat} {R : Int} {p p' g : Nat} (h : PS c m c' m' b R p p' g) : ∀ a, a ≠ b + 6 → a ≠ b + 8 → c' a = c a := h.2.2.2.1
theorem PS.f6 {c m c' m' : St} {b : Nat} {R : Int} {p p' g : Nat} (h : PS c m c' m' b R p p' g) : c' (b + 6) 6 = c (b + 6) 6 := h.2.2.2.2.1
theorem PS.fm {c m c' m' : St} {b : Nat} {R : Int} {p p' g : Nat} (h : PS c m c' m' b R p p' g) : ∀ a, a ≠ 0 → (a < 29 ∨ 36 < a) → m' a = m a := h.2.2.2.2.2.1
theorem PS.f0 {c m c' m' : St} {b : Nat} {R : Int} {p p' g : Nat} (h : PS c m c' m' b R p p' g) : ∀ k, (k < 57 ∨ 59 < k) → m' 0 k = m 0 k := h.2.2.2.2.2.2.1
theorem PS.nw {c m c' m' : St} {b : Nat} {R : Int} {p p' g : Nat} (h : PS c m c' m' b R p p' g) : ∀ k, p ≤ k → k < p' → m' 29 k = nI g := h.2.2.2.2.2.2.2.1
theorem PS.old {c m c' m' : St} {b : Nat} {R : Int} {p p' g : Nat} (h : PS c m c' m' b R p p' g) : ∀ k, k < p → ∀ a, 29 ≤ a → a ≤ 36 → m' a k = m a k := h.2.2.2.2.2.2.2.2

theorem PS.refl {c m : St} {b p g : Nat} {R : Int} (h : PcR c m b R p) (hx : XY c m b R) : PS c m c m b R p p g :=
  ⟨Nat.le_refl _, h, hx, fun _ _ _ => rfl, rfl, fun _ _ _ => rfl, fun _ _ => rfl, fun _ _ _ => by omega, fun _ _ _ _ _ => rfl⟩
theorem PS.trans {c m c1 m1 c2 m2 : St} {b p p1 p2 g : Nat} {R : Int} (h : PS c m c1 m1 b R p p1 g) (h' : PS c1 m1 c2 m2 b R p1 p2 g) : PS c m c2 m2 b R p p2 g := by
  have l1 := h.le
  have l2 := h'.le
  refine ⟨by omega, h'.pr, h'.xy, fun a q1 q2 => (h'.fc a q1 q2).trans (h.fc a q1 q2), h'.f6.trans h.f6, fun a q1 q2 => (h'.fm a q1 q2).trans (h.fm a q1 q2), fun k q => (h'.f0 k q).trans (h.f0 k q), fun k q1 q2 => ?_, fun k q a q1 q2 => (h'.old k (by omega) a q1 q2).trans (h.old k q a q1 q2)⟩
  by_cases e : k < p1
  · rw [h'.old k e 29 (by decide) (by decide)]
    exact h.nw k q1 e
  · exact h'.nw k (by omega) q2
def ap8 (c : St) (b p : Nat) (g k l v x y : Int32) : St :=
  s2 (s2 (s2 (s2 (s2 (s2 (s2 (s2 c (b + 8) (p * 8 + 0) g) (b + 8) (p * 8 + 1) k) (b + 8) (p * 8 + 2) l) (b + 8) (p * 8 + 3) v) (b + 8) (p * 8 + 4) (c (b + 6) 7)) (b + 8) (p * 8 + 5) (c (b + 6) 8)) (b + 8) (p * 8 + 6) x) (b + 8) (p * 8 + 7) y
def apc (c : St) (b p : Nat) (g k l v x y : Int32) : St := s2 (s2 (s2 (ap8 c b p g k l v x y) (b + 6) 5 (nI (p + 1))) (b + 6) 7 x) (b + 6) 8 y
def mp8 (m : St) (p : Nat) (g k l v x y : Int32) : St := s2 (s2 (s2 (s2 (s2 (s2 (s2 (s2 m 29 p g) 30 p k) 31 p l) 32 p v) 33 p (m 0 58)) 34 p (m 0 59)) 35 p x) 36 p y
def mpc (m : St) (p : Nat) (g k l v x y : Int32) : St := s2 (s2 (s2 (mp8 m p g k l v x y) 0 57 (nI (p + 1))) 0 58 x) 0 59 y
theorem pcp {c : St} {b q i j : Nat} {v : Int32} (hI : PI b q) (hD : Dm c) (hi : i < 126) (hj : j < 8) : f_Tb_put c (b + 7) (nI i) (OfNat.ofNat j) v = some (s2 c (b + 8) (i * 8 + j) v) := by
  have := Tb_put' (row := nI i) (col := (OfNat.ofNat j : Int32)) (v := v) (hD.pl hI).2.2.2 rfl rfl hi hj
  rw [rc_b72 hI] at this
  exact this
theorem pcg {c : St} {b q i j : Nat} (hI : PI b q) (hD : Dm c) (hi : i < 126) (hj : j < 8) : f_Tb_get c (b + 7) (nI i) (OfNat.ofNat j) = some (c (b + 8) (i * 8 + j)) := by
  have := Tb_get' (row := nI i) (col := (OfNat.ofNat j : Int32)) (hD.pl hI).2.2.2 rfl rfl hi hj
  rw [rc_b72 hI] at this
  exact this
theorem add_c {c : St} {b q p : Nat} {g k l v x y : Int32} (hI : PI b q) (hD : Dm c) (hp : p < 126) (hc : c (b + 6) 5 = nI p) (hl : 0 < l) : f_Pc_addPiece c (b + 6) g k l v x y = some (apc c b p g k l v x y) := by
  have nt := hI.nt.2.2.2.2.2.1
  have n6 : b + 6 ≠ b + 8 := by omega
  unfold f_Pc_addPiece
  rw [if_pos hl, rc_b64 hI, hc, bd_e (pcp hI hD hp (by decide)), s2_ne n6, hc, bd_e (pcp hI (hD.s2 nt) hp (by decide)), s2_ne n6, s2_ne n6, hc, bd_e (pcp hI ((hD.s2 nt).s2 nt) hp (by decide)), s2_ne n6, s2_ne n6, s2_ne n6, hc, bd_e (pcp hI (((hD.s2 nt).s2 nt).s2 nt) hp (by decide)), s2_ne n6, s2_ne n6, s2_ne n6, s2_ne n6, hc, bd_e (pcp hI ((((hD.s2 nt).s2 nt).s2 nt).s2 nt) hp (by decide)), s2_ne n6, s2_ne n6, s2_ne n6, s2_ne n6, s2_ne n6, hc, bd_e (pcp hI (((((hD.s2 nt).s2 nt).s2 nt).s2 nt).s2 nt) hp (by decide)), s2_ne n6, s2_ne n6, s2_ne n6, s2_ne n6, s2_ne n6, s2_ne n6, hc, bd_e (pcp hI ((((((hD.s2 nt).s2 nt).s2 nt).s2 nt).s2 nt).s2 nt) hp (by decide)), s2_ne n6, s2_ne n6, s2_ne n6, s2_ne n6, s2_ne n6, s2_ne n6, s2_ne n6, hc, bd_e (pcp hI (((((((hD.s2 nt).s2 nt).s2 nt).s2 nt).s2 nt).s2 nt).s2 nt) hp (by decide)), s2_ne n6, s2_ne n6, s2_ne n6, s2_ne n6, s2_ne n6, s2_ne n6, s2_ne n6, s2_ne n6, hc, nI_1, Lt_e, Lt_e, Lt_e]
  rfl
theorem piece_m {m : St} {p : Nat} {g k l v x y : Int32} (hp : p < 180) (hc : m 0 57 = nI p) (hl : 0 < l) : m_piece m g k l v x y = some (mpc m p g k l v x y) := by
  have g1 : Ix (nI p) 180 := Ix_n hp (by decide)
  have hcl : (nI p).toNatClampNeg = p := nI_clamp (by omega)
  unfold m_piece
  rw [if_pos hl]
  simp only [Lt_e, hc, Gd_t g1, hcl, s2_ne (show (0 : Nat) ≠ 29 by decide), s2_ne (show (0 : Nat) ≠ 30 by decide), s2_ne (show (0 : Nat) ≠ 31 by decide), s2_ne (show (0 : Nat) ≠ 32 by decide), s2_ne (show (0 : Nat) ≠ 33 by decide), s2_ne (show (0 : Nat) ≠ 34 by decide), s2_ne (show (0 : Nat) ≠ 35 by decide), s2_ne (show (0 : Nat) ≠ 36 by decide), nI_1]
  rfl
