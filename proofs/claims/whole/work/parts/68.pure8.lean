/-! runs of segments in lockstep -/
variable {N : Nat}
def SS (N : Nat) (c m c' m' : St) (b : Nat) (R : Int) (r r' g : Nat) : Prop :=
  (r ≤ r') ∧
  (SR N c' m' b R r') ∧
  (IR N c' m' b R r') ∧
  (∀ a, a ≠ b + 3 → a ≠ b + 5 → c' a = c a) ∧
  (c' (b + 3) 11 = c (b + 3) 11) ∧
  (∀ a, a ≠ 0 → (a < 7 ∨ 17 < a) → m' a = m a) ∧
  (∀ k, (k < 30 ∨ 34 < k) → k ≠ 42 → k ≠ 43 → m' 0 k = m 0 k) ∧
  (∀ u, r ≤ u → u < r' → m' 7 u = nI g) ∧
  (∀ u, u < r → ∀ a, 7 ≤ a → a ≤ 17 → m' a u = m a u) ∧
  ((if r' ≤ r then m 0 31 else m' 13 (r' - 1)) = m' 0 31)
theorem SS.le {N : Nat} {c m c' m' : St} {b : Nat} {R : Int} {r r' g : Nat} (h : SS N c m c' m' b R r r' g) : r ≤ r' := h.1
theorem SS.sr {N : Nat} {c m c' m' : St} {b : Nat} {R : Int} {r r' g : Nat} (h : SS N c m c' m' b R r r' g) : SR N c' m' b R r' := h.2.1
theorem SS.ir {N : Nat} {c m c' m' : St} {b : Nat} {R : Int} {r r' g : Nat} (h : SS N c m c' m' b R r r' g) : IR N c' m' b R r' := h.2.2.1
theorem SS.fc {N : Nat} {c m c' m' : St} {b : Nat} {R : Int} {r r' g : Nat} (h : SS N c m c' m' b R r r' g) : ∀ a, a ≠ b + 3 → a ≠ b + 5 → c' a = c a := h.2.2.2.1
theorem SS.f11 {N : Nat} {c m c' m' : St} {b : Nat} {R : Int} {r r' g : Nat} (h : SS N c m c' m' b R r r' g) : c' (b + 3) 11 = c (b + 3) 11 := h.2.2.2.2.1
theorem SS.fm {N : Nat} {c m c' m' : St} {b : Nat} {R : Int} {r r' g : Nat} (h : SS N c m c' m' b R r r' g) : ∀ a, a ≠ 0 → (a < 7 ∨ 17 < a) → m' a = m a := h.2.2.2.2.2.1
theorem SS.f0 {N : Nat} {c m c' m' : St} {b : Nat} {R : Int} {r r' g : Nat} (h : SS N c m c' m' b R r r' g) : ∀ k, (k < 30 ∨ 34 < k) → k ≠ 42 → k ≠ 43 → m' 0 k = m 0 k := h.2.2.2.2.2.2.1
theorem SS.lg {N : Nat} {c m c' m' : St} {b : Nat} {R : Int} {r r' g : Nat} (h : SS N c m c' m' b R r r' g) : ∀ u, r ≤ u → u < r' → m' 7 u = nI g := h.2.2.2.2.2.2.2.1
theorem SS.old {N : Nat} {c m c' m' : St} {b : Nat} {R : Int} {r r' g : Nat} (h : SS N c m c' m' b R r r' g) : ∀ u, u < r → ∀ a, 7 ≤ a → a ≤ 17 → m' a u = m a u := h.2.2.2.2.2.2.2.2.1
theorem SS.la {N : Nat} {c m c' m' : St} {b : Nat} {R : Int} {r r' g : Nat} (h : SS N c m c' m' b R r r' g) : (if r' ≤ r then m 0 31 else m' 13 (r' - 1)) = m' 0 31 := h.2.2.2.2.2.2.2.2.2

theorem SS.refl {c m : St} {b r g : Nat} {R : Int} (hS : SR N c m b R r) (hN : IR N c m b R r) : SS N c m c m b R r r g :=
  ⟨Nat.le_refl _, hS, hN, fun _ _ _ => rfl, rfl, fun _ _ _ => rfl, fun _ _ _ _ => rfl, fun _ h1 h2 => by omega, fun _ _ _ _ _ => rfl, by rw [if_pos (Nat.le_refl _)]⟩
theorem SS.trans {c m c1 m1 c2 m2 : St} {b r r1 r2 g : Nat} {R : Int} (h : SS N c m c1 m1 b R r r1 g) (h' : SS N c1 m1 c2 m2 b R r1 r2 g) : SS N c m c2 m2 b R r r2 g := by
  have l1 := h.le
  have l2 := h'.le
  refine ⟨by omega, h'.sr, h'.ir, fun a p q => (h'.fc a p q).trans (h.fc a p q), h'.f11.trans h.f11, fun a p q => (h'.fm a p q).trans (h.fm a p q), fun k p q s => (h'.f0 k p q s).trans (h.f0 k p q s), fun u p q => ?_, fun u p a s t => (h'.old u (by omega) a s t).trans (h.old u p a s t), ?_⟩
  · by_cases e : u < r1
    · rw [h'.old u e 7 (by decide) (by decide)]
      exact h.lg u p e
    · exact h'.lg u (by omega) q
  · have a1 := h.la
    have a2 := h'.la
    by_cases e : r2 ≤ r
    · rw [if_pos e]
      rw [if_pos (by omega)] at a1 a2
      rw [a1, a2]
    · rw [if_neg e]
      by_cases e2 : r2 ≤ r1
      · rw [if_pos e2] at a2
        rw [if_neg (by omega)] at a1
        have e3 : r2 = r1 := by omega
        rw [e3, h'.old (r1 - 1) (by omega) 13 (by decide) (by decide), a1, a2]
      · rw [if_neg e2] at a2
        exact a2
theorem SS.fx {c m c' m' : St} {b r r' g : Nat} {R : Int} {x y : Int32} (h : SS N c m c' m' b R r r' g) : SS N c m c' (s2 (s2 m' 0 42 x) 0 43 y) b R r r' g := by
  have e0 : ∀ k, k ≠ 42 → k ≠ 43 → s2 (s2 m' 0 42 x) 0 43 y 0 k = m' 0 k := fun k p q => by rw [s2_k q, s2_k p]
  have e1 : ∀ a, a ≠ 0 → s2 (s2 m' 0 42 x) 0 43 y a = m' a := fun a p => by rw [s2_ne p, s2_ne p]
  refine ⟨h.le, h.sr.of rfl rfl (e0 _ (by decide) (by decide)) (fun a p q => e1 a (by omega)), h.ir.of rfl rfl rfl rfl (fun k p q => e0 k (by omega) (by omega)) (fun _ => by rw [e1 12 (by decide)]), h.fc, h.f11, fun a p q => by rw [e1 a p]; exact h.fm a p q, fun k p q s => by rw [e0 k q s]; exact h.f0 k p q s, fun u p q => by rw [e1 7 (by decide)]; exact h.lg u p q, fun u p a q s => by rw [e1 a (by omega)]; exact h.old u p a q s, ?_⟩
  rw [e1 13 (by decide), e0 31 (by decide) (by decide)]
  exact h.la
theorem ss_seg {c m : St} {b r g v l : Nat} {R : Int} {tx ty : Int32} (hS : SR N c m b R r) (hN : IR N c m b R r) (hr : r < 42) (hg : g < 21) (hgN : g < N) (hv : v < 24) (hl : 1 ≤ l) (hl2 : (l : Int) ≤ R + 14200) (hR : R ≤ 5940000) (hx : c (b + 3) 5 = m 0 42) (hy : c (b + 3) 6 = m 0 43) (hs : Nb R (m 0 42) (m 0 43)) (ht : Nb R tx ty) (hdd : dsq (m 0 42) (m 0 43) tx ty ≤ ((l : Int) + 2) * (l + 2)) :
    SS N c m (asg c b r (nI g) tx ty (nI l) (nI v)) (msg2 m r (nI g) tx ty (nI l) (nI v)) b R r (r + 1) g := by
  have hh := seg_lock hS hN hr hg hgN hv hl hl2 hR hx hy hs ht hdd
  refine ⟨by omega, hh.1, hh.2, fun a p q => funext fun k => asg_else p q, asgf_11, fun a p q => funext fun k => ?_, fun k p q s => ?_, fun u p q => ?_, fun u p a q s => ?_, ?_⟩
  · rw [msg2_e (by omega) (by omega)]
    by_cases e : k = r
    · rw [msg_else (by omega)]
    · rw [msg_old p e]
  · rw [msg2_e (by omega) (by omega), msgf_else p]
  · have e : u = r := by omega
    rw [e, msg2_e (by omega) (by omega), msg_7]
  · rw [msg2_e (by omega) (by omega), msg_old (by omega) (by omega)]
  · rw [if_neg (by omega), Nat.add_sub_cancel, msg2_e (by omega) (by omega), msg_13, msg2_e (by omega) (by omega), msgf_31]
theorem dist_le {a b x y : Int32} {R S : Int} (h1 : Nb R a b) (h2 : Nb S x y) : (x.toInt - a.toInt) * (x.toInt - a.toInt) + (y.toInt - b.toInt) * (y.toInt - b.toInt) ≤ (S + R) * (S + R) := by
  have h := tri (x := x.toInt) (y := y.toInt) (u := -a.toInt) (v := -b.toInt) (R := S) (L := R) h2.1 h1.1 h2.2 (by have := h1.2; rw [Int.neg_mul_neg, Int.neg_mul_neg]; exact this)
  rw [← Int.sub_eq_add_neg, ← Int.sub_eq_add_neg] at h
  exact h
/-- a distance's number -/
theorem dist_n {a b x y : Int32} {R S : Int} (h1 : Nb R a b) (h2 : Nb S x y) (hR : R ≤ 6000000) (hS : S ≤ 6000000) : ∃ d : Nat, m_distance a b x y = some (nI d) ∧ f_Cm_distance a b x y = some (nI d) ∧ (d : Int) ≤ S + R ∧ (d = 0 → x = a ∧ y = b) ∧ dsq a b x y ≤ ((d : Int) + 2) * (d + 2) := by
  obtain ⟨d, e1, e2, e3, e4, e5⟩ := dist_v (h1.big hR).1 (h1.big hR).2 (h2.big hS).1 (h2.big hS).2
  have hh := dist_le h1 h2
  refine ⟨d, e1, e2, ?_, fun e => ?_, ?_⟩
  · have := ab_sq (a := (d : Int)) (R := S + R) (by have := h1.1; have := h2.1; omega) (by omega)
    omega
  · subst e
    have p1 := sqn (x.toInt - a.toInt)
    have p2 := sqn (y.toInt - b.toInt)
    have z1 : (x.toInt - a.toInt) * (x.toInt - a.toInt) = 0 := by omega
    have z2 : (y.toInt - b.toInt) * (y.toInt - b.toInt) = 0 := by omega
    have w1 := Int.mul_eq_zero.mp z1
    have w2 := Int.mul_eq_zero.mp z2
    exact ⟨i2 (by omega), i2 (by omega)⟩
  · unfold dsq
    have := sq_le (a := (d : Int) + 1) (b := (d : Int) + 2) (by omega) (by omega)
    omega
theorem nI_p {d : Nat} (h : d ≠ 0) (h2 : d < 2 ^ 31) : (0 : Int32) < nI d := by
  have := nI_nle (n := d) (by omega) h2
  exact Int32.not_le.mp this
theorem straight_m {m : St} {r : Nat} {leg x y d k : Int32} (hr : r < 42) (hm : m 0 30 = nI r) (h1 : m_distance (m 0 42) (m 0 43) x y = some d) (h2 : m_courseTo m (m 0 42) (m 0 43) x y = some k) (hd : ¬ d = 0) : m_straightTo m leg x y = some (msg2 m r leg x y d k) := by
  unfold m_straightTo
  rw [Lt_e, bd_e h1, bd_e h2, bd_e (seg_m hr hm hd), Jn_e, hm]
  exact seg_tail hr hm hd rfl
theorem straight_m0 {m : St} {r : Nat} {leg x y k : Int32} (hm : m 0 30 = nI r) (h1 : m_distance (m 0 42) (m 0 43) x y = some 0) (h2 : m_courseTo m (m 0 42) (m 0 43) x y = some k) : m_straightTo m leg x y = some m := by
  unfold m_straightTo
  rw [Lt_e, bd_e h1, bd_e h2, bd_e seg_m0, Jn_e, if_pos (Int32.le_refl _)]
theorem addSeg_0 {c : St} {o : Nat} {leg x y crs : Int32} : f_Tk_addSegment c o leg x y 0 crs = some c := by
  unfold f_Tk_addSegment
  rw [if_neg (by decide)]
/-- a segment of a given length and course -/
theorem tow_lock {c m : St} {b q r g v l : Nat} {R : Int} {tx ty : Int32} (hI : PI b q) (hD : Dm c) (hS : SR N c m b R r) (hN : IR N c m b R r) (hr : r < 42) (hg : g < 21) (hgN : g < N) (hv : v < 24) (hl2 : (l : Int) ≤ R + 14200) (hR : R ≤ 5940000) (hx : c (b + 3) 5 = m 0 42) (hy : c (b + 3) 6 = m 0 43) (hs : Nb R (m 0 42) (m 0 43)) (ht : Nb R tx ty) (h0 : l = 0 → tx = m 0 42 ∧ ty = m 0 43) (hdd : dsq (m 0 42) (m 0 43) tx ty ≤ ((l : Int) + 2) * (l + 2)) :
    ∃ c' m' r', f_Tk_addSegment c (b + 3) (nI g) tx ty (nI l) (nI v) = some c' ∧ m_towardOnCourse m (nI g) tx ty (nI l) (nI v) = some m' ∧ r' ≤ r + 1 ∧ SS N c m c' m' b R r r' g ∧ c' (b + 3) 5 = tx ∧ c' (b + 3) 6 = ty := by
  by_cases e : l = 0
  · have hh := h0 e
    subst e
    exact ⟨c, m, r, addSeg_0, toward_m0 hS.cm, by omega, SS.refl hS hN, by rw [hx, hh.1], by rw [hy, hh.2]⟩
  · have lb : l < 2 ^ 31 := by omega
    exact ⟨_, _, r + 1, addSeg_c hI hD hr hS.cc (nI_p e lb), toward_m hr hS.cm (nI_ne0 (by omega) lb), by omega, ss_seg hS hN hr hg hgN hv (by omega) hl2 hR hx hy hs ht hdd, asgf_5, asgf_6⟩
theorem run_lock {c m : St} {b q r g : Nat} {R : Int} {tx ty : Int32} (hI : PI b q) (hD : Dm c) (hK : RefK m) (hS : SR N c m b R r) (hN : IR N c m b R r) (hr : r < 42) (hg : g < 21) (hgN : g < N) (h14 : 14200 ≤ R) (hR : R ≤ 5940000) (hx : c (b + 3) 5 = m 0 42) (hy : c (b + 3) 6 = m 0 43) (hs : Nb R (m 0 42) (m 0 43)) (ht : Nb 14200 tx ty) :
    ∃ c' m' r', f_Tk_runTo c (b + 3) (nI g) tx ty = some c' ∧ m_straightTo m (nI g) tx ty = some m' ∧ r' ≤ r + 1 ∧ SS N c m c' m' b R r r' g ∧ c' (b + 3) 5 = tx ∧ c' (b + 3) 6 = ty := by
  obtain ⟨v, hv, ev⟩ := cr_v c (m 0 42) (m 0 43) tx ty
  obtain ⟨d, e1, e2, e3, e4, e5⟩ := dist_n hs ht (by omega) (by omega)
  have ev' : m_courseTo m (m 0 42) (m 0 43) tx ty = some (nI v) := by rw [courseTo_e hK c]; exact ev
  unfold f_Tk_runTo
  rw [hx, hy, bd_e ev, bd_e e2]
  by_cases e : d = 0
  · have hh := e4 e
    subst e
    refine ⟨c, m, r, ?_, straight_m0 hS.cm e1 ev', by omega, SS.refl hS hN, by rw [hx, hh.1], by rw [hy, hh.2]⟩
    exact bd_e addSeg_0
  · have lb : d < 2 ^ 31 := by omega
    refine ⟨_, _, r + 1, bd_e (addSeg_c hI hD hr hS.cc (nI_p e lb)), straight_m hr hS.cm e1 ev' (nI_ne0 (by omega) lb), by omega, ss_seg hS hN hr hg hgN hv (by omega) (by omega) hR hx hy hs (ht.le h14) e5, asgf_5, asgf_6⟩
theorem sn2 (v : Nat) (h : v < 36) : (sn (nI v)).toInt * (sn (nI v)).toInt + (sn (nI v + (6 : Int32))).toInt * (sn (nI v + (6 : Int32))).toInt ≤ 1000240 := (by decide +kernel : ∀ v, v < 36 → (sn (nI v)).toInt * (sn (nI v)).toInt + (sn (nI v + (6 : Int32))).toInt * (sn (nI v + (6 : Int32))).toInt ≤ 1000240) v h
theorem td_sq {x : Int} : (1000 * x.tdiv 1000) * (1000 * x.tdiv 1000) ≤ x * x := by
  rcases Int.lt_or_le x 0 with h | h
  · rw [td_neg h]
    have e1 : (1000 * -(-x / 1000)) * (1000 * -(-x / 1000)) = (1000 * (-x / 1000)) * (1000 * (-x / 1000)) := by grind
    have e2 : x * x = (-x) * (-x) := by grind
    rw [e1, e2]
    exact sq_le (by omega) (by omega)
  · rw [td_pos h]
    exact sq_le (by omega) (by omega)
theorem ah_v {x d s : Int32} (hx : -100000000 ≤ x.toInt ∧ x.toInt ≤ 100000000) (hd : 0 ≤ d.toInt ∧ d.toInt ≤ 5000) (hs : -1000 ≤ s.toInt ∧ s.toInt ≤ 1000) : (ah x d s).toInt = x.toInt + (d.toInt * s.toInt).tdiv 1000 := by
  have mm := mulb (a := d.toInt) (b := s.toInt) (A := 5000) (B := 1000) (by omega) hd.2 hs.1 hs.2
  have q1 : (d.toInt64 * s.toInt64).toInt = d.toInt * s.toInt := by rw [tL_mul (by rw [tw, tw]; omega) (by rw [tw, tw]; omega), tw, tw]
  have q2 : (d.toInt64 * s.toInt64 / (1000 : Int64)).toInt = (d.toInt * s.toInt).tdiv 1000 := by rw [tL_div k1000L (by decide), q1]
  have bb := tdb (x := d.toInt * s.toInt) (d := 1000) (B := 5000000) (by decide) (by omega) (by omega)
  have q3 : (x.toInt64 + d.toInt64 * s.toInt64 / (1000 : Int64)).toInt = x.toInt + (d.toInt * s.toInt).tdiv 1000 := by rw [tL_add (by rw [tw, q2]; omega) (by rw [tw, q2]; omega), tw, q2]
  unfold ah
  rw [tn (by rw [q3]; omega) (by rw [q3]; omega), q3]
theorem ah_dd {l v : Nat} (hl : l ≤ 4500) (hv : v < 36) : ((l : Int) * (sn (nI v)).toInt).tdiv 1000 * ((l : Int) * (sn (nI v)).toInt).tdiv 1000 + ((l : Int) * (sn (nI v + (6 : Int32))).toInt).tdiv 1000 * ((l : Int) * (sn (nI v + (6 : Int32))).toInt).tdiv 1000 ≤ ((l : Int) + 1) * ((l : Int) + 1) := by
  have t1 := td_sq (x := (l : Int) * (sn (nI v)).toInt)
  have t2 := td_sq (x := (l : Int) * (sn (nI v + (6 : Int32))).toInt)
  have s2 := sn2 v hv
  generalize (sn (nI v)).toInt = a at *
  generalize (sn (nI v + (6 : Int32))).toInt = b at *
  generalize ((l : Int) * a).tdiv 1000 = p at *
  generalize ((l : Int) * b).tdiv 1000 = q at *
  have e1 : (1000 * p) * (1000 * p) = 1000000 * (p * p) := by grind
  have e2 : (1000 * q) * (1000 * q) = 1000000 * (q * q) := by grind
  have e3 : ((l : Int) * a) * (l * a) + ((l : Int) * b) * (l * b) = ((l : Int) * l) * (a * a + b * b) := by grind
  have e4 : ((l : Int) * l) * (a * a + b * b) ≤ ((l : Int) * l) * 1000240 := Int.mul_le_mul_of_nonneg_left s2 (sqn _)
  have e5 : ((l : Int) + 1) * (l + 1) = (l : Int) * l + 2 * l + 1 := by grind
  have e6 : (l : Int) * l ≤ 4500 * l := Int.mul_le_mul_of_nonneg_right (by omega) (by omega)
  rw [e1] at t1
  rw [e2] at t2
  rw [e5]
  generalize (l : Int) * l = z at *
  omega
/-- a point ahead lies no farther out than its length, and one more -/
theorem ah_nb {x y : Int32} {l v : Nat} {B : Int} (h : Nb B x y) (hB : B ≤ 6000000) (hl : l ≤ 4500) (hv : v < 36) : Nb (B + l + 1) (ah x (nI l) (sn (nI v))) (ah y (nI l) (sn (nI v + (6 : Int32)))) := by
  have hb := h.ab
  have h0 := h.1
  have el : (nI l).toInt = (l : Int) := nI_toInt (by omega)
  have ex := ah_v (x := x) (d := nI l) (s := sn (nI v)) (by omega) (by omega) (sn_b _)
  have ey := ah_v (x := y) (d := nI l) (s := sn (nI v + (6 : Int32))) (by omega) (by omega) (sn_b _)
  rw [el] at ex ey
  refine ⟨by omega, ?_⟩
  rw [ex, ey, show B + (l : Int) + 1 = B + ((l : Int) + 1) by omega]
  refine tri h0 (by omega) h.2 ?_
  exact ah_dd hl hv
theorem ah_d {x y : Int32} {l v : Nat} {B : Int} (h : Nb B x y) (hB : B ≤ 6000000) (hl : l ≤ 4500) (hv : v < 36) : dsq x y (ah x (nI l) (sn (nI v))) (ah y (nI l) (sn (nI v + (6 : Int32)))) ≤ ((l : Int) + 2) * (l + 2) := by
  have hb := h.ab
  have h0 := h.1
  have el : (nI l).toInt = (l : Int) := nI_toInt (by omega)
  have ex := ah_v (x := x) (d := nI l) (s := sn (nI v)) (by omega) (by omega) (sn_b _)
  have ey := ah_v (x := y) (d := nI l) (s := sn (nI v + (6 : Int32))) (by omega) (by omega) (sn_b _)
  rw [el] at ex ey
  have hd := ah_dd (l := l) (v := v) hl hv
  have hq := sq_le (a := (l : Int) + 1) (b := (l : Int) + 2) (by omega) (by omega)
  unfold dsq
  rw [ex, ey, show ∀ p q : Int, p + q - p = q from fun p q => by omega, show ∀ p q : Int, p + q - p = q from fun p q => by omega]
  omega
/-- a run of a given length on a course -/
theorem on_lock {c m : St} {b q r g v l i : Nat} {R B : Int} (hI : PI b q) (hD : Dm c) (hK : RefK m) (hS : SR N c m b R r) (hN : IR N c m b R r) (hr : r < 42) (hg : g < 21) (hgN : g < N) (hv : v < 24) (hc : c (q + 2) (g * 14 + 2) = nI v) (hl : 1 ≤ l) (hl2 : l ≤ 4500) (h14 : 14200 ≤ R) (hR : R ≤ 5940000) (hx : c (b + 3) 5 = m 0 42) (hy : c (b + 3) 6 = m 0 43) (hs : Nb B (m 0 42) (m 0 43)) (hB : B + l + 1 ≤ R) :
    ∃ c' m', f_Tk_runOn c (b + 3) (nI g) (nI l) = some c' ∧ m_onCourse m (nI g) (nI l) (nI v) = some m' ∧ SS N c m c' m' b R r (r + 1) g ∧ c' (b + 3) 5 = ah (m 0 42) (nI l) (sn (nI v)) ∧ c' (b + 3) 6 = ah (m 0 43) (nI l) (sn (nI v + (6 : Int32))) := by
  have lb : l < 2 ^ 31 := by omega
  have ha := ah_nb (l := l) hs (by omega) hl2 (show v < 36 by omega)
  refine ⟨asg c b r (nI g) (ah (m 0 42) (nI l) (sn (nI v))) (ah (m 0 43) (nI l) (sn (nI v + (6 : Int32)))) (nI l) (nI v), msg2 m r (nI g) (ah (m 0 42) (nI l) (sn (nI v))) (ah (m 0 43) (nI l) (sn (nI v + (6 : Int32)))) (nI l) (nI v), ?_, ?_, ss_seg hS hN hr hg hgN hv hl (by omega) hR hx hy (hs.le (by omega)) (ha.le hB) (ah_d (l := l) hs (by omega) hl2 (show v < 36 by omega)), asgf_5, asgf_6⟩
  · unfold f_Tk_runOn
    rw [rc_b30 hI, rc_q0 hI, bd_e (pg hI hD hg (by decide)), hc, bd_e (pointX_e c _ _ _), bd_e (pointY_e c _ _ _), hx, hy, bd_e (addSeg_c hI hD hr hS.cc (nI_p (by omega) lb))]
  · unfold m_onCourse
    rw [Lt_e, bd_e (sx_e hK _), bd_e (ahead_e _ _ _), bd_e (sy_e hK _), bd_e (ahead_e _ _ _), bd_e (seg_m hr hS.cm (nI_ne0 (by omega) lb)), Jn_e, hS.cm]
    exact seg_tail hr hS.cm (nI_ne0 (by omega) lb) rfl
