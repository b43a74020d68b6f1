/-! edits of one leg -/
def PE (c m : St) (q P n cu ed nm na : Nat) : Prop :=
  (f_FL_planToEdit c = some q) ∧
  (m_edited m = some (nI P)) ∧
  (c q 1 = nI n) ∧
  (m 1 P = nI n) ∧
  (c q 2 = nI cu) ∧
  (m 1 (P + 1) = nI cu) ∧
  (n ≤ 20) ∧
  (P ≤ 297) ∧
  (q = (if ed = 1 then 11 else 8)) ∧
  (n = (if ed = 1 then nm else na)) ∧
  (cu ≤ 20) ∧
  (∃ R, ∀ i, i < n → LegR c m q P R i) ∧
  (∃ b, PI b q)
theorem PE.q {c m : St} {q P n cu ed nm na : Nat} (h : PE c m q P n cu ed nm na) : f_FL_planToEdit c = some q := h.1
theorem PE.P {c m : St} {q P n cu ed nm na : Nat} (h : PE c m q P n cu ed nm na) : m_edited m = some (nI P) := h.2.1
theorem PE.cc {c m : St} {q P n cu ed nm na : Nat} (h : PE c m q P n cu ed nm na) : c q 1 = nI n := h.2.2.1
theorem PE.cm {c m : St} {q P n cu ed nm na : Nat} (h : PE c m q P n cu ed nm na) : m 1 P = nI n := h.2.2.2.1
theorem PE.c2 {c m : St} {q P n cu ed nm na : Nat} (h : PE c m q P n cu ed nm na) : c q 2 = nI cu := h.2.2.2.2.1
theorem PE.m2 {c m : St} {q P n cu ed nm na : Nat} (h : PE c m q P n cu ed nm na) : m 1 (P + 1) = nI cu := h.2.2.2.2.2.1
theorem PE.n20 {c m : St} {q P n cu ed nm na : Nat} (h : PE c m q P n cu ed nm na) : n ≤ 20 := h.2.2.2.2.2.2.1
theorem PE.Pl {c m : St} {q P n cu ed nm na : Nat} (h : PE c m q P n cu ed nm na) : P ≤ 297 := h.2.2.2.2.2.2.2.1
theorem PE.eq {c m : St} {q P n cu ed nm na : Nat} (h : PE c m q P n cu ed nm na) : q = (if ed = 1 then 11 else 8) := h.2.2.2.2.2.2.2.2.1
theorem PE.en {c m : St} {q P n cu ed nm na : Nat} (h : PE c m q P n cu ed nm na) : n = (if ed = 1 then nm else na) := h.2.2.2.2.2.2.2.2.2.1
theorem PE.cu20 {c m : St} {q P n cu ed nm na : Nat} (h : PE c m q P n cu ed nm na) : cu ≤ 20 := h.2.2.2.2.2.2.2.2.2.2.1
theorem PE.lg {c m : St} {q P n cu ed nm na : Nat} (h : PE c m q P n cu ed nm na) : ∃ R, ∀ i, i < n → LegR c m q P R i := h.2.2.2.2.2.2.2.2.2.2.2.1
theorem PE.I {c m : St} {q P n cu ed nm na : Nat} (h : PE c m q P n cu ed nm na) : ∃ b, PI b q := h.2.2.2.2.2.2.2.2.2.2.2.2

theorem pe_of {t na cur fl ed nm : Nat} {Ra : Int} {c m : St} (hB : IB t c m na cur fl ed nm Ra) : ∃ q P n cu, PE c m q P n cu ed nm na := by
  obtain ⟨e1, e2, e3, -⟩ := hB.E
  rcases (show ed = 0 ∨ ed = 1 by omega) with h | h
  · subst h
    refine ⟨8, 0, na, cur, ?_, ?_, hB.A.cc, hB.A.cm, hB.ac.1, hB.ac.2.1, hB.a20, by decide, by rw [if_neg (by decide)], by rw [if_neg (by decide)], ?_, ⟨Ra, hB.A.leg⟩, 17, Or.inl ⟨rfl, rfl⟩⟩
    · unfold f_FL_planToEdit
      rw [Jn_e, e2, if_pos (show nI 0 = 0 from rfl)]
    · unfold m_edited
      rw [Jn_e, e3, if_pos (show nI 0 = 0 from rfl)]
      rfl
    · have := hB.a20
      rcases (show na = 0 ∨ 0 < na by omega) with z | z
      · have := (hB.an.1 z).1; omega
      · have := (hB.an.2 z).1; omega
  · subst h
    obtain ⟨cu, rs, R, b1, b2, b3, b4, b5, b6, b7⟩ := hB.M rfl
    refine ⟨11, 297, nm, cu, ?_, ?_, b1, b2, b3, b4, b7.2.1, by decide, by rw [if_pos rfl], by rw [if_pos rfl], ?_, ⟨R, b7.2.2.1⟩, 27, Or.inr (Or.inl ⟨rfl, rfl⟩)⟩
    · unfold f_FL_planToEdit
      rw [Jn_e, e2, if_neg (show ¬ nI 1 = 0 by decide)]
    · unfold m_edited
      rw [Jn_e, e3, if_neg (show ¬ nI 1 = 0 by decide)]
      rfl
    · have h1 := b7.2.1
      have h2 := b7.2.2.2.1.1
      omega
theorem PE.leg {c m : St} {q P n cu ed nm na : Nat} (h : PE c m q P n cu ed nm na) (p : Int32) : (f_Pl_hasLeg c q p = some 0 ∧ m_isLeg m (nI P) p = some 0) ∨ ∃ i, i < n ∧ p = nI i ∧ f_Pl_hasLeg c q p = some 1 ∧ m_isLeg m (nI P) p = some 1 := by
  have hn := h.n20
  have hP := h.Pl
  obtain ⟨b, hI⟩ := h.I
  have hm := isLeg_mc (p := p) (show P ≤ 2376 by omega) (show n ≤ 1000 by omega) h.cm
  rcases lg_case n (by omega) p with ⟨i, hi, e⟩ | e
  · right
    refine ⟨i, hi, e, ?_, hm.1 (by rw [e]; exact ⟨nI_pos' (by omega), nI_lt hi (by omega)⟩)⟩
    rw [e, hasLeg_c hI h.cc (by omega) (by omega), if_pos hi]
  · left
    exact ⟨hasLeg_n h.cc e, hm.2 e⟩
theorem PE.cur {c m : St} {q P n cu ed nm na : Nat} (h : PE c m q P n cu ed nm na) : Ix (nI P + (1 : Int32)) 2673 ∧ m 1 (Int32.toNatClampNeg (nI P + (1 : Int32))) = nI cu := by
  have hP := h.Pl
  rw [nI_1]
  exact ⟨Ix_n (by omega) (by decide), by rw [nI_clamp (by omega)]; exact h.m2⟩
theorem LegR.set {c m : St} {q P i i' j v : Nat} {R : Int} (h : LegR c m q P R i') (hj : 9 ≤ j) (hj' : j < 14) (hv : (j ≤ 10 ∧ v ≤ 450) ∨ (j = 11 ∧ 100 ≤ v ∧ v ≤ 999) ∨ (12 ≤ j ∧ v ≤ 1)) : LegR (s2 c (q + 2) (i * 14 + j) (nI v)) (s2 m 1 (P + 3 + 14 * i + j) (nI v)) q P R i' := by
  by_cases e : i' = i
  · subst e
    have k1 : ∀ l, l < 14 → l ≠ j → s2 c (q + 2) (i' * 14 + j) (nI v) (q + 2) (i' * 14 + l) = c (q + 2) (i' * 14 + l) := fun l _ p => s2_k (by omega)
    have k2 : ∀ l, l < 14 → l ≠ j → s2 m 1 (P + 3 + 14 * i' + j) (nI v) 1 (P + 3 + 14 * i' + l) = m 1 (P + 3 + 14 * i' + l) := fun l _ p => s2_k (by omega)
    have m3 : s2 m 1 (P + 3 + 14 * i' + j) (nI v) 3 = m 3 := s2_ne (by decide)
    have m4 : s2 m 1 (P + 3 + 14 * i' + j) (nI v) 4 = m 4 := s2_ne (by decide)
    have g1 : s2 c (q + 2) (i' * 14 + j) (nI v) (q + 2) (i' * 14 + j) = nI v := s2_at
    have g2 : s2 m 1 (P + 3 + 14 * i' + j) (nI v) 1 (P + 3 + 14 * i' + j) = nI v := s2_at
    generalize s2 c (q + 2) (i' * 14 + j) (nI v) = c' at k1 g1 ⊢
    generalize s2 m 1 (P + 3 + 14 * i' + j) (nI v) = m' at k2 g2 m3 m4 ⊢
    obtain ⟨h1, h2, h3, h4, h5, h6, h7, h8, h9, h10, h11⟩ := h
    have n9 : ∀ l B : Nat, l < 14 → (l = j → v ≤ B) → (∃ w : Nat, w ≤ B ∧ c (q + 2) (i' * 14 + l) = nI w ∧ m 1 (P + 3 + 14 * i' + l) = nI w) → ∃ w : Nat, w ≤ B ∧ c' (q + 2) (i' * 14 + l) = nI w ∧ m' 1 (P + 3 + 14 * i' + l) = nI w := fun l B hl hB hw => by
      by_cases z : l = j
      · exact ⟨v, hB z, by rw [z]; exact g1, by rw [z]; exact g2⟩
      · rw [k1 l hl z, k2 l hl z]; exact hw
    refine ⟨?_, n9 2 23 (by decide) (by omega) h2, n9 3 450 (by decide) (by omega) h3, n9 4 1 (by decide) (by omega) h4, n9 5 200 (by decide) (by omega) h5, n9 6 9 (by decide) (by omega) h6, n9 9 450 (by decide) (by omega) h7, n9 10 450 (by decide) (by omega) h8, ?_, n9 12 1 (by decide) (by omega) h10, n9 13 1 (by decide) (by omega) h11⟩
    · rw [k1 0 (by decide) (by omega), k1 1 (by decide) (by omega), k1 7 (by decide) (by omega), k1 8 (by decide) (by omega), k2 0 (by decide) (by omega), k2 1 (by decide) (by omega), k2 7 (by decide) (by omega), k2 8 (by decide) (by omega), m3, m4]
      exact h1
    · by_cases z : 11 = j
      · exact ⟨v, by omega, by omega, by rw [z]; exact g1, by rw [z]; exact g2⟩
      · rw [k1 11 (by decide) z, k2 11 (by decide) z]; exact h9
  · exact h.tr (fun l hl => s2_k (by omega)) (fun l hl => s2_k (by omega)) (s2_ne (by decide)) (s2_ne (by decide)) (Int.le_refl _) (fun x => by
      obtain ⟨k, k1, k2, k3, k4, k5, k6⟩ := h.kd
      rw [k2] at x
      exact (k6 ((nIl 8 (by omega) (by decide)).mp x)).1)
theorem FB.set {c : St} {q n i j v : Nat} (h : FB c q n) (hj : 9 ≤ j) (hj' : j < 14) (hq : q + 2 ≠ 1) : FB (s2 c (q + 2) (i * 14 + j) (nI v)) q n := by
  intro i' k p1 p2 p3 p4
  rw [s2_k (by omega)] at p2
  rw [s2_k (by omega), s2_ne (Ne.symm hq)]
  exact h i' k p1 p2 p3 p4
theorem sets_m {m : St} {i j v : Nat} (hi : i < 21) (hj : j < 14) : m_sets m (297 : Int32) (nI i) (nI j) (nI v) = some (s2 m 1 (297 + 3 + 14 * i + j) (nI v)) := by
  have e : (297 : Int32) + (3 : Int32) + (14 : Int32) * nI i + nI j = nI (297 + 3 + 14 * i + j) := by
    rw [show (14 : Int32) = nI 14 from rfl, pk_mul, show (297 : Int32) + (3 : Int32) = nI (297 + 3) from rfl, nI_add, nI_add]
  unfold m_sets
  rw [e, Gd_t (Ix_n (by omega) (by decide)), Lt_e, nI_clamp (by omega)]
theorem put_c {c : St} {i j v : Nat} (hD : Dm c) (hi : i < 21) (hj : j < 14) : f_Tb_put c 12 (nI i) (nI j) (nI v) = some (s2 c 13 (i * 14 + j) (nI v)) := Tb_put hD.2.2.2.2.1.2.1 hi hj
/-- behind an edit that kept n, cu, rs: the new legs are given -/
theorem BG.inv {t na cur fl ed nm n' cu rs : Nat} {Ra R : Int} {c m c1 m1 c2 m2 : St} (hB : IB t c m na cur fl ed nm Ra) (hA : CA c na) (ht : 1 ≤ t) (G : BG t c m c1 m1 na cur fl ed nm) (hD : Dm c2) (hc : ∀ a, a ≠ 11 → a ≠ 13 → c2 a = c1 a) (hm : ∀ a, a ≠ 1 → m2 a = m1 a) (hm1 : ∀ k, k < 297 ∨ 594 ≤ k → m2 1 k = m1 1 k)
  (q1 : c2 11 1 = nI n') (q2 : m2 1 297 = nI n') (q3 : c2 11 2 = nI cu) (q4 : m2 1 298 = nI cu) (q5 : c2 11 3 = nI rs) (q6 : m2 1 299 = nI rs) (hM : MP (t + 1) c2 m2 11 297 n' cu rs R cur fl) : INV (t + 1) c2 m2 := by
  refine INV.ed hB hA hD (fun a p => by rw [hc a (by omega) (by omega), G.fc a (by omega) (by omega) (by omega) (by omega) (by omega) (by omega) (by omega)]) (by rw [hc 52 (by decide) (by decide), G.fc 52 (by decide) (by decide) (by decide) (by decide) (by decide) (by decide) (by decide)]) (by rw [hc 0 (by decide) (by decide)]; exact G.c10) (by rw [hm 0 (by decide)]; exact G.m01) (by rw [hc 27 (by decide) (by decide)]; exact G.c27) (fun a p _ => by rw [hm a (by omega), G.fm a p]) (fun k p => by rw [hm1 k (by omega), G.f1 k (by omega)]) (fun k p1 p2 _ => by rw [hm 0 (by decide), G.g0 k p1 p2]) ht ⟨cu, rs, R, q1, q2, q3, q4, q5, q6, hM⟩ ?_
  obtain ⟨sz, nx, a1, a2, a3, a4, a5, a6⟩ := G.H
  refine ⟨sz, nx, a1, a2, by rw [hc 47 (by decide) (by decide)]; exact a3, by rw [hm 0 (by decide)]; exact a4, by rw [hc 47 (by decide) (by decide)]; exact a5, fun j hj => (a6 j hj).up.tr (fun k _ => by rw [hc 49 (by decide) (by decide)]) (fun k _ => by rw [hc 51 (by decide) (by decide)]) (by rw [hc 1 (by decide) (by decide)]) (fun k hk => hm1 _ (by omega)) (by rw [hm 2 (by decide)]) (hm _ (by decide)) (hm _ (by decide)) (fun q => q)⟩
/-- one column of one leg set -/
theorem BG.set1 {t na cur fl ed nm i j v n : Nat} {Ra : Int} {c m c1 m1 : St} (hB : IB t c m na cur fl ed nm Ra) (hA : CA c na) (G : BG t c m c1 m1 na cur fl ed nm) (en : n = (if ed = 1 then nm else na)) (hi : i < n) (hj : 9 ≤ j) (hj' : j < 14) (hv : (j ≤ 10 ∧ v ≤ 450) ∨ (j = 11 ∧ 100 ≤ v ∧ v ≤ 999) ∨ (12 ≤ j ∧ v ≤ 1)) : INV (t + 1) (s2 c1 13 (i * 14 + j) (nI v)) (s2 m1 1 (297 + 3 + 14 * i + j) (nI v)) := by
  obtain ⟨n0, cu, rs, R, z0, z1, z2, z3, z4, z5, z6, z7, z8, z9⟩ := G.M
  have hn : n0 = n := z0.trans en.symm
  subst hn
  have hMP := z9 (by omega)
  have ht : 1 ≤ t := by
    rcases (show ed = 1 ∨ ed ≠ 1 by omega) with x | x
    · have := hB.E.2.2.2 x; omega
    · rw [if_neg x] at en
      have := (hB.an.2 (by omega)).2; omega
  refine BG.inv (n' := n0) (cu := cu) (rs := rs) (R := R) hB hA ht G (G.D.s2 (by decide)) (fun a p q => s2_ne q) (fun a p => s2_ne p) (fun k p => s2_k (by omega)) (by rw [s2_ne (by decide)]; exact z2) (by rw [s2_k (by omega)]; exact z3) (by rw [s2_ne (by decide)]; exact z4) (by rw [s2_k (by omega)]; exact z5) (by rw [s2_ne (by decide)]; exact z6) (by rw [s2_k (by omega)]; exact z7) ?_
  exact hMP.ch hMP.1 hMP.2.1 (fun i' hi' => (hMP.2.2.1 i' hi').set (q := 11) (P := 297) hj hj' hv) (FB.set (q := 11) hMP.2.2.2.1.2 hj hj' (by decide)) hMP.2.2.2.1.1
