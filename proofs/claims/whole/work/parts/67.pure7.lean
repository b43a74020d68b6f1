/-! the relations of plans, legs, segments on both sides -/
variable {N : Nat}

theorem s2_k {σ : St} {o k b : Nat} {v : Int32} (h : b ≠ k) : s2 σ o k v o b = σ o b := by simp [s2, h]
/-- the class's tables by literal columns -/
theorem pg {c : St} {b q i j : Nat} (hI : PI b q) (hD : Dm c) (hi : i < 21) (hj : j < 14) : f_Tb_get c (q + 1) (nI i) (OfNat.ofNat j) = some (c (q + 2) (i * 14 + j)) := pg_get hI hD hi rfl rfl hj
theorem lgp {c : St} {b q i j : Nat} {v : Int32} (hI : PI b q) (hD : Dm c) (hi : i < 21) (hj : j < 16) : f_Tb_put c (b + 1) (nI i) (OfNat.ofNat j) v = some (s2 c (b + 2) (i * 16 + j) v) := lg_put hI hD hi rfl rfl hj
theorem lgg {c : St} {b q i j : Nat} (hI : PI b q) (hD : Dm c) (hi : i < 21) (hj : j < 16) : f_Tb_get c (b + 1) (nI i) (OfNat.ofNat j) = some (c (b + 2) (i * 16 + j)) := lg_get hI hD hi rfl rfl hj
theorem sgp {c : St} {b q i j : Nat} {v : Int32} (hI : PI b q) (hD : Dm c) (hi : i < 42) (hj : j < 16) : f_Tb_put c (b + 4) (nI i) (OfNat.ofNat j) v = some (s2 c (b + 5) (i * 16 + j) v) := sg_put hI hD hi rfl rfl hj
theorem sgg {c : St} {b q i j : Nat} (hI : PI b q) (hD : Dm c) (hi : i < 42) (hj : j < 16) : f_Tb_get c (b + 4) (nI i) (OfNat.ofNat j) = some (c (b + 5) (i * 16 + j)) := sg_get hI hD hi rfl rfl hj
theorem kd_c {c : St} {b q i : Nat} (hI : PI b q) (hD : Dm c) (hi : i < 21) : f_Pl_kind c q (nI i) = some (c (q + 2) (i * 14 + 0)) := by
  unfold f_Pl_kind
  rw [rc_q0 hI, bd_e (pg hI hD hi (by decide))]
theorem PI.lt {b q : Nat} (h : PI b q) : q + 2 < b ∧ 8 ≤ q ∧ b ≤ 37 := by
  rcases h with ⟨rfl, rfl⟩ | ⟨rfl, rfl⟩ | ⟨rfl, rfl⟩ <;> exact ⟨by decide, by decide, by decide⟩
/-- the reference's rows -/
theorem mof {m : St} {P i j : Nat} (hP : P ≤ 2376) (hi : i < 21) (hj : j < 14) : m_of m (nI P) (nI i) (OfNat.ofNat j) = some (m 1 (P + 3 + 14 * i + j)) := by
  have e : ((nI P + (3 : Int32)) + ((14 : Int32) * nI i)) + (OfNat.ofNat j : Int32) = nI (P + 3 + 14 * i + j) := by
    rw [← nI_add, ← nI_add, ← nI_add, ← pk_mul]
    rfl
  unfold m_of
  rw [e, Gd_t (Ix_n (by omega) (by decide)), nI_clamp (by omega)]
theorem mcount {m : St} {P : Nat} (hP : P ≤ 2376) : m_count m (nI P) = some (m 1 P) := by
  have e : nI P + (0 : Int32) = nI P := by rw [Int32.add_zero]
  unfold m_count
  rw [e, Gd_t (Ix_n (by omega) (by decide)), nI_clamp (by omega)]
def hfx (k : Nat) : Prop := k ≤ 3 ∨ k = 7
def LegR (c m : St) (q P : Nat) (R : Int) (i : Nat) : Prop :=
  (∃ k : Nat, k < 9 ∧ c (q + 2) (i * 14 + 0) = nI k ∧ m 1 (P + 3 + 14 * i + 0) = nI k ∧ (hfx k → ∃ f F : Nat, f < F ∧ F ≤ 16 ∧ True ∧ c (q + 2) (i * 14 + 1) = nI f ∧ m 1 (P + 3 + 14 * i + 1) = nI f ∧ c (q + 2) (i * 14 + 7) = m 3 f ∧ c (q + 2) (i * 14 + 8) = m 4 f ∧ Nb 14143 (m 3 f) (m 4 f)) ∧ (¬ hfx k → c (q + 2) (i * 14 + 1) = -1000000) ∧ (k = 8 → i = 0 ∧ c (q + 2) (i * 14 + 7) = m 1 (P + 3 + 14 * i + 7) ∧ c (q + 2) (i * 14 + 8) = m 1 (P + 3 + 14 * i + 8) ∧ Nb R (c (q + 2) (i * 14 + 7)) (c (q + 2) (i * 14 + 8)))) ∧
  (∃ v : Nat, v ≤ 23 ∧ c (q + 2) (i * 14 + 2) = nI v ∧ m 1 (P + 3 + 14 * i + 2) = nI v) ∧
  (∃ v : Nat, v ≤ 450 ∧ c (q + 2) (i * 14 + 3) = nI v ∧ m 1 (P + 3 + 14 * i + 3) = nI v) ∧
  (∃ v : Nat, v ≤ 1 ∧ c (q + 2) (i * 14 + 4) = nI v ∧ m 1 (P + 3 + 14 * i + 4) = nI v) ∧
  (∃ v : Nat, v ≤ 200 ∧ c (q + 2) (i * 14 + 5) = nI v ∧ m 1 (P + 3 + 14 * i + 5) = nI v) ∧
  (∃ v : Nat, v ≤ 9 ∧ c (q + 2) (i * 14 + 6) = nI v ∧ m 1 (P + 3 + 14 * i + 6) = nI v) ∧
  (∃ v : Nat, v ≤ 450 ∧ c (q + 2) (i * 14 + 9) = nI v ∧ m 1 (P + 3 + 14 * i + 9) = nI v) ∧
  (∃ v : Nat, v ≤ 450 ∧ c (q + 2) (i * 14 + 10) = nI v ∧ m 1 (P + 3 + 14 * i + 10) = nI v) ∧
  (∃ v : Nat, 100 ≤ v ∧ v ≤ 999 ∧ c (q + 2) (i * 14 + 11) = nI v ∧ m 1 (P + 3 + 14 * i + 11) = nI v) ∧
  (∃ v : Nat, v ≤ 1 ∧ c (q + 2) (i * 14 + 12) = nI v ∧ m 1 (P + 3 + 14 * i + 12) = nI v) ∧
  (∃ v : Nat, v ≤ 1 ∧ c (q + 2) (i * 14 + 13) = nI v ∧ m 1 (P + 3 + 14 * i + 13) = nI v)
theorem LegR.kd {c m : St} {q P : Nat} {R : Int} {i : Nat} (h : LegR c m q P R i) : ∃ k : Nat, k < 9 ∧ c (q + 2) (i * 14 + 0) = nI k ∧ m 1 (P + 3 + 14 * i + 0) = nI k ∧ (hfx k → ∃ f F : Nat, f < F ∧ F ≤ 16 ∧ True ∧ c (q + 2) (i * 14 + 1) = nI f ∧ m 1 (P + 3 + 14 * i + 1) = nI f ∧ c (q + 2) (i * 14 + 7) = m 3 f ∧ c (q + 2) (i * 14 + 8) = m 4 f ∧ Nb 14143 (m 3 f) (m 4 f)) ∧ (¬ hfx k → c (q + 2) (i * 14 + 1) = -1000000) ∧ (k = 8 → i = 0 ∧ c (q + 2) (i * 14 + 7) = m 1 (P + 3 + 14 * i + 7) ∧ c (q + 2) (i * 14 + 8) = m 1 (P + 3 + 14 * i + 8) ∧ Nb R (c (q + 2) (i * 14 + 7)) (c (q + 2) (i * 14 + 8))) := h.1
theorem LegR.crs {c m : St} {q P : Nat} {R : Int} {i : Nat} (h : LegR c m q P R i) : ∃ v : Nat, v ≤ 23 ∧ c (q + 2) (i * 14 + 2) = nI v ∧ m 1 (P + 3 + 14 * i + 2) = nI v := h.2.1
theorem LegR.tgt {c m : St} {q P : Nat} {R : Int} {i : Nat} (h : LegR c m q P R i) : ∃ v : Nat, v ≤ 450 ∧ c (q + 2) (i * 14 + 3) = nI v ∧ m 1 (P + 3 + 14 * i + 3) = nI v := h.2.2.1
theorem LegR.rgt {c m : St} {q P : Nat} {R : Int} {i : Nat} (h : LegR c m q P R i) : ∃ v : Nat, v ≤ 1 ∧ c (q + 2) (i * 14 + 4) = nI v ∧ m 1 (P + 3 + 14 * i + 4) = nI v := h.2.2.2.1
theorem LegR.sid {c m : St} {q P : Nat} {R : Int} {i : Nat} (h : LegR c m q P R i) : ∃ v : Nat, v ≤ 200 ∧ c (q + 2) (i * 14 + 5) = nI v ∧ m 1 (P + 3 + 14 * i + 5) = nI v := h.2.2.2.2.1
theorem LegR.cir {c m : St} {q P : Nat} {R : Int} {i : Nat} (h : LegR c m q P R i) : ∃ v : Nat, v ≤ 9 ∧ c (q + 2) (i * 14 + 6) = nI v ∧ m 1 (P + 3 + 14 * i + 6) = nI v := h.2.2.2.2.2.1
theorem LegR.low {c m : St} {q P : Nat} {R : Int} {i : Nat} (h : LegR c m q P R i) : ∃ v : Nat, v ≤ 450 ∧ c (q + 2) (i * 14 + 9) = nI v ∧ m 1 (P + 3 + 14 * i + 9) = nI v := h.2.2.2.2.2.2.1
theorem LegR.hgh {c m : St} {q P : Nat} {R : Int} {i : Nat} (h : LegR c m q P R i) : ∃ v : Nat, v ≤ 450 ∧ c (q + 2) (i * 14 + 10) = nI v ∧ m 1 (P + 3 + 14 * i + 10) = nI v := h.2.2.2.2.2.2.2.1
theorem LegR.lim {c m : St} {q P : Nat} {R : Int} {i : Nat} (h : LegR c m q P R i) : ∃ v : Nat, 100 ≤ v ∧ v ≤ 999 ∧ c (q + 2) (i * 14 + 11) = nI v ∧ m 1 (P + 3 + 14 * i + 11) = nI v := h.2.2.2.2.2.2.2.2.1
theorem LegR.ovr {c m : St} {q P : Nat} {R : Int} {i : Nat} (h : LegR c m q P R i) : ∃ v : Nat, v ≤ 1 ∧ c (q + 2) (i * 14 + 12) = nI v ∧ m 1 (P + 3 + 14 * i + 12) = nI v := h.2.2.2.2.2.2.2.2.2.1
theorem LegR.gap {c m : St} {q P : Nat} {R : Int} {i : Nat} (h : LegR c m q P R i) : ∃ v : Nat, v ≤ 1 ∧ c (q + 2) (i * 14 + 13) = nI v ∧ m 1 (P + 3 + 14 * i + 13) = nI v := h.2.2.2.2.2.2.2.2.2.2
def PlanR (c m : St) (q P : Nat) (R : Int) (n : Nat) : Prop :=
  (n ≤ 21) ∧
  (c q 1 = nI n) ∧
  (m 1 P = nI n) ∧
  (P = 0 ∨ P = 297 ∨ P = 594) ∧
  (∀ i, i < n → LegR c m q P R i)
theorem PlanR.le {c m : St} {q P : Nat} {R : Int} {n : Nat} (h : PlanR c m q P R n) : n ≤ 21 := h.1
theorem PlanR.cc {c m : St} {q P : Nat} {R : Int} {n : Nat} (h : PlanR c m q P R n) : c q 1 = nI n := h.2.1
theorem PlanR.cm {c m : St} {q P : Nat} {R : Int} {n : Nat} (h : PlanR c m q P R n) : m 1 P = nI n := h.2.2.1
theorem PlanR.off {c m : St} {q P : Nat} {R : Int} {n : Nat} (h : PlanR c m q P R n) : P = 0 ∨ P = 297 ∨ P = 594 := h.2.2.2.1
theorem PlanR.leg {c m : St} {q P : Nat} {R : Int} {n : Nat} (h : PlanR c m q P R n) : ∀ i, i < n → LegR c m q P R i := h.2.2.2.2

theorem LegR.of {c m c' m' : St} {q P i : Nat} {R : Int} (h : LegR c m q P R i) (h1 : c' (q + 2) = c (q + 2)) (h2 : c' 1 = c 1) (h3 : m' 1 = m 1) (h4 : m' 3 = m 3) (h5 : m' 4 = m 4) : LegR c' m' q P R i := by
  unfold LegR at *
  rw [h1, h3, h4, h5]
  exact h
theorem PlanR.of {c m c' m' : St} {q P n : Nat} {R : Int} (h : PlanR c m q P R n) (h0 : c' q = c q) (h1 : c' (q + 2) = c (q + 2)) (h2 : c' 1 = c 1) (h3 : m' 1 = m 1) (h4 : m' 3 = m 3) (h5 : m' 4 = m 4) : PlanR c' m' q P R n :=
  ⟨h.le, by rw [h0]; exact h.cc, by rw [h3]; exact h.cm, h.off, fun i hi => (h.leg i hi).of h1 h2 h3 h4 h5⟩
theorem LegR.of1 {c m c' m' : St} {q P i : Nat} {R : Int} (h : LegR c m q P R i) (h1 : c' (q + 2) = c (q + 2)) (h3 : m' 1 = m 1) (h4 : m' 3 = m 3) (h5 : m' 4 = m 4) : LegR c' m' q P R i := by
  unfold LegR at *
  rw [h1, h3, h4, h5]
  exact h
theorem PlanR.of1 {c m c' m' : St} {q P n : Nat} {R : Int} (h : PlanR c m q P R n) (h0 : c' q = c q) (h1 : c' (q + 2) = c (q + 2)) (h3 : m' 1 = m 1) (h4 : m' 3 = m 3) (h5 : m' 4 = m 4) : PlanR c' m' q P R n :=
  ⟨h.le, by rw [h0]; exact h.cc, by rw [h3]; exact h.cm, h.off, fun i hi => (h.leg i hi).of1 h1 h3 h4 h5⟩
theorem PlanR.Pl {c m : St} {q P n : Nat} {R : Int} (h : PlanR c m q P R n) : P ≤ 2376 := by rcases h.off with e | e | e <;> omega
def dsq (x y u v : Int32) : Int := (u.toInt - x.toInt) * (u.toInt - x.toInt) + (v.toInt - y.toInt) * (v.toInt - y.toInt)
theorem dsq_comm (x y u v : Int32) : dsq x y u v = dsq u v x y := by unfold dsq; grind
def SgR (N : Nat) (c m : St) (b : Nat) (R : Int) (k : Nat) : Prop :=
  (∃ g : Nat, g < N ∧ c (b + 5) (k * 16 + 0) = nI g ∧ m 7 k = nI g) ∧
  (c (b + 5) (k * 16 + 1) = m 8 k) ∧
  (c (b + 5) (k * 16 + 2) = m 9 k) ∧
  (c (b + 5) (k * 16 + 3) = m 10 k) ∧
  (c (b + 5) (k * 16 + 4) = m 11 k) ∧
  (Nb R (m 8 k) (m 9 k)) ∧
  (Nb R (m 10 k) (m 11 k)) ∧
  (∃ l : Nat, 1 ≤ l ∧ (l : Int) ≤ R + 14200 ∧ c (b + 5) (k * 16 + 5) = nI l ∧ m 12 k = nI l ∧ dsq (m 8 k) (m 9 k) (m 10 k) (m 11 k) ≤ ((l : Int) + 2) * (l + 2)) ∧
  (∃ v : Nat, v < 24 ∧ c (b + 5) (k * 16 + 6) = nI v ∧ m 13 k = nI v) ∧
  ((c (b + 5) (k * 16 + 7) = -1 ∧ m 14 k = -1) ∨ (∃ g v l : Nat, g < N ∧ v < 24 ∧ (l : Int) ≤ R + 14200 ∧ c (b + 5) (k * 16 + 7) = nI g ∧ m 16 k = nI g ∧ c (b + 5) (k * 16 + 8) = nI v ∧ m 14 k = nI v ∧ c (b + 5) (k * 16 + 9) = nI l ∧ m 15 k = nI l)) ∧
  ((c (b + 5) (k * 16 + 10) = 1 ∧ 0 < k ∧ m 17 k = nI (k - 1) ∧ m 15 k = m 12 (k - 1)) ∨ (c (b + 5) (k * 16 + 10) = 0 ∧ m 17 k = -1))
theorem SgR.leg {N : Nat} {c m : St} {b : Nat} {R : Int} {k : Nat} (h : SgR N c m b R k) : ∃ g : Nat, g < N ∧ c (b + 5) (k * 16 + 0) = nI g ∧ m 7 k = nI g := h.1
theorem SgR.sx {N : Nat} {c m : St} {b : Nat} {R : Int} {k : Nat} (h : SgR N c m b R k) : c (b + 5) (k * 16 + 1) = m 8 k := h.2.1
theorem SgR.sy {N : Nat} {c m : St} {b : Nat} {R : Int} {k : Nat} (h : SgR N c m b R k) : c (b + 5) (k * 16 + 2) = m 9 k := h.2.2.1
theorem SgR.tx {N : Nat} {c m : St} {b : Nat} {R : Int} {k : Nat} (h : SgR N c m b R k) : c (b + 5) (k * 16 + 3) = m 10 k := h.2.2.2.1
theorem SgR.ty {N : Nat} {c m : St} {b : Nat} {R : Int} {k : Nat} (h : SgR N c m b R k) : c (b + 5) (k * 16 + 4) = m 11 k := h.2.2.2.2.1
theorem SgR.nbs {N : Nat} {c m : St} {b : Nat} {R : Int} {k : Nat} (h : SgR N c m b R k) : Nb R (m 8 k) (m 9 k) := h.2.2.2.2.2.1
theorem SgR.nbt {N : Nat} {c m : St} {b : Nat} {R : Int} {k : Nat} (h : SgR N c m b R k) : Nb R (m 10 k) (m 11 k) := h.2.2.2.2.2.2.1
theorem SgR.len {N : Nat} {c m : St} {b : Nat} {R : Int} {k : Nat} (h : SgR N c m b R k) : ∃ l : Nat, 1 ≤ l ∧ (l : Int) ≤ R + 14200 ∧ c (b + 5) (k * 16 + 5) = nI l ∧ m 12 k = nI l ∧ dsq (m 8 k) (m 9 k) (m 10 k) (m 11 k) ≤ ((l : Int) + 2) * (l + 2) := h.2.2.2.2.2.2.2.1
theorem SgR.crs {N : Nat} {c m : St} {b : Nat} {R : Int} {k : Nat} (h : SgR N c m b R k) : ∃ v : Nat, v < 24 ∧ c (b + 5) (k * 16 + 6) = nI v ∧ m 13 k = nI v := h.2.2.2.2.2.2.2.2.1
theorem SgR.inn {N : Nat} {c m : St} {b : Nat} {R : Int} {k : Nat} (h : SgR N c m b R k) : (c (b + 5) (k * 16 + 7) = -1 ∧ m 14 k = -1) ∨ (∃ g v l : Nat, g < N ∧ v < 24 ∧ (l : Int) ≤ R + 14200 ∧ c (b + 5) (k * 16 + 7) = nI g ∧ m 16 k = nI g ∧ c (b + 5) (k * 16 + 8) = nI v ∧ m 14 k = nI v ∧ c (b + 5) (k * 16 + 9) = nI l ∧ m 15 k = nI l) := h.2.2.2.2.2.2.2.2.2.1
theorem SgR.lnk {N : Nat} {c m : St} {b : Nat} {R : Int} {k : Nat} (h : SgR N c m b R k) : (c (b + 5) (k * 16 + 10) = 1 ∧ 0 < k ∧ m 17 k = nI (k - 1) ∧ m 15 k = m 12 (k - 1)) ∨ (c (b + 5) (k * 16 + 10) = 0 ∧ m 17 k = -1) := h.2.2.2.2.2.2.2.2.2.2
def SR (N : Nat) (c m : St) (b : Nat) (R : Int) (r : Nat) : Prop :=
  (c (b + 3) 4 = nI r) ∧
  (m 0 30 = nI r) ∧
  (∀ k, k < r → SgR N c m b R k) ∧
  (∀ k j, k < 42 → 11 ≤ j → j < 16 → c (b + 5) (k * 16 + j) = 0)
theorem SR.cc {N : Nat} {c m : St} {b : Nat} {R : Int} {r : Nat} (h : SR N c m b R r) : c (b + 3) 4 = nI r := h.1
theorem SR.cm {N : Nat} {c m : St} {b : Nat} {R : Int} {r : Nat} (h : SR N c m b R r) : m 0 30 = nI r := h.2.1
theorem SR.row {N : Nat} {c m : St} {b : Nat} {R : Int} {r : Nat} (h : SR N c m b R r) : ∀ k, k < r → SgR N c m b R k := h.2.2.1
theorem SR.zz {N : Nat} {c m : St} {b : Nat} {R : Int} {r : Nat} (h : SR N c m b R r) : ∀ k j, k < 42 → 11 ≤ j → j < 16 → c (b + 5) (k * 16 + j) = 0 := h.2.2.2
def IR (N : Nat) (c m : St) (b : Nat) (R : Int) (r : Nat) : Prop :=
  ((c (b + 3) 7 = -1 ∧ m 0 31 = -1) ∨ (∃ g v l : Nat, g < N ∧ v < 24 ∧ (l : Int) ≤ R + 14200 ∧ c (b + 3) 7 = nI g ∧ m 0 33 = nI g ∧ c (b + 3) 8 = nI v ∧ m 0 31 = nI v ∧ c (b + 3) 9 = nI l ∧ m 0 32 = nI l)) ∧
  ((c (b + 3) 10 = 1 ∧ 0 < r ∧ m 0 34 = nI (r - 1) ∧ m 0 32 = m 12 (r - 1)) ∨ (c (b + 3) 10 = 0 ∧ m 0 34 = -1))
theorem IR.inn {N : Nat} {c m : St} {b : Nat} {R : Int} {r : Nat} (h : IR N c m b R r) : (c (b + 3) 7 = -1 ∧ m 0 31 = -1) ∨ (∃ g v l : Nat, g < N ∧ v < 24 ∧ (l : Int) ≤ R + 14200 ∧ c (b + 3) 7 = nI g ∧ m 0 33 = nI g ∧ c (b + 3) 8 = nI v ∧ m 0 31 = nI v ∧ c (b + 3) 9 = nI l ∧ m 0 32 = nI l) := h.1
theorem IR.lnk {N : Nat} {c m : St} {b : Nat} {R : Int} {r : Nat} (h : IR N c m b R r) : (c (b + 3) 10 = 1 ∧ 0 < r ∧ m 0 34 = nI (r - 1) ∧ m 0 32 = m 12 (r - 1)) ∨ (c (b + 3) 10 = 0 ∧ m 0 34 = -1) := h.2

theorem SgR.of {c m c' m' : St} {b k : Nat} {R : Int} (h : SgR N c m b R k) (h1 : ∀ j, j < 11 → c' (b + 5) (k * 16 + j) = c (b + 5) (k * 16 + j)) (h2 : ∀ a, 7 ≤ a → a ≤ 17 → m' a k = m a k) (h3 : 0 < k → m' 12 (k - 1) = m 12 (k - 1)) : SgR N c' m' b R k := by
  obtain ⟨a1, a2, a3, a4, a5, a6, a7, a8, a9, a10, a11⟩ := h
  unfold SgR
  rw [h1 0 (by decide), h1 1 (by decide), h1 2 (by decide), h1 3 (by decide), h1 4 (by decide), h1 5 (by decide), h1 6 (by decide), h1 7 (by decide), h1 8 (by decide), h1 9 (by decide), h1 10 (by decide), h2 7 (by decide) (by decide), h2 8 (by decide) (by decide), h2 9 (by decide) (by decide), h2 10 (by decide) (by decide), h2 11 (by decide) (by decide), h2 12 (by decide) (by decide), h2 13 (by decide) (by decide), h2 14 (by decide) (by decide), h2 15 (by decide) (by decide), h2 16 (by decide) (by decide), h2 17 (by decide) (by decide)]
  refine ⟨a1, a2, a3, a4, a5, a6, a7, a8, a9, a10, ?_⟩
  rcases a11 with ⟨x1, x2, x3, x4⟩ | x
  · exact Or.inl ⟨x1, x2, x3, by rw [h3 x2]; exact x4⟩
  · exact Or.inr x
theorem SR.of {c m c' m' : St} {b r : Nat} {R : Int} (h : SR N c m b R r) (h0 : c' (b + 3) 4 = c (b + 3) 4) (h1 : c' (b + 5) = c (b + 5)) (h2 : m' 0 30 = m 0 30) (h3 : ∀ a, 7 ≤ a → a ≤ 17 → m' a = m a) : SR N c' m' b R r :=
  ⟨by rw [h0]; exact h.cc, by rw [h2]; exact h.cm, fun k hk => (h.row k hk).of (fun j _ => by rw [h1]) (fun a p q => by rw [h3 a p q]) (fun _ => by rw [h3 12 (by decide) (by decide)]), fun k j a1 a2 a3 => by rw [h1]; exact h.zz k j a1 a2 a3⟩
theorem IR.of {c m c' m' : St} {b r : Nat} {R : Int} (h : IR N c m b R r) (h0 : c' (b + 3) 7 = c (b + 3) 7) (h1 : c' (b + 3) 8 = c (b + 3) 8) (h2 : c' (b + 3) 9 = c (b + 3) 9) (h3 : c' (b + 3) 10 = c (b + 3) 10) (h4 : ∀ k, 31 ≤ k → k ≤ 34 → m' 0 k = m 0 k) (h5 : 0 < r → m' 12 (r - 1) = m 12 (r - 1)) : IR N c' m' b R r := by
  obtain ⟨a1, a2⟩ := h
  unfold IR
  rw [h0, h1, h2, h3, h4 31 (by decide) (by decide), h4 32 (by decide) (by decide), h4 33 (by decide) (by decide), h4 34 (by decide) (by decide)]
  refine ⟨a1, ?_⟩
  rcases a2 with ⟨x1, x2, x3, x4⟩ | x
  · exact Or.inl ⟨x1, x2, x3, by rw [h5 x2]; exact x4⟩
  · exact Or.inr x
theorem msg2_e {m : St} {r : Nat} {leg x y len crs : Int32} {a k : Nat} (h : ¬ (a = 8 ∧ k = r)) (h2 : ¬ (a = 9 ∧ k = r)) : msg2 m r leg x y len crs a k = msg m r leg x y len crs a k := by
  unfold msg2
  rw [s2_nk (by omega), s2_nk (by omega)]
theorem msg2_8 {m : St} {r : Nat} {leg x y len crs : Int32} : msg2 m r leg x y len crs 8 r = m 0 42 := by
  unfold msg2
  rw [s2_nk (Or.inl (by decide)), s2_at]
theorem msg2_9 {m : St} {r : Nat} {leg x y len crs : Int32} : msg2 m r leg x y len crs 9 r = m 0 43 := by
  unfold msg2
  rw [s2_at]
theorem Dm_asg {c : St} {b q r : Nat} {leg toX toY len crs : Int32} (hI : PI b q) (hD : Dm c) : Dm (asg c b r leg toX toY len crs) :=
  hD.of (fun t k ht => asg_else (fun e => by rw [e, hI.nt.2.2.1] at ht; cases ht) (fun e => by rw [e, hI.nt.2.2.2.1] at ht; cases ht))
/-- a segment more, on both sides -/
theorem seg_lock {c m : St} {b r g v l : Nat} {R : Int} {tx ty : Int32} (hS : SR N c m b R r) (hN : IR N c m b R r) (hr : r < 42) (hg : g < 21) (hgN : g < N) (hv : v < 24) (hl : 1 ≤ l) (hl2 : (l : Int) ≤ R + 14200) (hR : R ≤ 5940000) (hx : c (b + 3) 5 = m 0 42) (hy : c (b + 3) 6 = m 0 43) (hs : Nb R (m 0 42) (m 0 43)) (ht : Nb R tx ty) (hdd : dsq (m 0 42) (m 0 43) tx ty ≤ ((l : Int) + 2) * (l + 2)) :
    SR N (asg c b r (nI g) tx ty (nI l) (nI v)) (msg2 m r (nI g) tx ty (nI l) (nI v)) b R (r + 1) ∧ IR N (asg c b r (nI g) tx ty (nI l) (nI v)) (msg2 m r (nI g) tx ty (nI l) (nI v)) b R (r + 1) := by
  refine ⟨⟨by rw [asgf_4, nI_1], by rw [msg2_e (by omega) (by omega), msgf_30, nI_1], fun k hk => ?_, fun k j a1 a2 a3 => ?_⟩, Or.inr ⟨g, v, l, hgN, hv, hl2, asgf_7, ?_, asgf_8, ?_, asgf_9, ?_⟩, Or.inl ⟨asgf_10, by omega, ?_, ?_⟩⟩
  · by_cases e : k = r
    · subst e
      refine ⟨⟨g, hgN, asg_0, ?_⟩, ?_, ?_, ?_, ?_, ?_, ?_, ⟨l, hl, hl2, asg_5, ?_, ?_⟩, ⟨v, hv, asg_6, ?_⟩, ?_, ?_⟩
      · rw [msg2_e (by omega) (by omega), msg_7]
      · rw [asg_1, msg2_8, hx]
      · rw [asg_2, msg2_9, hy]
      · rw [asg_3, msg2_e (by omega) (by omega), msg_10]
      · rw [asg_4, msg2_e (by omega) (by omega), msg_11]
      · rw [msg2_8, msg2_9]
        exact hs
      · rw [msg2_e (by omega) (by omega), msg_10, msg2_e (by omega) (by omega), msg_11]
        exact ht
      · rw [msg2_e (by omega) (by omega), msg_12]
      · rw [msg2_8, msg2_9, msg2_e (by omega) (by omega), msg_10, msg2_e (by omega) (by omega), msg_11]
        exact hdd
      · rw [msg2_e (by omega) (by omega), msg_13]
      · rw [asg_7, asg_8, asg_9, msg2_e (a := 14) (by omega) (by omega), msg_14, msg2_e (a := 15) (by omega) (by omega), msg_15, msg2_e (a := 16) (by omega) (by omega), msg_16]
        exact hN.inn
      · rw [asg_10, msg2_e (by omega) (by omega), msg_17]
        rcases hN.lnk with ⟨e1, e2, e3, e4⟩ | ⟨e1, e2⟩
        · exact Or.inl ⟨by rw [e1]; rfl, e2, e3, by rw [msg2_e (a := 15) (by omega) (by omega), msg_15, msg2_e (a := 12) (by omega) (by omega), msg_old (by omega) (by omega)]; exact e4⟩
        · exact Or.inr ⟨by rw [e1]; rfl, e2⟩
    · refine (hS.row k (by omega)).of (fun j hj => asg_old (by omega)) (fun a p q => ?_) (fun _ => ?_)
      · rw [msg2_e (by omega) (by omega), msg_old (by omega) e]
      · rw [msg2_e (by omega) (by omega), msg_old (by omega) (by omega)]
  · rw [asg_old (by omega)]
    exact hS.zz k j a1 a2 a3
  · rw [msg2_e (by omega) (by omega), msgf_33]
  · rw [msg2_e (by omega) (by omega), msgf_31]
  · rw [msg2_e (by omega) (by omega), msgf_32]
  · rw [msg2_e (by omega) (by omega), msgf_34]
    rfl
  · rw [Nat.add_sub_cancel, msg2_e (by omega) (by omega), msgf_32, msg2_e (by omega) (by omega), msg_12]
