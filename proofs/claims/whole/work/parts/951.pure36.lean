/-! the invariant of both sides -/

/-- may a leg that ends at no fix follow leg 0? -/
def zp (c : St) (q n : Nat) : Int := if 2 ≤ n ∧ (c (q + 2) (1 * 14 + 0) = 4 ∨ c (q + 2) (1 * 14 + 0) = 5 ∨ c (q + 2) (1 * 14 + 0) = 6) ∧ c (q + 2) (1 * 14 + 13) = 0 then 1 else 0
def sp (cur fl : Nat) : Int := if cur = 0 ∧ fl = 0 then 0 else 1
theorem zp_b (c : St) (q n : Nat) : 0 ≤ zp c q n ∧ zp c q n ≤ 1 := by unfold zp; split <;> decide
theorem sp_b (cur fl : Nat) : 0 ≤ sp cur fl ∧ sp cur fl ≤ 1 := by unfold sp; split <;> decide
/-- a plan that is edited, or was -/
def FB (c : St) (q n : Nat) : Prop := ∀ i k : Nat, i < n → c (q + 2) (i * 14 + 0) = nI k → k < 9 → hfx k → (c (q + 2) (i * 14 + 1)).toInt < (c 1 1).toInt
theorem FB.of {c c' : St} {q n : Nat} (h : FB c q n) (h1 : c' (q + 2) = c (q + 2)) (h2 : c' 1 1 = c 1 1) : FB c' q n := by
  unfold FB at *
  rw [h1, h2]
  exact h
def MP (t : Nat) (c m : St) (q P n cu rs : Nat) (R : Int) (cur fl : Nat) : Prop :=
  1 ≤ n ∧ n ≤ 20 ∧ (∀ i, i < n → LegR c m q P R i) ∧ (cu < n ∧ FB c q n) ∧ rs ≤ 1 ∧ 14200 ≤ R ∧ (rs = 1 → cu = 0 ∧ R + 11460 * zp c q n ≤ 14200 + 11460 * ((t : Int) + 1)) ∧ (rs = 0 → cu = cur ∧ R + 11460 * (zp c q n + sp cur fl) ≤ 14200 + 11460 * (t : Int))
/-- the class's cells with a state of the history in the place of the modified plan's legs -/
def vw (c : St) (s : Nat) : St := fun a k => if a = 13 then c 51 (s * 280 + k) else c a k
def HE (t : Nat) (c m : St) (cur fl s j : Nat) : Prop := ∃ e : Nat, (e ≤ 1 ∧ (0 < j → e = 1)) ∧ c 49 (s * 4 + 0) = nI e ∧ m 2 j = nI e ∧ (e = 1 → ∃ (n cu rs : Nat) (R : Int), c 49 (s * 4 + 1) = nI n ∧ m 1 (891 + 297 * j) = nI n ∧ c 49 (s * 4 + 2) = nI cu ∧ m 1 (891 + 297 * j + 1) = nI cu ∧ c 49 (s * 4 + 3) = nI rs ∧ m 1 (891 + 297 * j + 2) = nI rs ∧ MP t (vw c s) m 11 (891 + 297 * j) n cu rs R cur fl)
def IB (t : Nat) (c m : St) (na cur fl ed nm : Nat) (Ra : Int) : Prop :=
  (Dm c) ∧
  (RefK m) ∧
  (SetR c m) ∧
  (∃ F : Nat, F ≤ 16 ∧ c 1 1 = nI F ∧ m 0 7 = nI F ∧ FB c 8 na ∧ ∀ f, f < F → c 3 (f * 2 + 0) = m 3 f ∧ c 3 (f * 2 + 1) = m 4 f ∧ -9999 ≤ (m 3 f).toInt ∧ (m 3 f).toInt ≤ 9999 ∧ -9999 ≤ (m 4 f).toInt ∧ (m 4 f).toInt ≤ 9999) ∧
  (∃ L : Nat, L ≤ 200 ∧ L ≤ t ∧ c 4 3 = nI L ∧ m 0 68 = nI L ∧ ∀ k, k < L → c 5 k = m 41 k ∧ 0 ≤ (c 5 k).toInt ∧ (c 5 k).toInt ≤ 255) ∧
  (PlanR c m 8 0 Ra na) ∧
  (na ≤ 20) ∧
  (c 8 2 = nI cur ∧ m 1 1 = nI cur ∧ c 8 3 = 0) ∧
  ((na = 0 → cur = 0 ∧ fl = 0) ∧ (0 < na → cur < na ∧ 3 ≤ t)) ∧
  (14200 ≤ Ra ∧ Ra + 11460 * (zp c 8 na + sp cur fl) ≤ 14200 + 11460 * (t : Int)) ∧
  (ed ≤ 1 ∧ c 0 10 = nI ed ∧ m 0 1 = nI ed ∧ (ed = 1 → 2 ≤ t)) ∧
  (ed = 1 → ∃ (cu rs : Nat) (R : Int), c 11 1 = nI nm ∧ m 1 297 = nI nm ∧ c 11 2 = nI cu ∧ m 1 298 = nI cu ∧ c 11 3 = nI rs ∧ m 1 299 = nI rs ∧ MP t c m 11 297 nm cu rs R cur fl) ∧
  (∃ sz nx : Nat, (sz ≤ 6 ∧ (ed = 0 → sz = 0)) ∧ nx < 6 ∧ c 47 3 = nI sz ∧ m 0 2 = nI sz ∧ c 47 2 = nI nx ∧ ∀ j, j < sz → HE t c m cur fl ((nx + 6 - sz + j) % 6) j) ∧
  (c 52 2 = nI fl ∧ m 0 4 = nI fl ∧ fl ≤ 800000000) ∧
  (0 < na → ∃ m1, Pth c 8 0 na m1 ∧ (fl : Int) ≤ (m1 37 cur).toInt)
theorem IB.D {t : Nat} {c m : St} {na cur fl ed nm : Nat} {Ra : Int} (h : IB t c m na cur fl ed nm Ra) : Dm c := h.1
theorem IB.K {t : Nat} {c m : St} {na cur fl ed nm : Nat} {Ra : Int} (h : IB t c m na cur fl ed nm Ra) : RefK m := h.2.1
theorem IB.S {t : Nat} {c m : St} {na cur fl ed nm : Nat} {Ra : Int} (h : IB t c m na cur fl ed nm Ra) : SetR c m := h.2.2.1
theorem IB.F {t : Nat} {c m : St} {na cur fl ed nm : Nat} {Ra : Int} (h : IB t c m na cur fl ed nm Ra) : ∃ F : Nat, F ≤ 16 ∧ c 1 1 = nI F ∧ m 0 7 = nI F ∧ FB c 8 na ∧ ∀ f, f < F → c 3 (f * 2 + 0) = m 3 f ∧ c 3 (f * 2 + 1) = m 4 f ∧ -9999 ≤ (m 3 f).toInt ∧ (m 3 f).toInt ≤ 9999 ∧ -9999 ≤ (m 4 f).toInt ∧ (m 4 f).toInt ≤ 9999 := h.2.2.2.1
theorem IB.L {t : Nat} {c m : St} {na cur fl ed nm : Nat} {Ra : Int} (h : IB t c m na cur fl ed nm Ra) : ∃ L : Nat, L ≤ 200 ∧ L ≤ t ∧ c 4 3 = nI L ∧ m 0 68 = nI L ∧ ∀ k, k < L → c 5 k = m 41 k ∧ 0 ≤ (c 5 k).toInt ∧ (c 5 k).toInt ≤ 255 := h.2.2.2.2.1
theorem IB.A {t : Nat} {c m : St} {na cur fl ed nm : Nat} {Ra : Int} (h : IB t c m na cur fl ed nm Ra) : PlanR c m 8 0 Ra na := h.2.2.2.2.2.1
theorem IB.a20 {t : Nat} {c m : St} {na cur fl ed nm : Nat} {Ra : Int} (h : IB t c m na cur fl ed nm Ra) : na ≤ 20 := h.2.2.2.2.2.2.1
theorem IB.ac {t : Nat} {c m : St} {na cur fl ed nm : Nat} {Ra : Int} (h : IB t c m na cur fl ed nm Ra) : c 8 2 = nI cur ∧ m 1 1 = nI cur ∧ c 8 3 = 0 := h.2.2.2.2.2.2.2.1
theorem IB.an {t : Nat} {c m : St} {na cur fl ed nm : Nat} {Ra : Int} (h : IB t c m na cur fl ed nm Ra) : (na = 0 → cur = 0 ∧ fl = 0) ∧ (0 < na → cur < na ∧ 3 ≤ t) := h.2.2.2.2.2.2.2.2.1
theorem IB.ab {t : Nat} {c m : St} {na cur fl ed nm : Nat} {Ra : Int} (h : IB t c m na cur fl ed nm Ra) : 14200 ≤ Ra ∧ Ra + 11460 * (zp c 8 na + sp cur fl) ≤ 14200 + 11460 * (t : Int) := h.2.2.2.2.2.2.2.2.2.1
theorem IB.E {t : Nat} {c m : St} {na cur fl ed nm : Nat} {Ra : Int} (h : IB t c m na cur fl ed nm Ra) : ed ≤ 1 ∧ c 0 10 = nI ed ∧ m 0 1 = nI ed ∧ (ed = 1 → 2 ≤ t) := h.2.2.2.2.2.2.2.2.2.2.1
theorem IB.M {t : Nat} {c m : St} {na cur fl ed nm : Nat} {Ra : Int} (h : IB t c m na cur fl ed nm Ra) : ed = 1 → ∃ (cu rs : Nat) (R : Int), c 11 1 = nI nm ∧ m 1 297 = nI nm ∧ c 11 2 = nI cu ∧ m 1 298 = nI cu ∧ c 11 3 = nI rs ∧ m 1 299 = nI rs ∧ MP t c m 11 297 nm cu rs R cur fl := h.2.2.2.2.2.2.2.2.2.2.2.1
theorem IB.H {t : Nat} {c m : St} {na cur fl ed nm : Nat} {Ra : Int} (h : IB t c m na cur fl ed nm Ra) : ∃ sz nx : Nat, (sz ≤ 6 ∧ (ed = 0 → sz = 0)) ∧ nx < 6 ∧ c 47 3 = nI sz ∧ m 0 2 = nI sz ∧ c 47 2 = nI nx ∧ ∀ j, j < sz → HE t c m cur fl ((nx + 6 - sz + j) % 6) j := h.2.2.2.2.2.2.2.2.2.2.2.2.1
theorem IB.f {t : Nat} {c m : St} {na cur fl ed nm : Nat} {Ra : Int} (h : IB t c m na cur fl ed nm Ra) : c 52 2 = nI fl ∧ m 0 4 = nI fl ∧ fl ≤ 800000000 := h.2.2.2.2.2.2.2.2.2.2.2.2.2.1
theorem IB.FL {t : Nat} {c m : St} {na cur fl ed nm : Nat} {Ra : Int} (h : IB t c m na cur fl ed nm Ra) : 0 < na → ∃ m1, Pth c 8 0 na m1 ∧ (fl : Int) ≤ (m1 37 cur).toInt := h.2.2.2.2.2.2.2.2.2.2.2.2.2.2

def CA (c : St) (na : Nat) : Prop := c 17 5 = 0 → ∃ m1, Pth c 8 0 na m1 ∧ VR c m1 17 0 na
def CM (c : St) (ed nm : Nat) : Prop := ed = 1 → c 27 5 = 0 → ∃ m1, Pth c 11 297 nm m1 ∧ VR c m1 27 297 nm
def INV (t : Nat) (c m : St) : Prop := ∃ (na cur fl ed nm : Nat) (Ra : Int), IB t c m na cur fl ed nm Ra ∧ CA c na ∧ CM c ed nm
theorem MP.of {t : Nat} {c m c' m' : St} {q P n cu rs cur fl : Nat} {R : Int} (h : MP t c m q P n cu rs R cur fl) (h1 : c' (q + 2) = c (q + 2)) (h2 : c' 1 1 = c 1 1) (h3 : m' 1 = m 1) (h4 : m' 3 = m 3) (h5 : m' 4 = m 4) : MP t c' m' q P n cu rs R cur fl := by
  obtain ⟨a1, a2, a3, a4⟩ := h
  refine ⟨a1, a2, fun i hi => ?_, ?_⟩
  · exact (a3 i hi).of1 h1 h3 h4 h5
  · unfold zp FB at *
    rw [h1, h2]
    exact a4
theorem HE.of {t : Nat} {c m c' m' : St} {cur fl s j : Nat} (h : HE t c m cur fl s j) (h1 : c' 49 = c 49) (h2 : c' 51 = c 51) (h3 : c' 1 = c 1) (m1 : m' 1 = m 1) (m2 : m' 2 = m 2) (m3 : m' 3 = m 3) (m4 : m' 4 = m 4) : HE t c' m' cur fl s j := by
  obtain ⟨e, a1, a2, a3, a4⟩ := h
  refine ⟨e, a1, by rw [h1]; exact a2, by rw [m2]; exact a3, fun q => ?_⟩
  obtain ⟨n, cu, rs, R, b1, b2, b3, b4, b5, b6, b7⟩ := a4 q
  refine ⟨n, cu, rs, R, by rw [h1]; exact b1, by rw [m1]; exact b2, by rw [h1]; exact b3, by rw [m1]; exact b4, by rw [h1]; exact b5, by rw [m1]; exact b6, b7.of ?_ ?_ m1 m3 m4⟩
  · funext k
    unfold vw
    rw [if_pos rfl, if_pos rfl, h2]
  · unfold vw
    rw [if_neg (by decide), if_neg (by decide), h3]
/-- what a layout, or a look at the position, leaves -/
theorem IB.of {t na cur fl ed nm : Nat} {Ra : Int} {c m c' m' : St} (h : IB t c m na cur fl ed nm Ra) (hD : Dm c') (hc : ∀ a, a < 17 ∨ 46 < a → a ≠ 52 → c' a = c a) (h52 : c' 52 2 = c 52 2) (hm : ∀ a, a ≠ 0 → (a < 7 ∨ 40 < a) → m' a = m a) (h0 : ∀ k, (k < 30 ∨ 66 < k) → m' 0 k = m 0 k) : IB t c' m' na cur fl ed nm Ra := by
  have c1 := hc 1 (by decide) (by decide)
  have m1 := hm 1 (by decide) (by decide)
  have m3 := hm 3 (by decide) (by decide)
  have m4 := hm 4 (by decide) (by decide)
  obtain ⟨d1, d2, d3, d4, d5, d6, d7, d8, d9, d10, d11, d12, d13, d14, d15⟩ := h
  refine ⟨hD, d2.of (hm _ (by decide) (by decide)) (hm _ (by decide) (by decide)) (hm _ (by decide) (by decide)), d3.of c1 (fun k hk => h0 k (by omega)), ?_, ?_, d6.of (hc _ (by decide) (by decide)) (hc _ (by decide) (by decide)) c1 m1 m3 m4, d7, ?_, d9, ?_, ?_, ?_, ?_, ?_, ?_⟩
  · unfold FB at *; rw [c1, hc 3 (by decide) (by decide), hc 10 (by decide) (by decide), h0 7 (by decide), m3, m4]; exact d4
  · rw [hc 4 (by decide) (by decide), hc 5 (by decide) (by decide), h0 68 (by decide), hm 41 (by decide) (by decide)]; exact d5
  · rw [hc 8 (by decide) (by decide), m1]; exact d8
  · unfold zp at *; rw [hc 10 (by decide) (by decide)]; exact d10
  · rw [hc 0 (by decide) (by decide), h0 1 (by decide)]; exact d11
  · intro q
    obtain ⟨cu, rs, R, a1, a2, a3, a4, a5, a6, a7⟩ := d12 q
    exact ⟨cu, rs, R, by rw [hc 11 (by decide) (by decide)]; exact a1, by rw [m1]; exact a2, by rw [hc 11 (by decide) (by decide)]; exact a3, by rw [m1]; exact a4, by rw [hc 11 (by decide) (by decide)]; exact a5, by rw [m1]; exact a6, a7.of (hc _ (by decide) (by decide)) (by rw [c1]) m1 m3 m4⟩
  · obtain ⟨sz, nx, a1, a2, a3, a4, a5, a6⟩ := d13
    exact ⟨sz, nx, a1, a2, by rw [hc 47 (by decide) (by decide)]; exact a3, by rw [h0 2 (by decide)]; exact a4, by rw [hc 47 (by decide) (by decide)]; exact a5, fun j hj => (a6 j hj).of (hc _ (by decide) (by decide)) (hc _ (by decide) (by decide)) c1 m1 (hm _ (by decide) (by decide)) m3 m4⟩
  · rw [h52, h0 4 (by decide)]; exact d14
  · intro q
    obtain ⟨x, a1, a2⟩ := d15 q
    exact ⟨x, a1.of c1 (hc _ (by decide) (by decide)) (hc _ (by decide) (by decide)), a2⟩
theorem CA.of {c c' : St} {na : Nat} (h : CA c na) (hc : ∀ a, a ≤ 16 ∨ (17 ≤ a ∧ a ≤ 26) → c' a = c a) : CA c' na := by
  intro q
  rw [hc 17 (by decide)] at q
  obtain ⟨x, a1, a2⟩ := h q
  exact ⟨x, a1.of (hc _ (by decide)) (hc _ (by decide)) (hc _ (by decide)), a2.of (hc _ (by decide)) (by rw [hc _ (by decide)]) (hc _ (by decide))⟩
theorem CM.of {c c' : St} {ed nm : Nat} (h : CM c ed nm) (hc : ∀ a, a ≤ 16 ∨ (27 ≤ a ∧ a ≤ 36) → c' a = c a) : CM c' ed nm := by
  intro p q
  rw [hc 27 (by decide)] at q
  obtain ⟨x, a1, a2⟩ := h p q
  exact ⟨x, a1.of (hc _ (by decide)) (hc _ (by decide)) (hc _ (by decide)), a2.of (hc _ (by decide)) (by rw [hc _ (by decide)]) (hc _ (by decide))⟩
theorem FR.ib {t na cur fl ed nm b q : Nat} {Ra : Int} {c m c' m' : St} (hI : PI b q) (h : FR c m c' m' b) (hB : IB t c m na cur fl ed nm Ra) : IB t c' m' na cur fl ed nm Ra := by
  have hb : b = 17 ∨ b = 27 ∨ b = 37 := by rcases hI with h | h | h <;> omega
  exact hB.of (h.Dm hI hB.D) (fun a p1 _ => h.fc a (by omega) (by omega) (by omega) (by omega) (by omega) (by omega)) (by rw [h.fc 52 (by omega) (by omega) (by omega) (by omega) (by omega) (by omega)]) h.fm (fun k p => h.f0 k (by omega))
/-- bounds that serve every plan -/
theorem BsOK_all {m : St} {P n : Nat} {R0 : Int} (h : 14200 ≤ R0) (hn : n ≤ 21) : BsOK m P (fun _ => R0) R0 (R0 + 49900) n :=
  ⟨Int.le_refl _, fun _ => h, fun _ _ => by dsimp only; omega, fun i _ _ => ⟨by dsimp only; omega, by dsimp only; omega, Or.inl (Int.le_refl _)⟩⟩
theorem IB.ra {t na cur fl ed nm : Nat} {Ra : Int} {c m : St} (h : IB t c m na cur fl ed nm Ra) (ht : t ≤ 511) : 14200 ≤ Ra ∧ Ra + 49900 ≤ 5940000 := by
  have a := h.ab
  have b := zp_b c 8 na
  have d := sp_b cur fl
  omega
theorem MP.rm {t : Nat} {c m : St} {q P n cu rs cur fl : Nat} {R : Int} (h : MP t c m q P n cu rs R cur fl) (ht : t ≤ 511) : 14200 ≤ R ∧ R + 49900 ≤ 5940000 := by
  obtain ⟨a1, a2, a3, a4, a5, a6, a7, a8⟩ := h
  have b := zp_b c q n
  have d := sp_b cur fl
  refine ⟨a6, ?_⟩
  rcases (show rs = 0 ∨ rs = 1 by omega) with e | e
  · have := (a8 e).2; omega
  · have := (a7 e).2; omega
