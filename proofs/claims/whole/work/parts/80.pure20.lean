/-! the loop over the turns, on both sides -/
def TgR (c m : St) (b k : Nat) : Prop :=
  (c (b + 5) (k * 16 + 11) = m 24 k) ∧
  (c (b + 5) (k * 16 + 12) = m 25 k) ∧
  (c (b + 5) (k * 16 + 13) = m 26 k) ∧
  (c (b + 5) (k * 16 + 14) = m 27 k) ∧
  (0 ≤ (m 27 k).toInt ∧ (m 27 k).toInt ≤ 539) ∧
  (c (b + 5) (k * 16 + 10) = 1 → 2 * (m 27 k).toInt ≤ (m 12 (k - 1)).toInt) ∧
  (m 24 k = 0 ∨ ((m 24 k = 1 ∨ m 24 k = 2) ∧ ∃ a v1 : Nat, a < 24 ∧ v1 < 24 ∧ m 25 k = tnS a ∧ m 14 k = nI v1 ∧ c (b + 5) (k * 16 + 8) = nI v1 ∧ 1 ≤ (m 26 k).toInt ∧ (m 26 k).toInt ≤ 311 ∧ m 28 k = ((m 26 k * nI (tnD a)) * (262 : Int32)) / (1000 : Int32)))
theorem TgR.t1 {c m : St} {b k : Nat} (h : TgR c m b k) : c (b + 5) (k * 16 + 11) = m 24 k := h.1
theorem TgR.t2 {c m : St} {b k : Nat} (h : TgR c m b k) : c (b + 5) (k * 16 + 12) = m 25 k := h.2.1
theorem TgR.t3 {c m : St} {b k : Nat} (h : TgR c m b k) : c (b + 5) (k * 16 + 13) = m 26 k := h.2.2.1
theorem TgR.t4 {c m : St} {b k : Nat} (h : TgR c m b k) : c (b + 5) (k * 16 + 14) = m 27 k := h.2.2.2.1
theorem TgR.lb {c m : St} {b k : Nat} (h : TgR c m b k) : 0 ≤ (m 27 k).toInt ∧ (m 27 k).toInt ≤ 539 := h.2.2.2.2.1
theorem TgR.ll {c m : St} {b k : Nat} (h : TgR c m b k) : c (b + 5) (k * 16 + 10) = 1 → 2 * (m 27 k).toInt ≤ (m 12 (k - 1)).toInt := h.2.2.2.2.2.1
theorem TgR.tt {c m : St} {b k : Nat} (h : TgR c m b k) : m 24 k = 0 ∨ ((m 24 k = 1 ∨ m 24 k = 2) ∧ ∃ a v1 : Nat, a < 24 ∧ v1 < 24 ∧ m 25 k = tnS a ∧ m 14 k = nI v1 ∧ c (b + 5) (k * 16 + 8) = nI v1 ∧ 1 ≤ (m 26 k).toInt ∧ (m 26 k).toInt ≤ 311 ∧ m 28 k = ((m 26 k * nI (tnD a)) * (262 : Int32)) / (1000 : Int32)) := h.2.2.2.2.2.2

theorem TgR.of {c m c' m' : St} {b k : Nat} (h : TgR c m b k) (h1 : ∀ j, j < 15 → c' (b + 5) (k * 16 + j) = c (b + 5) (k * 16 + j)) (h2 : ∀ a, a ≠ 0 → a < 29 → m' a k = m a k) (h3 : m' 12 (k - 1) = m 12 (k - 1)) : TgR c' m' b k := by
  unfold TgR at *
  rw [h1 11 (by decide), h1 12 (by decide), h1 13 (by decide), h1 14 (by decide), h1 10 (by decide), h1 8 (by decide), h2 24 (by decide) (by decide), h2 25 (by decide) (by decide), h2 26 (by decide) (by decide), h2 27 (by decide) (by decide), h2 28 (by decide) (by decide), h2 14 (by decide) (by decide), h3]
  exact h
theorem part_at {f : Nat → Nat} (f0 : f 0 = 0) : ∀ n k, k < f n → ∃ j, j < n ∧ f j ≤ k ∧ k < f (j + 1) := by
  intro n
  induction n with
  | zero => intro k h; omega
  | succ n ih =>
    intro k h
    by_cases h1 : k < f n
    · obtain ⟨j, a1, a2, a3⟩ := ih k h1
      exact ⟨j, by omega, a2, a3⟩
    · exact ⟨n, by omega, by omega, h⟩
theorem mono_at {f : Nat → Nat} {n : Nat} (h : ∀ j, j < n → f j ≤ f (j + 1)) : ∀ d i, i + d ≤ n → f i ≤ f (i + d) := by
  intro d
  induction d with
  | zero => intro i _; exact Nat.le_refl _
  | succ d ih =>
    intro i hi
    have h1 := ih i (by omega)
    have h2 := h (i + d) (by omega)
    rw [show i + (d + 1) = i + d + 1 by omega]
    omega
theorem PH.mono {c m : St} {b q P n i j : Nat} {f : Nat → Nat} {R0 R : Int} (h : PH c m b q P R0 R n f) (hij : i ≤ j) (hj : j ≤ n) : f i ≤ f j := by
  have := mono_at (f := f) (n := n) (fun j hj => (h.lg j hj).fl.1) (j - i) i (by omega)
  rw [show i + (j - i) = j by omega] at this
  exact this
def TI (c m c0 m0 : St) (b n : Nat) (f : Nat → Nat) (s : Nat) : Prop :=
  (∀ a, a ≠ b + 2 → a ≠ b + 5 → c a = c0 a) ∧
  (∀ j l, l < 16 → ¬ (4 ≤ l ∧ l ≤ 7) → c (b + 2) (j * 16 + l) = c0 (b + 2) (j * 16 + l)) ∧
  (∀ k j, j < 11 → c (b + 5) (k * 16 + j) = c0 (b + 5) (k * 16 + j)) ∧
  (∀ a, (a < 24 ∨ 28 < a) → m a = m0 a) ∧
  (∀ k, k < s → TgR c m b k) ∧
  (∀ k j, s ≤ k → k < 42 → 11 ≤ j → j < 15 → c (b + 5) (k * 16 + j) = 0) ∧
  (∀ k, k < 42 → c (b + 5) (k * 16 + 15) = if k + 1 < s ∧ c0 (b + 5) ((k + 1) * 16 + 10) = 1 then m 27 (k + 1) else 0) ∧
  (∀ j, j < n → f j < f (j + 1) → f j < s → c (b + 2) (j * 16 + 4) = m 24 (f j) ∧ c (b + 2) (j * 16 + 5) = m 25 (f j) ∧ c (b + 2) (j * 16 + 6) = m 26 (f j) ∧ c (b + 2) (j * 16 + 7) = m 27 (f j)) ∧
  (∀ j, j < n → ¬ (f j < f (j + 1) ∧ f j < s) → c (b + 2) (j * 16 + 4) = 0 ∧ c (b + 2) (j * 16 + 5) = 0 ∧ c (b + 2) (j * 16 + 6) = 0 ∧ c (b + 2) (j * 16 + 7) = 0)
theorem TI.fc {c m c0 m0 : St} {b n : Nat} {f : Nat → Nat} {s : Nat} (h : TI c m c0 m0 b n f s) : ∀ a, a ≠ b + 2 → a ≠ b + 5 → c a = c0 a := h.1
theorem TI.f2 {c m c0 m0 : St} {b n : Nat} {f : Nat → Nat} {s : Nat} (h : TI c m c0 m0 b n f s) : ∀ j l, l < 16 → ¬ (4 ≤ l ∧ l ≤ 7) → c (b + 2) (j * 16 + l) = c0 (b + 2) (j * 16 + l) := h.2.1
theorem TI.f5 {c m c0 m0 : St} {b n : Nat} {f : Nat → Nat} {s : Nat} (h : TI c m c0 m0 b n f s) : ∀ k j, j < 11 → c (b + 5) (k * 16 + j) = c0 (b + 5) (k * 16 + j) := h.2.2.1
theorem TI.fm {c m c0 m0 : St} {b n : Nat} {f : Nat → Nat} {s : Nat} (h : TI c m c0 m0 b n f s) : ∀ a, (a < 24 ∨ 28 < a) → m a = m0 a := h.2.2.2.1
theorem TI.tg {c m c0 m0 : St} {b n : Nat} {f : Nat → Nat} {s : Nat} (h : TI c m c0 m0 b n f s) : ∀ k, k < s → TgR c m b k := h.2.2.2.2.1
theorem TI.zr {c m c0 m0 : St} {b n : Nat} {f : Nat → Nat} {s : Nat} (h : TI c m c0 m0 b n f s) : ∀ k j, s ≤ k → k < 42 → 11 ≤ j → j < 15 → c (b + 5) (k * 16 + j) = 0 := h.2.2.2.2.2.1
theorem TI.nl {c m c0 m0 : St} {b n : Nat} {f : Nat → Nat} {s : Nat} (h : TI c m c0 m0 b n f s) : ∀ k, k < 42 → c (b + 5) (k * 16 + 15) = if k + 1 < s ∧ c0 (b + 5) ((k + 1) * 16 + 10) = 1 then m 27 (k + 1) else 0 := h.2.2.2.2.2.2.1
theorem TI.l1 {c m c0 m0 : St} {b n : Nat} {f : Nat → Nat} {s : Nat} (h : TI c m c0 m0 b n f s) : ∀ j, j < n → f j < f (j + 1) → f j < s → c (b + 2) (j * 16 + 4) = m 24 (f j) ∧ c (b + 2) (j * 16 + 5) = m 25 (f j) ∧ c (b + 2) (j * 16 + 6) = m 26 (f j) ∧ c (b + 2) (j * 16 + 7) = m 27 (f j) := h.2.2.2.2.2.2.2.1
theorem TI.l0 {c m c0 m0 : St} {b n : Nat} {f : Nat → Nat} {s : Nat} (h : TI c m c0 m0 b n f s) : ∀ j, j < n → ¬ (f j < f (j + 1) ∧ f j < s) → c (b + 2) (j * 16 + 4) = 0 ∧ c (b + 2) (j * 16 + 5) = 0 ∧ c (b + 2) (j * 16 + 6) = 0 ∧ c (b + 2) (j * 16 + 7) = 0 := h.2.2.2.2.2.2.2.2

theorem TI.ph {c m c0 m0 : St} {b q P n s : Nat} {f : Nat → Nat} {R0 R : Int} (hI : PI b q) (h : TI c m c0 m0 b n f s) (h0 : PH c0 m0 b q P R0 R n f) : PH c m b q P R0 R n f :=
  h0.of hI (fun a _ p2 p3 _ _ => h.fc a p2 p3) h.f5 (fun j l p => h.f2 j l (by omega) (by omega)) (fun a p1 p2 => h.fm a (by omega)) (fun k _ => by rw [h.fm 0 (by decide)])
theorem ti_next {c m c0 m0 c' m' : St} {b q P n s j : Nat} {f : Nat → Nat} {R0 R : Int} (hp : PH c0 m0 b q P R0 R n f) (h : TI c m c0 m0 b n f s) (hs : s < f n) (hj : j < n) (j1 : f j ≤ s) (j2 : s < f (j + 1))
    (fc : ∀ a, a ≠ b + 2 → a ≠ b + 5 → c' a = c a) (f5 : ∀ z, ¬ (s * 16 + 11 ≤ z ∧ z ≤ s * 16 + 14) → ¬ (0 < s ∧ z = (s - 1) * 16 + 15) → c' (b + 5) z = c (b + 5) z)
    (hd : 0 < s → c' (b + 5) ((s - 1) * 16 + 15) = if c0 (b + 5) (s * 16 + 10) = 1 then m' 27 s else 0)
    (f2 : ∀ z, ¬ (j * 16 + 4 ≤ z ∧ z ≤ j * 16 + 7) → c' (b + 2) z = c (b + 2) z)
    (hf : s = f j → c' (b + 2) (j * 16 + 4) = m' 24 s ∧ c' (b + 2) (j * 16 + 5) = m' 25 s ∧ c' (b + 2) (j * 16 + 6) = m' 26 s ∧ c' (b + 2) (j * 16 + 7) = m' 27 s)
    (hg : s ≠ f j → c' (b + 2) (j * 16 + 4) = c (b + 2) (j * 16 + 4) ∧ c' (b + 2) (j * 16 + 5) = c (b + 2) (j * 16 + 5) ∧ c' (b + 2) (j * 16 + 6) = c (b + 2) (j * 16 + 6) ∧ c' (b + 2) (j * 16 + 7) = c (b + 2) (j * 16 + 7))
    (fm : ∀ a, (a < 24 ∨ 28 < a) → m' a = m a) (fk : ∀ a z, z ≠ s → m' a z = m a z) (ht : TgR c' m' b s) : TI c' m' c0 m0 b n f (s + 1) := by
  have hr2 := hp.r2
  have hn := hp.P.le
  have hmo : ∀ i, i < n → i ≠ j → f i < f (i + 1) → f i ≠ s := by
    intro i hi hij hl e
    rcases (show i < j ∨ j < i by omega) with q | q
    · have := hp.mono (i := i + 1) (j := j) (by omega) (by omega); omega
    · have := hp.mono (i := j + 1) (j := i) (by omega) (by omega); omega
  refine ⟨fun a p1 p2 => (fc a p1 p2).trans (h.fc a p1 p2), fun i l p1 p2 => ?_, fun k l p => ?_, fun a p => (fm a p).trans (h.fm a p), fun k hk => ?_, fun k l p1 p2 p3 p4 => ?_, fun k hk => ?_, fun i hi p1 p2 => ?_, fun i hi p => ?_⟩
  · rw [f2 _ (by omega)]; exact h.f2 i l p1 p2
  · rw [f5 _ (by omega) (by omega)]; exact h.f5 k l p
  · by_cases e : k = s
    · rw [e]; exact ht
    · exact (h.tg k (by omega)).of (fun l hl => f5 _ (by omega) (by omega)) (fun a _ _ => fk a k e) (by rw [fm 12 (by decide)])
  · rw [f5 _ (by omega) (by omega)]; exact h.zr k l (by omega) p2 p3 p4
  · by_cases e : k + 1 = s
    · have hk1 : k = s - 1 := by omega
      have := hd (by omega)
      rw [hk1, this, show s - 1 + 1 = s by omega]
      by_cases e2 : c0 (b + 5) (s * 16 + 10) = 1
      · rw [if_pos e2, if_pos ⟨by omega, e2⟩]
      · rw [if_neg e2, if_neg (fun q => e2 q.2)]
    · rw [f5 _ (by omega) (by omega), h.nl k hk]
      by_cases e2 : k + 1 < s ∧ c0 (b + 5) ((k + 1) * 16 + 10) = 1
      · rw [if_pos e2, if_pos ⟨by omega, e2.2⟩, fk 27 _ (by omega)]
      · rw [if_neg e2, if_neg (fun q => e2 ⟨by have := q.1; omega, q.2⟩)]
  · by_cases e : i = j
    · subst e
      by_cases e2 : s = f i
      · rw [← e2]; exact hf e2
      · have g := hg e2
        rw [g.1, g.2.1, g.2.2.1, g.2.2.2, fk _ _ (by omega), fk _ _ (by omega), fk _ _ (by omega), fk _ _ (by omega)]
        exact h.l1 i hi p1 (by omega)
    · have := hmo i hi e p1
      rw [f2 _ (by omega), f2 _ (by omega), f2 _ (by omega), f2 _ (by omega), fk _ _ this, fk _ _ this, fk _ _ this, fk _ _ this]
      exact h.l1 i hi p1 (by omega)
  · by_cases e : i = j
    · subst e
      exact absurd ⟨by omega, by omega⟩ p
    · rw [f2 _ (by omega), f2 _ (by omega), f2 _ (by omega), f2 _ (by omega)]
      exact h.l0 i hi (fun q => p ⟨q.1, by omega⟩)
theorem z5_s {m : St} {s : Nat} : z5 m s 24 s = 0 ∧ z5 m s 25 s = 0 ∧ z5 m s 26 s = 0 ∧ z5 m s 27 s = 0 ∧ z5 m s 28 s = 0 := by
  refine ⟨?_, ?_, ?_, ?_, ?_⟩ <;> simp (disch := omega) only [sH, sM, z5]
theorem ti_zero {c m c0 m0 : St} {b q P n s : Nat} {f : Nat → Nat} {R0 R : Int} (hI : PI b q) (hR : R ≤ 5940000) (hp : PH c0 m0 b q P R0 R n f) (h : TI c m c0 m0 b n f s) (hs : s < f n) : TI c (z5 m s) c0 m0 b n f (s + 1) := by
  have hr2 := hp.r2
  have hn := hp.P.le
  obtain ⟨j, hj, j1, j2⟩ := part_at hp.f0 n s hs
  have zs := z5_s (m := m) (s := s)
  have l0 : s = f j → _ := fun e => h.l0 j hj (fun q => by omega)
  refine ti_next (j := j) hp h hs hj j1 j2 (fun _ _ _ => rfl) (fun _ _ _ => rfl) (fun p => ?_) (fun _ _ => rfl) (fun e => ?_) (fun _ => ⟨rfl, rfl, rfl, rfl⟩) (fun a p => z5_o p) (fun a z p => ?_) ⟨?_, ?_, ?_, ?_, ?_, fun p => ?_, Or.inl zs.1⟩
  · rw [h.nl (s - 1) (by omega), if_neg (fun q => by have := q.1; omega), zs.2.2.2.1]
    split <;> rfl
  · have := l0 e
    rw [zs.1, zs.2.1, zs.2.2.1, zs.2.2.2.1]
    exact this
  · simp (disch := omega) only [sM, z5]
  · rw [zs.1]; exact h.zr s 11 (Nat.le_refl _) (by omega) (by decide) (by decide)
  · rw [zs.2.1]; exact h.zr s 12 (Nat.le_refl _) (by omega) (by decide) (by decide)
  · rw [zs.2.2.1]; exact h.zr s 13 (Nat.le_refl _) (by omega) (by decide) (by decide)
  · rw [zs.2.2.2.1]; exact h.zr s 14 (Nat.le_refl _) (by omega) (by decide) (by decide)
  · rw [zs.2.2.2.1]; exact ⟨by decide, by decide⟩
  · rw [zs.2.2.2.1, z5_o (by decide)]
    have hS := (h.ph hI hp).sg s hs
    have : ∃ l : Nat, m 12 (s - 1) = nI l ∧ l < 2 ^ 31 := by
      rcases hS.lnk with ⟨x1, x2, x3, x4⟩ | x
      · obtain ⟨l, l1, l2, -, l3, -⟩ := ((h.ph hI hp).sg (s - 1) (by omega)).len
        exact ⟨l, l3, by omega⟩
      · rw [x.1] at p; cases p
    obtain ⟨l, e1, e2⟩ := this
    rw [e1, nI_toInt e2]
    have : (0 : Int32).toInt = 0 := by decide
    omega

theorem tm5_o {m : St} {s a : Nat} {T S r L A : Int32} (h : a < 24 ∨ 28 < a) : tm5 m s T S r L A a = m a := by
  funext z; simp (disch := omega) only [sM, tm5, z5]
theorem tm5_k {m : St} {s a z : Nat} {T S r L A : Int32} (h : z ≠ s) : tm5 m s T S r L A a z = m a z := by
  simp (disch := omega) only [sM, tm5, z5]
theorem tm5_s {m : St} {s : Nat} {T S r L A : Int32} : tm5 m s T S r L A 24 s = T ∧ tm5 m s T S r L A 25 s = S ∧ tm5 m s T S r L A 26 s = r ∧ tm5 m s T S r L A 27 s = L ∧ tm5 m s T S r L A 28 s = A := by
  refine ⟨?_, ?_, ?_, ?_, ?_⟩ <;> simp (disch := omega) only [sH, sM, tm5]
theorem ti_turn {c m c0 m0 : St} {b q P n s : Nat} {f : Nat → Nat} {R0 R : Int} (hI : PI b q) (hR : R ≤ 5940000) (hp : PH c0 m0 b q P R0 R n f) (h : TI c m c0 m0 b n f s) (hs : s < f n) :
    ∃ c' m', f_Tk_turnInto c (b + 3) (nI s) = some c' ∧ m_laysTurn m (nI P) (nI s) = some m' ∧ TI c' m' c0 m0 b n f (s + 1) := by
  have hph := h.ph hI hp
  have hr2 := hp.r2
  have hn := hp.P.le
  have hlt := hI.lt
  have hs42 : s < 42 := by omega
  have hS := hph.sg s hs
  obtain ⟨j, hj, j1, j2⟩ := part_at hp.f0 n s hs
  obtain ⟨v, hv, vc, vm⟩ := hS.crs
  obtain ⟨l, hl1, hl2, lc, lm, -⟩ := hS.len
  rcases hS.inn with x | ⟨g1, v1, l1, hg1, hv1, hl1', x1, x2, x3, x4, x5, x6⟩
  · exact ⟨c, _, turn_c0 hI hph.D hs42 (Or.inl x.1), turn_m0 hs42 (Or.inl (by rw [x.2]; decide)), ti_zero hI hR hp h hs⟩
  · by_cases hne : v1 = v
    · exact ⟨c, _, turn_c0 hI hph.D hs42 (Or.inr (by rw [x3, vc, hne])), turn_m0 hs42 (Or.inr (by rw [x4, vm, hne])), ti_zero hI hR hp h hs⟩
    · have hA := hph.lg j hj
      have e7 : m 7 s = nI j := hA.sg s j1 j2
      have c0' : c (b + 5) (s * 16 + 0) = nI j := by
        obtain ⟨g, hg, gc, gm⟩ := hS.leg
        rw [gc, ← gm, e7]
      sorry
