/-! the loop over the turns, on both sides -/
def TgR (c m : St) (b k : Nat) : Prop :=
  (c (b + 5) (k * 16 + 11) = m 24 k) ∧
  (c (b + 5) (k * 16 + 12) = m 25 k) ∧
  (c (b + 5) (k * 16 + 13) = m 26 k) ∧
  (c (b + 5) (k * 16 + 14) = m 27 k) ∧
  (0 ≤ (m 27 k).toInt ∧ (m 27 k).toInt ≤ 539) ∧
  (c (b + 5) (k * 16 + 10) = 1 → 2 * (m 27 k).toInt ≤ (m 12 (k - 1)).toInt) ∧
  (m 24 k = 0 ∨ ((m 24 k = 1 ∨ m 24 k = 2) ∧ ∃ a v1 : Nat, a < 24 ∧ v1 < 24 ∧ m 25 k = tnS a ∧ m 14 k = nI v1 ∧ c (b + 5) (k * 16 + 8) = nI v1 ∧ 1 ≤ (m 26 k).toInt ∧ (m 26 k).toInt ≤ 152 ∧ m 28 k = ((m 26 k * nI (tnD a)) * (262 : Int32)) / (1000 : Int32)))
theorem TgR.t1 {c m : St} {b k : Nat} (h : TgR c m b k) : c (b + 5) (k * 16 + 11) = m 24 k := h.1
theorem TgR.t2 {c m : St} {b k : Nat} (h : TgR c m b k) : c (b + 5) (k * 16 + 12) = m 25 k := h.2.1
theorem TgR.t3 {c m : St} {b k : Nat} (h : TgR c m b k) : c (b + 5) (k * 16 + 13) = m 26 k := h.2.2.1
theorem TgR.t4 {c m : St} {b k : Nat} (h : TgR c m b k) : c (b + 5) (k * 16 + 14) = m 27 k := h.2.2.2.1
theorem TgR.lb {c m : St} {b k : Nat} (h : TgR c m b k) : 0 ≤ (m 27 k).toInt ∧ (m 27 k).toInt ≤ 539 := h.2.2.2.2.1
theorem TgR.ll {c m : St} {b k : Nat} (h : TgR c m b k) : c (b + 5) (k * 16 + 10) = 1 → 2 * (m 27 k).toInt ≤ (m 12 (k - 1)).toInt := h.2.2.2.2.2.1
theorem TgR.tt {c m : St} {b k : Nat} (h : TgR c m b k) : m 24 k = 0 ∨ ((m 24 k = 1 ∨ m 24 k = 2) ∧ ∃ a v1 : Nat, a < 24 ∧ v1 < 24 ∧ m 25 k = tnS a ∧ m 14 k = nI v1 ∧ c (b + 5) (k * 16 + 8) = nI v1 ∧ 1 ≤ (m 26 k).toInt ∧ (m 26 k).toInt ≤ 152 ∧ m 28 k = ((m 26 k * nI (tnD a)) * (262 : Int32)) / (1000 : Int32)) := h.2.2.2.2.2.2

theorem TgR.of {c m c' m' : St} {b k : Nat} (h : TgR c m b k) (h1 : ∀ j, j < 15 → c' (b + 5) (k * 16 + j) = c (b + 5) (k * 16 + j)) (h2 : ∀ a, a ≠ 0 → a < 29 → m' a k = m a k) (h3 : m' 12 (k - 1) = m 12 (k - 1)) : TgR c' m' b k := by
  unfold TgR at *
  rw [h1 11 (by decide), h1 12 (by decide), h1 13 (by decide), h1 14 (by decide), h1 10 (by decide), h1 8 (by decide), h2 24 (by decide) (by decide), h2 25 (by decide) (by decide), h2 26 (by decide) (by decide), h2 27 (by decide) (by decide), h2 28 (by decide) (by decide), h2 14 (by decide) (by decide), h3]
  exact h
theorem part_at {f : Nat → Nat} (f0 : f 0 = 0) : ∀ n k, k < f n → ∃ j, j < n ∧ f j ≤ k ∧ k < f (j + 1) := by
  intro n
  induction n with
  | zero => intro k h; omega
  | succ n ih =>
    intro k h
    by_cases h1 : k < f n
    · obtain ⟨j, a1, a2, a3⟩ := ih k h1
      exact ⟨j, by omega, a2, a3⟩
    · exact ⟨n, by omega, by omega, h⟩
theorem mono_at {f : Nat → Nat} {n : Nat} (h : ∀ j, j < n → f j ≤ f (j + 1)) : ∀ d i, i + d ≤ n → f i ≤ f (i + d) := by
  intro d
  induction d with
  | zero => intro i _; exact Nat.le_refl _
  | succ d ih =>
    intro i hi
    have h1 := ih i (by omega)
    have h2 := h (i + d) (by omega)
    rw [show i + (d + 1) = i + d + 1 by omega]
    omega
theorem PH.mono {c m : St} {b q P n i j : Nat} {f : Nat → Nat} {R0 R : Int} (h : PH c m b q P R0 R n f) (hij : i ≤ j) (hj : j ≤ n) : f i ≤ f j := by
  have := mono_at (f := f) (n := n) (fun j hj => (h.lg j hj).fl.1) (j - i) i (by omega)
  rw [show i + (j - i) = j by omega] at this
  exact this
def TI (c m c0 m0 : St) (b n : Nat) (f : Nat → Nat) (s : Nat) : Prop :=
  (∀ a, a ≠ b + 2 → a ≠ b + 5 → c a = c0 a) ∧
  (∀ j l, l < 16 → ¬ (4 ≤ l ∧ l ≤ 7) → c (b + 2) (j * 16 + l) = c0 (b + 2) (j * 16 + l)) ∧
  (∀ k j, j < 11 → c (b + 5) (k * 16 + j) = c0 (b + 5) (k * 16 + j)) ∧
  (∀ a, (a < 24 ∨ 28 < a) → m a = m0 a) ∧
  (∀ k, k < s → TgR c m b k) ∧
  (∀ k j, s ≤ k → k < 42 → 11 ≤ j → j < 15 → c (b + 5) (k * 16 + j) = 0) ∧
  (∀ k, k < 42 → c (b + 5) (k * 16 + 15) = if k + 1 < s ∧ c0 (b + 5) ((k + 1) * 16 + 10) = 1 then m 27 (k + 1) else 0) ∧
  (∀ j, j < n → f j < f (j + 1) → f j < s → c (b + 2) (j * 16 + 4) = m 24 (f j) ∧ c (b + 2) (j * 16 + 5) = m 25 (f j) ∧ c (b + 2) (j * 16 + 6) = m 26 (f j) ∧ c (b + 2) (j * 16 + 7) = m 27 (f j)) ∧
  (∀ j, j < n → ¬ (f j < f (j + 1) ∧ f j < s) → c (b + 2) (j * 16 + 4) = 0 ∧ c (b + 2) (j * 16 + 5) = 0 ∧ c (b + 2) (j * 16 + 6) = 0 ∧ c (b + 2) (j * 16 + 7) = 0)
theorem TI.fc {c m c0 m0 : St} {b n : Nat} {f : Nat → Nat} {s : Nat} (h : TI c m c0 m0 b n f s) : ∀ a, a ≠ b + 2 → a ≠ b + 5 → c a = c0 a := h.1
theorem TI.f2 {c m c0 m0 : St} {b n : Nat} {f : Nat → Nat} {s : Nat} (h : TI c m c0 m0 b n f s) : ∀ j l, l < 16 → ¬ (4 ≤ l ∧ l ≤ 7) → c (b + 2) (j * 16 + l) = c0 (b + 2) (j * 16 + l) := h.2.1
theorem TI.f5 {c m c0 m0 : St} {b n : Nat} {f : Nat → Nat} {s : Nat} (h : TI c m c0 m0 b n f s) : ∀ k j, j < 11 → c (b + 5) (k * 16 + j) = c0 (b + 5) (k * 16 + j) := h.2.2.1
theorem TI.fm {c m c0 m0 : St} {b n : Nat} {f : Nat → Nat} {s : Nat} (h : TI c m c0 m0 b n f s) : ∀ a, (a < 24 ∨ 28 < a) → m a = m0 a := h.2.2.2.1
theorem TI.tg {c m c0 m0 : St} {b n : Nat} {f : Nat → Nat} {s : Nat} (h : TI c m c0 m0 b n f s) : ∀ k, k < s → TgR c m b k := h.2.2.2.2.1
theorem TI.zr {c m c0 m0 : St} {b n : Nat} {f : Nat → Nat} {s : Nat} (h : TI c m c0 m0 b n f s) : ∀ k j, s ≤ k → k < 42 → 11 ≤ j → j < 15 → c (b + 5) (k * 16 + j) = 0 := h.2.2.2.2.2.1
theorem TI.nl {c m c0 m0 : St} {b n : Nat} {f : Nat → Nat} {s : Nat} (h : TI c m c0 m0 b n f s) : ∀ k, k < 42 → c (b + 5) (k * 16 + 15) = if k + 1 < s ∧ c0 (b + 5) ((k + 1) * 16 + 10) = 1 then m 27 (k + 1) else 0 := h.2.2.2.2.2.2.1
theorem TI.l1 {c m c0 m0 : St} {b n : Nat} {f : Nat → Nat} {s : Nat} (h : TI c m c0 m0 b n f s) : ∀ j, j < n → f j < f (j + 1) → f j < s → c (b + 2) (j * 16 + 4) = m 24 (f j) ∧ c (b + 2) (j * 16 + 5) = m 25 (f j) ∧ c (b + 2) (j * 16 + 6) = m 26 (f j) ∧ c (b + 2) (j * 16 + 7) = m 27 (f j) := h.2.2.2.2.2.2.2.1
theorem TI.l0 {c m c0 m0 : St} {b n : Nat} {f : Nat → Nat} {s : Nat} (h : TI c m c0 m0 b n f s) : ∀ j, j < n → ¬ (f j < f (j + 1) ∧ f j < s) → c (b + 2) (j * 16 + 4) = 0 ∧ c (b + 2) (j * 16 + 5) = 0 ∧ c (b + 2) (j * 16 + 6) = 0 ∧ c (b + 2) (j * 16 + 7) = 0 := h.2.2.2.2.2.2.2.2

theorem TI.ph {c m c0 m0 : St} {b q P n s : Nat} {f : Nat → Nat} {R0 R : Int} (hI : PI b q) (h : TI c m c0 m0 b n f s) (h0 : PH c0 m0 b q P R0 R n f) : PH c m b q P R0 R n f :=
  h0.of hI (fun a _ p2 p3 _ _ => h.fc a p2 p3) h.f5 (fun j l p => h.f2 j l (by omega) (by omega)) (fun a p1 p2 => h.fm a (by omega)) (fun k _ => by rw [h.fm 0 (by decide)])
theorem ti_next {c m c0 m0 c' m' : St} {b q P n s j : Nat} {f : Nat → Nat} {R0 R : Int} (hp : PH c0 m0 b q P R0 R n f) (h : TI c m c0 m0 b n f s) (hs : s < f n) (hj : j < n) (j1 : f j ≤ s) (j2 : s < f (j + 1))
    (fc : ∀ a, a ≠ b + 2 → a ≠ b + 5 → c' a = c a) (f5 : ∀ z, ¬ (s * 16 + 11 ≤ z ∧ z ≤ s * 16 + 14) → ¬ (0 < s ∧ z = (s - 1) * 16 + 15) → c' (b + 5) z = c (b + 5) z)
    (hd : 0 < s → c' (b + 5) ((s - 1) * 16 + 15) = if c0 (b + 5) (s * 16 + 10) = 1 then m' 27 s else 0)
    (f2 : ∀ z, ¬ (j * 16 + 4 ≤ z ∧ z ≤ j * 16 + 7) → c' (b + 2) z = c (b + 2) z)
    (hf : s = f j → c' (b + 2) (j * 16 + 4) = m' 24 s ∧ c' (b + 2) (j * 16 + 5) = m' 25 s ∧ c' (b + 2) (j * 16 + 6) = m' 26 s ∧ c' (b + 2) (j * 16 + 7) = m' 27 s)
    (hg : s ≠ f j → c' (b + 2) (j * 16 + 4) = c (b + 2) (j * 16 + 4) ∧ c' (b + 2) (j * 16 + 5) = c (b + 2) (j * 16 + 5) ∧ c' (b + 2) (j * 16 + 6) = c (b + 2) (j * 16 + 6) ∧ c' (b + 2) (j * 16 + 7) = c (b + 2) (j * 16 + 7))
    (fm : ∀ a, (a < 24 ∨ 28 < a) → m' a = m a) (fk : ∀ a z, z ≠ s → m' a z = m a z) (ht : TgR c' m' b s) : TI c' m' c0 m0 b n f (s + 1) := by
  have hr2 := hp.r2
  have hn := hp.P.le
  have hmo : ∀ i, i < n → i ≠ j → f i < f (i + 1) → f i ≠ s := by
    intro i hi hij hl e
    rcases (show i < j ∨ j < i by omega) with q | q
    · have := hp.mono (i := i + 1) (j := j) (by omega) (by omega); omega
    · have := hp.mono (i := j + 1) (j := i) (by omega) (by omega); omega
  refine ⟨fun a p1 p2 => (fc a p1 p2).trans (h.fc a p1 p2), fun i l p1 p2 => ?_, fun k l p => ?_, fun a p => (fm a p).trans (h.fm a p), fun k hk => ?_, fun k l p1 p2 p3 p4 => ?_, fun k hk => ?_, fun i hi p1 p2 => ?_, fun i hi p => ?_⟩
  · rw [f2 _ (by omega)]; exact h.f2 i l p1 p2
  · rw [f5 _ (by omega) (by omega)]; exact h.f5 k l p
  · by_cases e : k = s
    · rw [e]; exact ht
    · exact (h.tg k (by omega)).of (fun l hl => f5 _ (by omega) (by omega)) (fun a _ _ => fk a k e) (by rw [fm 12 (by decide)])
  · rw [f5 _ (by omega) (by omega)]; exact h.zr k l (by omega) p2 p3 p4
  · by_cases e : k + 1 = s
    · have hk1 : k = s - 1 := by omega
      have := hd (by omega)
      rw [hk1, this, show s - 1 + 1 = s by omega]
      by_cases e2 : c0 (b + 5) (s * 16 + 10) = 1
      · rw [if_pos e2, if_pos ⟨by omega, e2⟩]
      · rw [if_neg e2, if_neg (fun q => e2 q.2)]
    · rw [f5 _ (by omega) (by omega), h.nl k hk]
      by_cases e2 : k + 1 < s ∧ c0 (b + 5) ((k + 1) * 16 + 10) = 1
      · rw [if_pos e2, if_pos ⟨by omega, e2.2⟩, fk 27 _ (by omega)]
      · rw [if_neg e2, if_neg (fun q => e2 ⟨by have := q.1; omega, q.2⟩)]
  · by_cases e : i = j
    · subst e
      by_cases e2 : s = f i
      · rw [← e2]; exact hf e2
      · have g := hg e2
        rw [g.1, g.2.1, g.2.2.1, g.2.2.2, fk _ _ (by omega), fk _ _ (by omega), fk _ _ (by omega), fk _ _ (by omega)]
        exact h.l1 i hi p1 (by omega)
    · have := hmo i hi e p1
      rw [f2 _ (by omega), f2 _ (by omega), f2 _ (by omega), f2 _ (by omega), fk _ _ this, fk _ _ this, fk _ _ this, fk _ _ this]
      exact h.l1 i hi p1 (by omega)
  · by_cases e : i = j
    · subst e
      exact absurd ⟨by omega, by omega⟩ p
    · rw [f2 _ (by omega), f2 _ (by omega), f2 _ (by omega), f2 _ (by omega)]
      exact h.l0 i hi (fun q => p ⟨q.1, by omega⟩)
theorem z5_s {m : St} {s : Nat} : z5 m s 24 s = 0 ∧ z5 m s 25 s = 0 ∧ z5 m s 26 s = 0 ∧ z5 m s 27 s = 0 ∧ z5 m s 28 s = 0 := by
  refine ⟨?_, ?_, ?_, ?_, ?_⟩ <;> simp (disch := omega) only [sH, sM, z5]
theorem ti_zero {c m c0 m0 : St} {b q P n s : Nat} {f : Nat → Nat} {R0 R : Int} (hI : PI b q) (hR : R ≤ 5940000) (hp : PH c0 m0 b q P R0 R n f) (h : TI c m c0 m0 b n f s) (hs : s < f n) : TI c (z5 m s) c0 m0 b n f (s + 1) := by
  have hr2 := hp.r2
  have hn := hp.P.le
  obtain ⟨j, hj, j1, j2⟩ := part_at hp.f0 n s hs
  have zs := z5_s (m := m) (s := s)
  have l0 : s = f j → _ := fun e => h.l0 j hj (fun q => by omega)
  refine ti_next (j := j) hp h hs hj j1 j2 (fun _ _ _ => rfl) (fun _ _ _ => rfl) (fun p => ?_) (fun _ _ => rfl) (fun e => ?_) (fun _ => ⟨rfl, rfl, rfl, rfl⟩) (fun a p => z5_o p) (fun a z p => ?_) ⟨?_, ?_, ?_, ?_, ?_, fun p => ?_, Or.inl zs.1⟩
  · rw [h.nl (s - 1) (by omega), if_neg (fun q => by have := q.1; omega), zs.2.2.2.1]
    split <;> rfl
  · have := l0 e
    rw [zs.1, zs.2.1, zs.2.2.1, zs.2.2.2.1]
    exact this
  · simp (disch := omega) only [sM, z5]
  · rw [zs.1]; exact h.zr s 11 (Nat.le_refl _) (by omega) (by decide) (by decide)
  · rw [zs.2.1]; exact h.zr s 12 (Nat.le_refl _) (by omega) (by decide) (by decide)
  · rw [zs.2.2.1]; exact h.zr s 13 (Nat.le_refl _) (by omega) (by decide) (by decide)
  · rw [zs.2.2.2.1]; exact h.zr s 14 (Nat.le_refl _) (by omega) (by decide) (by decide)
  · rw [zs.2.2.2.1]; exact ⟨by decide, by decide⟩
  · rw [zs.2.2.2.1, z5_o (by decide)]
    have hS := (h.ph hI hp).sg s hs
    have : ∃ l : Nat, m 12 (s - 1) = nI l ∧ l < 2 ^ 31 := by
      rcases hS.lnk with ⟨x1, x2, x3, x4⟩ | x
      · obtain ⟨l, l1, l2, -, l3, -⟩ := ((h.ph hI hp).sg (s - 1) (by omega)).len
        exact ⟨l, l3, by omega⟩
      · rw [x.1] at p; cases p
    obtain ⟨l, e1, e2⟩ := this
    rw [e1, nI_toInt e2]
    have : (0 : Int32).toInt = 0 := by decide
    omega

theorem tm5_o {m : St} {s a : Nat} {T S r L A : Int32} (h : a < 24 ∨ 28 < a) : tm5 m s T S r L A a = m a := by
  funext z; simp (disch := omega) only [sM, tm5, z5]
theorem tm5_k {m : St} {s a z : Nat} {T S r L A : Int32} (h : z ≠ s) : tm5 m s T S r L A a z = m a z := by
  simp (disch := omega) only [sM, tm5, z5]
theorem tm5_s {m : St} {s : Nat} {T S r L A : Int32} : tm5 m s T S r L A 24 s = T ∧ tm5 m s T S r L A 25 s = S ∧ tm5 m s T S r L A 26 s = r ∧ tm5 m s T S r L A 27 s = L ∧ tm5 m s T S r L A 28 s = A := by
  refine ⟨?_, ?_, ?_, ?_, ?_⟩ <;> simp (disch := omega) only [sH, sM, tm5]
theorem ti_turn {c m c0 m0 : St} {b q P n s : Nat} {f : Nat → Nat} {R0 R : Int} (hI : PI b q) (hR : R ≤ 5940000) (hp : PH c0 m0 b q P R0 R n f) (h : TI c m c0 m0 b n f s) (hs : s < f n) :
    ∃ c' m', f_Tk_turnInto c (b + 3) (nI s) = some c' ∧ m_laysTurn m (nI P) (nI s) = some m' ∧ TI c' m' c0 m0 b n f (s + 1) := by
  have hph := h.ph hI hp
  have hr2 := hp.r2
  have hn := hp.P.le
  have hlt := hI.lt
  have hs42 : s < 42 := by omega
  have hS := hph.sg s hs
  obtain ⟨j, hj, j1, j2⟩ := part_at hp.f0 n s hs
  obtain ⟨v, hv, vc, vm⟩ := hS.crs
  obtain ⟨l, hl1, hl2, lc, lm, -⟩ := hS.len
  rcases hS.inn with x | ⟨g1, v1, l1, hg1, hv1, hl1', x1, x2, x3, x4, x5, x6⟩
  · exact ⟨c, _, turn_c0 hI hph.D hs42 (Or.inl x.1), turn_m0 hs42 (Or.inl (by rw [x.2]; decide)), ti_zero hI hR hp h hs⟩
  · by_cases hne : v1 = v
    · exact ⟨c, _, turn_c0 hI hph.D hs42 (Or.inr (by rw [x3, vc, hne])), turn_m0 hs42 (Or.inr (by rw [x4, vm, hne])), ti_zero hI hR hp h hs⟩
    · have hA := hph.lg j hj
      have e7 : m 7 s = nI j := hA.sg s j1 j2
      have c0' : c (b + 5) (s * 16 + 0) = nI j := by
        obtain ⟨g, hg, gc, gm⟩ := hS.leg
        rw [gc, ← gm, e7]
      have hPl := hph.P.Pl
      obtain ⟨L1, L1a, L1b, L1c, L1m⟩ := (hph.P.leg g1 hg1).lim
      obtain ⟨L2, L2a, L2b, L2c, L2m⟩ := (hph.P.leg j hj).lim
      obtain ⟨k1, k19, k1c, k1m, -⟩ := (hph.P.leg g1 hg1).kd
      obtain ⟨o1, o11, o1c, o1m⟩ := (hph.P.leg g1 hg1).ovr
      obtain ⟨r, er⟩ : ∃ r, r = rad (imax (gsp c (nI L1) (nI v1)) (gsp c (nI L2) (nI v))) := ⟨_, rfl⟩
      obtain ⟨T, eT⟩ : ∃ T : Int32, T = if BYt (tnD (tnA v1 v)) (tnL r (tnD (tnA v1 v))) (nI l1) (nI l) (OV g1 j k1 o1) then 1 else 2 := ⟨_, rfl⟩
      obtain ⟨Ld, eL⟩ : ∃ Ld : Int32, Ld = if BYt (tnD (tnA v1 v)) (tnL r (tnD (tnA v1 v))) (nI l1) (nI l) (OV g1 j k1 o1) then tnL r (tnD (tnA v1 v)) else 0 := ⟨_, rfl⟩
      have hk10 : c (b + 5) (s * 16 + 10) = 1 → 0 < s := fun q => by
        rcases hS.lnk with y | y
        · exact y.2.1
        · rw [y.1] at q; cases q
      have tc := turn_c hI hph.D hs42 (show j < 21 by omega) (show g1 < 21 by omega) hv hv1 hne k19 o11 c0' lc vc x1 x3 x5 L1c L2c k1c o1c er eT eL hk10
      obtain ⟨tm, rb1, rb2⟩ := turn_m (c := c) hPl hph.K hph.S hs42 (show j < 21 by omega) (show g1 < 21 by omega) hv hv1 hne k19 o11 L1b L2b e7 lm vm x2 x4 x6 L1m L2m k1m o1m er eT eL
      have lbd := tnL_b (d := tnD (tnA v1 v)) rb1 (by omega)
      obtain ⟨ha, -⟩ := tnA_b hv1 hv
      generalize tnA v1 v = a at *
      generalize eA : ((r * nI (tnD a)) * (262 : Int32)) / (1000 : Int32) = A at *
      obtain ⟨C, eC⟩ : ∃ C, C = (if c (b + 5) (s * 16 + 10) = 1 then s2 (tv4 c b s T (tnS a) r Ld) (b + 5) ((s - 1) * 16 + 15) Ld else tv4 c b s T (tnS a) r Ld) := ⟨_, rfl⟩
      rw [← eC] at tc
      have nt := hI.nt.2.2.2.1
      have hDC : Dm C := by
        have D4 : Dm (tv4 c b s T (tnS a) r Ld) := (((hph.D.s2 nt).s2 nt).s2 nt).s2 nt
        rw [eC]
        split
        · exact D4.s2 nt
        · exact D4
      have Co : ∀ x, x ≠ b + 5 → C x = c x := fun x p => by
        funext z
        rw [eC]
        split <;> simp (disch := omega) only [sM, tv4]
      have C5 : ∀ z, ¬ (s * 16 + 11 ≤ z ∧ z ≤ s * 16 + 14) → ¬ (0 < s ∧ z = (s - 1) * 16 + 15) → C (b + 5) z = c (b + 5) z := fun z p1 p2 => by
        rw [eC]
        by_cases e : c (b + 5) (s * 16 + 10) = 1
        · have := hk10 e
          rw [if_pos e]
          simp (disch := omega) only [sM, tv4]
        · rw [if_neg e]
          simp (disch := omega) only [sM, tv4]
      have Cv : C (b + 5) (s * 16 + 11) = T ∧ C (b + 5) (s * 16 + 12) = tnS a ∧ C (b + 5) (s * 16 + 13) = r ∧ C (b + 5) (s * 16 + 14) = Ld := by
        rw [eC]
        by_cases e : c (b + 5) (s * 16 + 10) = 1
        · have := hk10 e
          rw [if_pos e]
          refine ⟨?_, ?_, ?_, ?_⟩ <;> simp (disch := omega) only [sH, sM, tv4]
        · rw [if_neg e]
          refine ⟨?_, ?_, ?_, ?_⟩ <;> simp (disch := omega) only [sH, sM, tv4]
      have C15 : 0 < s → C (b + 5) ((s - 1) * 16 + 15) = if c (b + 5) (s * 16 + 10) = 1 then Ld else 0 := fun p => by
        rw [eC]
        by_cases e : c (b + 5) (s * 16 + 10) = 1
        · rw [if_pos e, if_pos e, s2_at]
        · rw [if_neg e, if_neg e]
          have := h.nl (s - 1) (by omega)
          rw [if_neg (fun q => by have := q.1; omega)] at this
          simp (disch := omega) only [sM, tv4]
          exact this
      rw [tell_c hI hDC hs42 (show j < 21 by omega) (by rw [C5 _ (by omega) (by omega)]; exact c0'), Cv.1, Cv.2.1, Cv.2.2.1, Cv.2.2.2] at tc
      have hfirst : (s = 0 ∨ ¬ C (b + 5) ((s - 1) * 16 + 0) = nI j) ↔ s = f j := by
        constructor
        · intro q
          rcases (show s = f j ∨ f j < s by omega) with e | e
          · exact e
          · exfalso
            rcases q with q | q
            · omega
            · apply q
              obtain ⟨g, hg, gc, gm⟩ := (hph.sg (s - 1) (by omega)).leg
              rw [C5 _ (by omega) (by omega), gc, ← gm]
              exact hA.sg (s - 1) (by omega) (by omega)
        · intro q
          by_cases e : s = 0
          · exact Or.inl e
          · right
            intro q2
            obtain ⟨g, hg, gc, gm⟩ := (hph.sg (s - 1) (by omega)).leg
            obtain ⟨j', hj', j1', j2'⟩ := part_at hp.f0 n (s - 1) (by omega)
            have e7' := (hph.lg j' hj').sg (s - 1) j1' j2'
            rw [C5 _ (by omega) (by omega), gc, ← gm, e7'] at q2
            have := (nI_eq (by omega) (by omega)).mp q2
            subst this
            omega
      have T5 := tm5_s (m := m) (s := s) (T := T) (S := tnS a) (r := r) (L := Ld) (A := A)
      have hLd : 0 ≤ Ld.toInt ∧ Ld.toInt ≤ 539 := by
        rw [eL]
        split
        · exact lbd
        · exact ⟨by decide, by decide⟩
      have hT : T = 1 ∨ T = 2 := by
        rw [eT]
        split
        · exact Or.inl rfl
        · exact Or.inr rfl
      have hll : c (b + 5) (s * 16 + 10) = 1 → 2 * Ld.toInt ≤ (m 12 (s - 1)).toInt := fun q => by
        rcases hS.lnk with y | y
        · have e1 : m 12 (s - 1) = nI l1 := by rw [← y.2.2.2]; exact x6
          have e2 : (nI l1).toInt = (l1 : Int) := nI_toInt (by omega)
          rw [e1, e2, eL]
          split
          · rename_i hb
            have h1 := hb.2.1
            have k2 : (2 : Int32).toInt = 2 := by decide
            have e3 : ((2 : Int32) * tnL r (tnD a)).toInt = 2 * (tnL r (tnD a)).toInt := by rw [tI_mul (by rw [k2]; omega) (by rw [k2]; omega), k2]
            have h2 := Int32.le_iff_toInt_le.mp (Int32.not_lt.mp h1)
            rw [e3, e2] at h2
            exact h2
          · have : (0 : Int32).toInt = 0 := by decide
            omega
        · rw [y.1] at q; cases q
      have ei5 : ∀ z, z < 11 → c (b + 5) (s * 16 + z) = c0 (b + 5) (s * 16 + z) := fun z hz => h.f5 s z hz
      by_cases hfj : s = f j
      · rw [if_pos (hfirst.mpr hfj)] at tc
        have tlo : ∀ x, x ≠ b + 2 → tl4 C b j T (tnS a) r Ld x = C x := fun x p => by funext z; simp (disch := omega) only [sM, tl4]
        refine ⟨_, _, tc, tm, ti_next (j := j) hp h hs hj j1 j2 (fun x p1 p2 => (tlo x p1).trans (Co x p2)) (fun z p1 p2 => ?_) (fun p => ?_) (fun z p => ?_) (fun _ => ?_) (fun q => absurd hfj q) (fun x p => tm5_o p) (fun x z p => tm5_k p) ⟨?_, ?_, ?_, ?_, ?_, fun p => ?_, Or.inr ⟨?_, a, v1, ha, hv1, ?_, ?_, ?_, ?_, ?_, ?_⟩⟩⟩
        · rw [tlo _ (by omega)]; exact C5 z p1 p2
        · rw [tlo _ (by omega), C15 p, ei5 10 (by decide), T5.2.2.2.1]
        · have : tl4 C b j T (tnS a) r Ld (b + 2) z = C (b + 2) z := by simp (disch := omega) only [sM, tl4]
          rw [this, Co _ (by omega)]
        · rw [T5.1, T5.2.1, T5.2.2.1, T5.2.2.2.1]
          refine ⟨?_, ?_, ?_, ?_⟩ <;> simp (disch := omega) only [sH, sM, tl4]
        · rw [tlo _ (by omega), T5.1]; exact Cv.1
        · rw [tlo _ (by omega), T5.2.1]; exact Cv.2.1
        · rw [tlo _ (by omega), T5.2.2.1]; exact Cv.2.2.1
        · rw [tlo _ (by omega), T5.2.2.2.1]; exact Cv.2.2.2
        · rw [T5.2.2.2.1]; exact hLd
        · rw [T5.2.2.2.1, tm5_o (by decide)]
          rw [tlo _ (by omega), C5 _ (by omega) (by omega)] at p
          exact hll p
        · rw [T5.1]; exact hT
        · exact T5.2.1
        · rw [tm5_o (by decide)]; exact x4
        · rw [tlo _ (by omega), C5 _ (by omega) (by omega)]; exact x3
        · rw [T5.2.2.1]; exact rb1
        · rw [T5.2.2.1]; exact rb2
        · rw [T5.2.2.2.2, T5.2.2.1, eA]
      · rw [if_neg (fun q => hfj (hfirst.mp q))] at tc
        refine ⟨_, _, tc, tm, ti_next (j := j) hp h hs hj j1 j2 (fun x p1 p2 => Co x p2) C5 (fun p => ?_) (fun z p => by rw [Co _ (by omega)]) (fun q => absurd q hfj) (fun _ => ?_) (fun x p => tm5_o p) (fun x z p => tm5_k p) ⟨?_, ?_, ?_, ?_, ?_, fun p => ?_, Or.inr ⟨?_, a, v1, ha, hv1, ?_, ?_, ?_, ?_, ?_, ?_⟩⟩⟩
        · rw [C15 p, ei5 10 (by decide), T5.2.2.2.1]
        · rw [Co _ (by omega)]; exact ⟨rfl, rfl, rfl, rfl⟩
        · rw [T5.1]; exact Cv.1
        · rw [T5.2.1]; exact Cv.2.1
        · rw [T5.2.2.1]; exact Cv.2.2.1
        · rw [T5.2.2.2.1]; exact Cv.2.2.2
        · rw [T5.2.2.2.1]; exact hLd
        · rw [T5.2.2.2.1, tm5_o (by decide)]
          rw [C5 _ (by omega) (by omega)] at p
          exact hll p
        · rw [T5.1]; exact hT
        · exact T5.2.1
        · rw [tm5_o (by decide)]; exact x4
        · rw [C5 _ (by omega) (by omega)]; exact x3
        · rw [T5.2.2.1]; exact rb1
        · rw [T5.2.2.1]; exact rb2
        · rw [T5.2.2.2.2, T5.2.2.1, eA]
theorem TI_0 {c m : St} {b q P n : Nat} {f : Nat → Nat} {R0 R : Int} (hp : PH c m b q P R0 R n f) (hz : Z1 c b n) : TI c m c m b n f 0 := by
  have hn := hp.P.le
  refine ⟨fun _ _ _ => rfl, fun _ _ _ _ => rfl, fun _ _ _ => rfl, fun _ _ => rfl, fun k hk => absurd hk (by omega), fun k j _ p2 p3 p4 => hz.2.2 k j p2 p3 (by omega), fun k hk => ?_, fun j _ _ p => absurd p (by omega), fun j hj _ => ⟨hz.1 j 4 (by omega) (by decide), hz.1 j 5 (by omega) (by decide), hz.1 j 6 (by omega) (by decide), hz.1 j 7 (by omega) (by decide)⟩⟩
  rw [if_neg (fun q => by have := q.1; omega)]
  exact hz.2.2 k 15 hk (by decide) (by decide)
theorem turns_lock {c0 m0 : St} {b q P n : Nat} {f : Nat → Nat} {R0 R : Int} (hI : PI b q) (hR : R ≤ 5940000) (hp : PH c0 m0 b q P R0 R n f) (Jc Jm : St → Option St) :
    ∀ (d s : Nat) (c m : St) (g1 g2 : Nat), s + d = f n → d < g1 → d < g2 → TI c m c0 m0 b n f s → ∃ c' m', lp (lb_f_Pa_refresh_49 b Jc) g1 (nI s, c) = Jc c' ∧ lp (lb_m_lays_7 (nI P) Jm) g2 (nI s, m) = Jm m' ∧ TI c' m' c0 m0 b n f (f n) := by
  have hr2 := hp.r2
  have hn := hp.P.le
  intro d
  induction d with
  | zero =>
    intro s c m g1 g2 hd h1 h2 h
    have e : s = f n := by omega
    subst e
    have hph := h.ph hI hp
    refine ⟨c, m, ?_, ?_, h⟩
    · rw [lp_s h1]
      show (if c (rc b 2) 4 ≤ nI (f n) then Jc c else _) = _
      rw [if_pos (by rw [rc_b2 hI, hph.cc]; exact Int32.le_refl _)]
    · rw [lp_s h2]
      show (if m 0 30 ≤ nI (f n) then Jm m else _) = _
      rw [if_pos (by rw [hph.cm]; exact Int32.le_refl _)]
  | succ d ih =>
    intro s c m g1 g2 hd h1 h2 h
    have hph := h.ph hI hp
    obtain ⟨c', m', e1, e2, e3⟩ := ti_turn hI hR hp h (show s < f n by omega)
    obtain ⟨c2, m2, q1, q2, q3⟩ := ih (s + 1) c' m' (g1 - 1) (g2 - 1) (by omega) (by omega) (by omega) e3
    refine ⟨c2, m2, ?_, ?_, q3⟩
    · rw [lp_s (by omega)]
      show (if c (rc b 2) 4 ≤ nI s then Jc c else Option.bind (f_Tk_turnInto c (rc b 2) (nI s)) fun x26 => Lt (nI s + (1 : Int32)) fun x27 => lp (lb_f_Pa_refresh_49 b Jc) (g1 - 1) (x27, x26)) = _
      rw [if_neg (by rw [rc_b2 hI, hph.cc]; exact nI_ge (by omega) (by omega)), rc_b2 hI, bd_e e1, Lt_e, nI_1]
      exact q1
    · rw [lp_s (by omega)]
      show (if m 0 30 ≤ nI s then Jm m else Option.bind (m_laysTurn m (nI P) (nI s)) fun x32 => Lt (nI s + (1 : Int32)) fun x33 => lp (lb_m_lays_7 (nI P) Jm) (g2 - 1) (x33, x32)) = _
      rw [if_neg (by rw [hph.cm]; exact nI_ge (by omega) (by omega)), bd_e e2, Lt_e, nI_1]
      exact q2
