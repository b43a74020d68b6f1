/-! legs laid so far, on both sides -/
def LgA (c m : St) (b P : Nat) (R : Int) (f : Nat → Nat) (j : Nat) : Prop :=
  (c (b + 2) (j * 16 + 0) = m 18 j ∧ (m 18 j = 0 ∨ m 18 j = 1)) ∧
  (c (b + 2) (j * 16 + 1) = m 19 j ∧ (m 19 j = 0 ∨ m 19 j = 1)) ∧
  (m 19 j = 1 → c (b + 2) (j * 16 + 2) = m 20 j ∧ c (b + 2) (j * 16 + 3) = m 21 j ∧ Nb R (m 20 j) (m 21 j)) ∧
  (m 19 j = 0 → c (b + 2) (j * 16 + 2) = -1000000 ∧ c (b + 2) (j * 16 + 3) = -1000000) ∧
  (m 1 (P + 3 + 14 * j + 0) = 7 → ∃ e : Nat, e ≤ 2 ∧ c (b + 2) (j * 16 + 8) = nI e ∧ m_entry (m 23 j) (m 1 (P + 3 + 14 * j + 2)) (m 1 (P + 3 + 14 * j + 4)) = some (nI e)) ∧
  (¬ m 1 (P + 3 + 14 * j + 0) = 7 → c (b + 2) (j * 16 + 8) = -1000000) ∧
  (m 22 j = nI (f j)) ∧
  (f j ≤ f (j + 1) ∧ f (j + 1) ≤ f j + 2) ∧
  (∀ u, f j ≤ u → u < f (j + 1) → m 7 u = nI j) ∧
  (m 18 j = 1 → f (j + 1) = f j) ∧
  (∀ k : Nat, k < 9 → m 1 (P + 3 + 14 * j + 0) = nI k → (hfx k ∨ k = 8) → m 18 j = 1 → m 19 j = 1) ∧
  (m 18 j = 0 → 0 < j ∧ m 19 (j - 1) = 1)
theorem LgA.an {c m : St} {b P : Nat} {R : Int} {f : Nat → Nat} {j : Nat} (h : LgA c m b P R f j) : c (b + 2) (j * 16 + 0) = m 18 j ∧ (m 18 j = 0 ∨ m 18 j = 1) := h.1
theorem LgA.en {c m : St} {b P : Nat} {R : Int} {f : Nat → Nat} {j : Nat} (h : LgA c m b P R f j) : c (b + 2) (j * 16 + 1) = m 19 j ∧ (m 19 j = 0 ∨ m 19 j = 1) := h.2.1
theorem LgA.e1 {c m : St} {b P : Nat} {R : Int} {f : Nat → Nat} {j : Nat} (h : LgA c m b P R f j) : m 19 j = 1 → c (b + 2) (j * 16 + 2) = m 20 j ∧ c (b + 2) (j * 16 + 3) = m 21 j ∧ Nb R (m 20 j) (m 21 j) := h.2.2.1
theorem LgA.e0 {c m : St} {b P : Nat} {R : Int} {f : Nat → Nat} {j : Nat} (h : LgA c m b P R f j) : m 19 j = 0 → c (b + 2) (j * 16 + 2) = -1000000 ∧ c (b + 2) (j * 16 + 3) = -1000000 := h.2.2.2.1
theorem LgA.h7 {c m : St} {b P : Nat} {R : Int} {f : Nat → Nat} {j : Nat} (h : LgA c m b P R f j) : m 1 (P + 3 + 14 * j + 0) = 7 → ∃ e : Nat, e ≤ 2 ∧ c (b + 2) (j * 16 + 8) = nI e ∧ m_entry (m 23 j) (m 1 (P + 3 + 14 * j + 2)) (m 1 (P + 3 + 14 * j + 4)) = some (nI e) := h.2.2.2.2.1
theorem LgA.hn {c m : St} {b P : Nat} {R : Int} {f : Nat → Nat} {j : Nat} (h : LgA c m b P R f j) : ¬ m 1 (P + 3 + 14 * j + 0) = 7 → c (b + 2) (j * 16 + 8) = -1000000 := h.2.2.2.2.2.1
theorem LgA.fs {c m : St} {b P : Nat} {R : Int} {f : Nat → Nat} {j : Nat} (h : LgA c m b P R f j) : m 22 j = nI (f j) := h.2.2.2.2.2.2.1
theorem LgA.fl {c m : St} {b P : Nat} {R : Int} {f : Nat → Nat} {j : Nat} (h : LgA c m b P R f j) : f j ≤ f (j + 1) ∧ f (j + 1) ≤ f j + 2 := h.2.2.2.2.2.2.2.1
theorem LgA.sg {c m : St} {b P : Nat} {R : Int} {f : Nat → Nat} {j : Nat} (h : LgA c m b P R f j) : ∀ u, f j ≤ u → u < f (j + 1) → m 7 u = nI j := h.2.2.2.2.2.2.2.2.1
theorem LgA.aa {c m : St} {b P : Nat} {R : Int} {f : Nat → Nat} {j : Nat} (h : LgA c m b P R f j) : m 18 j = 1 → f (j + 1) = f j := h.2.2.2.2.2.2.2.2.2.1
theorem LgA.ax {c m : St} {b P : Nat} {R : Int} {f : Nat → Nat} {j : Nat} (h : LgA c m b P R f j) : ∀ k : Nat, k < 9 → m 1 (P + 3 + 14 * j + 0) = nI k → (hfx k ∨ k = 8) → m 18 j = 1 → m 19 j = 1 := h.2.2.2.2.2.2.2.2.2.2.1
theorem LgA.nx {c m : St} {b P : Nat} {R : Int} {f : Nat → Nat} {j : Nat} (h : LgA c m b P R f j) : m 18 j = 0 → 0 < j ∧ m 19 (j - 1) = 1 := h.2.2.2.2.2.2.2.2.2.2.2

theorem LgA.of {c m c' m' : St} {b P j : Nat} {R : Int} {f f' : Nat → Nat} (h : LgA c m b P R f j) (hc : ∀ k, (k < 4 ∨ k = 8) → c' (b + 2) (j * 16 + k) = c (b + 2) (j * 16 + k)) (h1 : m' 1 = m 1) (hm : ∀ a, 18 ≤ a → a ≤ 23 → m' a j = m a j) (hp : 0 < j → m' 19 (j - 1) = m 19 (j - 1)) (h7 : ∀ u, u < f (j + 1) → m' 7 u = m 7 u) (hf : f' j = f j) (hf1 : f' (j + 1) = f (j + 1)) : LgA c' m' b P R f' j := by
  obtain ⟨a1, a2, a3, a4, a6, a7, a8, a9, a10, a11, a12, a13⟩ := h
  unfold LgA
  rw [hc 0 (by decide), hc 1 (by decide), hc 2 (by decide), hc 3 (by decide), hc 8 (by decide), h1, hm 18 (by decide) (by decide), hm 19 (by decide) (by decide), hm 20 (by decide) (by decide), hm 21 (by decide) (by decide), hm 22 (by decide) (by decide), hm 23 (by decide) (by decide), hf, hf1]
  exact ⟨a1, a2, a3, a4, a6, a7, a8, a9, fun u p q => by rw [h7 u q]; exact a10 u p q, a11, a12, fun p => ⟨(a13 p).1, by rw [hp (a13 p).1]; exact (a13 p).2⟩⟩
theorem SetR.of {c m c' m' : St} (h : SetR c m) (h1 : c' 1 = c 1) (h2 : ∀ k, k < 30 → m' 0 k = m 0 k) : SetR c' m' := by
  unfold SetR at *
  rw [h1, h2 8 (by decide), h2 9 (by decide), h2 10 (by decide), h2 11 (by decide), h2 12 (by decide), h2 13 (by decide), h2 14 (by decide), h2 15 (by decide), h2 16 (by decide)]
  exact h
theorem SetR.of1 {c m c' m' : St} (h : SetR c m) (h1 : ∀ k, 2 ≤ k → c' 1 k = c 1 k) (h2 : ∀ k, 8 ≤ k → k < 17 → m' 0 k = m 0 k) : SetR c' m' := by
  unfold SetR at *
  rw [h1 2 (by decide), h1 3 (by decide), h1 4 (by decide), h1 5 (by decide), h1 6 (by decide), h1 7 (by decide), h1 8 (by decide), h1 9 (by decide), h1 10 (by decide), h2 8 (by decide) (by decide), h2 9 (by decide) (by decide), h2 10 (by decide) (by decide), h2 11 (by decide) (by decide), h2 12 (by decide) (by decide), h2 13 (by decide) (by decide), h2 14 (by decide) (by decide), h2 15 (by decide) (by decide), h2 16 (by decide) (by decide)]
  exact h
/-- the columns of a leg's row that the first step leaves alone -/
abbrev zc (j : Nat) : Prop := (4 ≤ j ∧ j ≤ 7) ∨ j = 9 ∨ j = 10 ∨ (12 ≤ j ∧ j ≤ 15)
def LI (c m c0 m0 : St) (b q P : Nat) (Bs : Nat → Int) (R0 R : Int) (n i : Nat) (f : Nat → Nat) : Prop :=
  (∀ a, a ≠ b + 2 → a ≠ b + 3 → a ≠ b + 5 → c a = c0 a) ∧
  (∀ a, a ≠ 0 → (a < 7 ∨ 23 < a) → m a = m0 a) ∧
  (∀ k, (k < 30 ∨ 43 < k) → m 0 k = m0 0 k) ∧
  (Dm c) ∧
  (RefK m) ∧
  (SetR c m) ∧
  (PlanR c m q P R0 n) ∧
  (SR n c m b R (f i)) ∧
  (0 < i → IR n c m b R (f i)) ∧
  (f 0 = 0) ∧
  (f i ≤ 2 * i) ∧
  (∀ j, j < i → LgA c m b P R f j) ∧
  (∀ j, j < i → c (b + 2) (j * 16 + 11) = -1000000) ∧
  (∀ j l, j < 21 → zc l → c (b + 2) (j * 16 + l) = 0) ∧
  (∀ j, i ≤ j → j < 21 → c (b + 2) (j * 16 + 0) = 0 ∧ c (b + 2) (j * 16 + 1) = 0) ∧
  (0 < i → m 19 0 = 1 → Nb (Bs 0) (m 20 0) (m 21 0)) ∧
  (∃ t : Nat, t ≤ 450 ∧ c (b + 3) 11 = nI t ∧ m 0 41 = nI t ∧ (0 < i → m 19 (i - 1) = 1 → c (b + 3) 5 = m 20 (i - 1) ∧ c (b + 3) 6 = m 21 (i - 1) ∧ Nb (Bs (i - 1) + 2261 * ((i : Int) - 1) + 5 * t) (m 20 (i - 1)) (m 21 (i - 1))))
theorem LI.fc {c m c0 m0 : St} {b q P : Nat} {Bs : Nat → Int} {R0 R : Int} {n i : Nat} {f : Nat → Nat} (h : LI c m c0 m0 b q P Bs R0 R n i f) : ∀ a, a ≠ b + 2 → a ≠ b + 3 → a ≠ b + 5 → c a = c0 a := h.1
theorem LI.fm {c m c0 m0 : St} {b q P : Nat} {Bs : Nat → Int} {R0 R : Int} {n i : Nat} {f : Nat → Nat} (h : LI c m c0 m0 b q P Bs R0 R n i f) : ∀ a, a ≠ 0 → (a < 7 ∨ 23 < a) → m a = m0 a := h.2.1
theorem LI.fz {c m c0 m0 : St} {b q P : Nat} {Bs : Nat → Int} {R0 R : Int} {n i : Nat} {f : Nat → Nat} (h : LI c m c0 m0 b q P Bs R0 R n i f) : ∀ k, (k < 30 ∨ 43 < k) → m 0 k = m0 0 k := h.2.2.1
theorem LI.D {c m c0 m0 : St} {b q P : Nat} {Bs : Nat → Int} {R0 R : Int} {n i : Nat} {f : Nat → Nat} (h : LI c m c0 m0 b q P Bs R0 R n i f) : Dm c := h.2.2.2.1
theorem LI.K {c m c0 m0 : St} {b q P : Nat} {Bs : Nat → Int} {R0 R : Int} {n i : Nat} {f : Nat → Nat} (h : LI c m c0 m0 b q P Bs R0 R n i f) : RefK m := h.2.2.2.2.1
theorem LI.S {c m c0 m0 : St} {b q P : Nat} {Bs : Nat → Int} {R0 R : Int} {n i : Nat} {f : Nat → Nat} (h : LI c m c0 m0 b q P Bs R0 R n i f) : SetR c m := h.2.2.2.2.2.1
theorem LI.P {c m c0 m0 : St} {b q P : Nat} {Bs : Nat → Int} {R0 R : Int} {n i : Nat} {f : Nat → Nat} (h : LI c m c0 m0 b q P Bs R0 R n i f) : PlanR c m q P R0 n := h.2.2.2.2.2.2.1
theorem LI.sr {c m c0 m0 : St} {b q P : Nat} {Bs : Nat → Int} {R0 R : Int} {n i : Nat} {f : Nat → Nat} (h : LI c m c0 m0 b q P Bs R0 R n i f) : SR n c m b R (f i) := h.2.2.2.2.2.2.2.1
theorem LI.ir {c m c0 m0 : St} {b q P : Nat} {Bs : Nat → Int} {R0 R : Int} {n i : Nat} {f : Nat → Nat} (h : LI c m c0 m0 b q P Bs R0 R n i f) : 0 < i → IR n c m b R (f i) := h.2.2.2.2.2.2.2.2.1
theorem LI.f0 {c m c0 m0 : St} {b q P : Nat} {Bs : Nat → Int} {R0 R : Int} {n i : Nat} {f : Nat → Nat} (h : LI c m c0 m0 b q P Bs R0 R n i f) : f 0 = 0 := h.2.2.2.2.2.2.2.2.2.1
theorem LI.r2 {c m c0 m0 : St} {b q P : Nat} {Bs : Nat → Int} {R0 R : Int} {n i : Nat} {f : Nat → Nat} (h : LI c m c0 m0 b q P Bs R0 R n i f) : f i ≤ 2 * i := h.2.2.2.2.2.2.2.2.2.2.1
theorem LI.lg {c m c0 m0 : St} {b q P : Nat} {Bs : Nat → Int} {R0 R : Int} {n i : Nat} {f : Nat → Nat} (h : LI c m c0 m0 b q P Bs R0 R n i f) : ∀ j, j < i → LgA c m b P R f j := h.2.2.2.2.2.2.2.2.2.2.2.1
theorem LI.ec {c m c0 m0 : St} {b q P : Nat} {Bs : Nat → Int} {R0 R : Int} {n i : Nat} {f : Nat → Nat} (h : LI c m c0 m0 b q P Bs R0 R n i f) : ∀ j, j < i → c (b + 2) (j * 16 + 11) = -1000000 := h.2.2.2.2.2.2.2.2.2.2.2.2.1
theorem LI.zz {c m c0 m0 : St} {b q P : Nat} {Bs : Nat → Int} {R0 R : Int} {n i : Nat} {f : Nat → Nat} (h : LI c m c0 m0 b q P Bs R0 R n i f) : ∀ j l, j < 21 → zc l → c (b + 2) (j * 16 + l) = 0 := h.2.2.2.2.2.2.2.2.2.2.2.2.2.1
theorem LI.za {c m c0 m0 : St} {b q P : Nat} {Bs : Nat → Int} {R0 R : Int} {n i : Nat} {f : Nat → Nat} (h : LI c m c0 m0 b q P Bs R0 R n i f) : ∀ j, i ≤ j → j < 21 → c (b + 2) (j * 16 + 0) = 0 ∧ c (b + 2) (j * 16 + 1) = 0 := h.2.2.2.2.2.2.2.2.2.2.2.2.2.2.1
theorem LI.z0 {c m c0 m0 : St} {b q P : Nat} {Bs : Nat → Int} {R0 R : Int} {n i : Nat} {f : Nat → Nat} (h : LI c m c0 m0 b q P Bs R0 R n i f) : 0 < i → m 19 0 = 1 → Nb (Bs 0) (m 20 0) (m 21 0) := h.2.2.2.2.2.2.2.2.2.2.2.2.2.2.2.1
theorem LI.tt {c m c0 m0 : St} {b q P : Nat} {Bs : Nat → Int} {R0 R : Int} {n i : Nat} {f : Nat → Nat} (h : LI c m c0 m0 b q P Bs R0 R n i f) : ∃ t : Nat, t ≤ 450 ∧ c (b + 3) 11 = nI t ∧ m 0 41 = nI t ∧ (0 < i → m 19 (i - 1) = 1 → c (b + 3) 5 = m 20 (i - 1) ∧ c (b + 3) 6 = m 21 (i - 1) ∧ Nb (Bs (i - 1) + 2261 * ((i : Int) - 1) + 5 * t) (m 20 (i - 1)) (m 21 (i - 1))) := h.2.2.2.2.2.2.2.2.2.2.2.2.2.2.2.2

theorem LI_step {Bs : Nat → Int} {c m c0 m0 c' m' : St} {b q P n i r' t' : Nat} {f : Nat → Nat} {R0 R : Int} (hI : PI b q) (h : LI c m c0 m0 b q P Bs R0 R n i f) (hi : i < n)
    (fc : ∀ a, a ≠ b + 2 → a ≠ b + 3 → a ≠ b + 5 → c' a = c a) (f2 : ∀ k, (k < i * 16 ∨ i * 16 + 16 ≤ k) → c' (b + 2) k = c (b + 2) k) (fz : ∀ l, zc l → c' (b + 2) (i * 16 + l) = c (b + 2) (i * 16 + l))
    (fm : ∀ a, a ≠ 0 → (a < 7 ∨ 23 < a) → m' a = m a) (fe : ∀ a k, 18 ≤ a → a ≤ 23 → k ≠ i → m' a k = m a k) (f0 : ∀ k, (k < 30 ∨ 43 < k) → m' 0 k = m 0 k) (old : ∀ u, u < f i → ∀ a, 7 ≤ a → a ≤ 17 → m' a u = m a u)
    (hr2 : r' ≤ f i + 2) (sr : SR n c' m' b R r') (ir : IR n c' m' b R r') (hA : LgA c' m' b P R (fun j => if j = i + 1 then r' else f j) i) (hec : c' (b + 2) (i * 16 + 11) = -1000000) (hz0 : i = 0 → m' 19 0 = 1 → Nb (Bs 0) (m' 20 0) (m' 21 0))
    (ht : t' ≤ 450) (tc : c' (b + 3) 11 = nI t') (tm : m' 0 41 = nI t') (hE : m' 19 i = 1 → c' (b + 3) 5 = m' 20 i ∧ c' (b + 3) 6 = m' 21 i ∧ Nb (Bs i + 2261 * (i : Int) + 5 * t') (m' 20 i) (m' 21 i)) :
    LI c' m' c0 m0 b q P Bs R0 R n (i + 1) (fun j => if j = i + 1 then r' else f j) := by
  have hlt := hI.lt
  have nt := hI.nt
  have hn := h.P.le
  have hfm : ∀ j, j < i → f (j + 1) ≤ f i := by
    intro j hj
    have key : ∀ d j, j + 1 + d = i → f (j + 1) ≤ f i := by
      intro d
      induction d with
      | zero => intro j e; rw [show j + 1 = i by omega]; exact Nat.le_refl _
      | succ d ih =>
        intro j e
        have := (h.lg (j + 1) (by omega)).fl
        have := ih (j + 1) (by omega)
        omega
    exact key (i - (j + 1)) j (by omega)
  refine ⟨fun a p1 p2 p3 => (fc a p1 p2 p3).trans (h.fc a p1 p2 p3), fun a p1 p2 => (fm a p1 p2).trans (h.fm a p1 p2), fun k p => (f0 k p).trans (h.fz k p), h.D.of (fun t k ht => ?_), h.K.of (fm _ (by decide) (by decide)) (fm _ (by decide) (by decide)) (fm _ (by decide) (by decide)), h.S.of (fc 1 (by omega) (by omega) (by omega)) (fun k hk => f0 k (Or.inl hk)), h.P.of (fc q (by omega) (by omega) (by omega)) (fc (q + 2) (by omega) (by omega) (by omega)) (fc 1 (by omega) (by omega) (by omega)) (fm _ (by decide) (by decide)) (fm _ (by decide) (by decide)) (fm _ (by decide) (by decide)), ?_, ?_, ?_, ?_, ?_, ?_, ?_, ?_, fun _ p => ?_, t', ht, tc, tm, fun _ => ?_⟩
  · rw [fc t (fun e => by rw [e, nt.2.1] at ht; cases ht) (fun e => by rw [e, nt.2.2.1] at ht; cases ht) (fun e => by rw [e, nt.2.2.2.1] at ht; cases ht)]
  · dsimp only; rw [if_pos rfl]; exact sr
  · intro _; dsimp only; rw [if_pos rfl]; exact ir
  · dsimp only; rw [if_neg (by omega)]; exact h.f0
  · dsimp only
    rw [if_pos rfl]
    have := h.r2
    omega
  · intro j hj
    rcases (show j = i ∨ j < i by omega) with e | e
    · rw [e]; exact hA
    · have := hfm j e
      exact (h.lg j e).of (fun k hk => f2 _ (by omega)) (fm _ (by decide) (by decide)) (fun a p q => fe a j p q (by omega)) (fun p => fe 19 (j - 1) (by decide) (by decide) (by omega)) (fun u hu => old u (by omega) 7 (by decide) (by decide)) (if_neg (by omega)) (if_neg (by omega))
  · intro j hj
    rcases (show j = i ∨ j < i by omega) with e | e
    · rw [e]; exact hec
    · rw [f2 _ (by omega)]; exact h.ec j e
  · intro j l hj hl
    by_cases e : j = i
    · rw [e, fz l hl, ← e]; exact h.zz j l hj hl
    · rw [f2 _ (by unfold zc at hl; omega)]; exact h.zz j l hj hl
  · intro j hj hj2
    rw [f2 _ (by omega), f2 _ (by omega)]
    exact h.za j (by omega) hj2
  · by_cases e : i = 0
    · exact hz0 e p
    · rw [fe 19 0 (by decide) (by decide) (by omega)] at p
      rw [fe 20 0 (by decide) (by decide) (by omega), fe 21 0 (by decide) (by decide) (by omega)]
      exact h.z0 (by omega) p
  · intro p
    rw [Nat.add_sub_cancel] at p ⊢
    have := hE p
    refine ⟨this.1, this.2.1, ?_⟩
    rw [show ((i + 1 : Nat) : Int) - 1 = (i : Int) by omega]
    exact this.2.2
