/-! the first step as a whole: segments of a path -/
def FR (c m c' m' : St) (b : Nat) : Prop :=
  (∀ a, a ≠ b → a ≠ b + 2 → a ≠ b + 3 → a ≠ b + 5 → a ≠ b + 6 → a ≠ b + 8 → c' a = c a) ∧
  (∀ k, k ≠ 5 → c' b k = c b k) ∧
  (∀ a, a ≠ 0 → (a < 7 ∨ 40 < a) → m' a = m a) ∧
  (∀ k, (k < 30 ∨ 59 < k) → m' 0 k = m 0 k)
theorem FR.fc {c m c' m' : St} {b : Nat} (h : FR c m c' m' b) : ∀ a, a ≠ b → a ≠ b + 2 → a ≠ b + 3 → a ≠ b + 5 → a ≠ b + 6 → a ≠ b + 8 → c' a = c a := h.1
theorem FR.f5 {c m c' m' : St} {b : Nat} (h : FR c m c' m' b) : ∀ k, k ≠ 5 → c' b k = c b k := h.2.1
theorem FR.fm {c m c' m' : St} {b : Nat} (h : FR c m c' m' b) : ∀ a, a ≠ 0 → (a < 7 ∨ 40 < a) → m' a = m a := h.2.2.1
theorem FR.f0 {c m c' m' : St} {b : Nat} (h : FR c m c' m' b) : ∀ k, (k < 30 ∨ 59 < k) → m' 0 k = m 0 k := h.2.2.2

theorem FR.refl (c m : St) (b : Nat) : FR c m c m b := ⟨fun _ _ _ _ _ _ _ => rfl, fun _ _ => rfl, fun _ _ _ => rfl, fun _ _ => rfl⟩
theorem FR.trans {c m c1 m1 c2 m2 : St} {b : Nat} (h : FR c m c1 m1 b) (h' : FR c1 m1 c2 m2 b) : FR c m c2 m2 b :=
  ⟨fun a p1 p2 p3 p4 p5 p6 => (h'.fc a p1 p2 p3 p4 p5 p6).trans (h.fc a p1 p2 p3 p4 p5 p6), fun k p => (h'.f5 k p).trans (h.f5 k p), fun a p1 p2 => (h'.fm a p1 p2).trans (h.fm a p1 p2), fun k p => (h'.f0 k p).trans (h.f0 k p)⟩
def PH (c m : St) (b q P : Nat) (R0 R : Int) (n : Nat) (f : Nat → Nat) : Prop :=
  (Dm c) ∧
  (RefK m) ∧
  (SetR c m) ∧
  (PlanR c m q P R0 n) ∧
  (c (b + 3) 4 = nI (f n)) ∧
  (m 0 30 = nI (f n)) ∧
  (∀ k, k < f n → SgR n c m b R k) ∧
  (f 0 = 0) ∧
  (f n ≤ 2 * n) ∧
  (∀ j, j < n → LgA c m b P R f j) ∧
  (m 22 n = nI (f n))
theorem PH.D {c m : St} {b q P : Nat} {R0 R : Int} {n : Nat} {f : Nat → Nat} (h : PH c m b q P R0 R n f) : Dm c := h.1
theorem PH.K {c m : St} {b q P : Nat} {R0 R : Int} {n : Nat} {f : Nat → Nat} (h : PH c m b q P R0 R n f) : RefK m := h.2.1
theorem PH.S {c m : St} {b q P : Nat} {R0 R : Int} {n : Nat} {f : Nat → Nat} (h : PH c m b q P R0 R n f) : SetR c m := h.2.2.1
theorem PH.P {c m : St} {b q P : Nat} {R0 R : Int} {n : Nat} {f : Nat → Nat} (h : PH c m b q P R0 R n f) : PlanR c m q P R0 n := h.2.2.2.1
theorem PH.cc {c m : St} {b q P : Nat} {R0 R : Int} {n : Nat} {f : Nat → Nat} (h : PH c m b q P R0 R n f) : c (b + 3) 4 = nI (f n) := h.2.2.2.2.1
theorem PH.cm {c m : St} {b q P : Nat} {R0 R : Int} {n : Nat} {f : Nat → Nat} (h : PH c m b q P R0 R n f) : m 0 30 = nI (f n) := h.2.2.2.2.2.1
theorem PH.sg {c m : St} {b q P : Nat} {R0 R : Int} {n : Nat} {f : Nat → Nat} (h : PH c m b q P R0 R n f) : ∀ k, k < f n → SgR n c m b R k := h.2.2.2.2.2.2.1
theorem PH.f0 {c m : St} {b q P : Nat} {R0 R : Int} {n : Nat} {f : Nat → Nat} (h : PH c m b q P R0 R n f) : f 0 = 0 := h.2.2.2.2.2.2.2.1
theorem PH.r2 {c m : St} {b q P : Nat} {R0 R : Int} {n : Nat} {f : Nat → Nat} (h : PH c m b q P R0 R n f) : f n ≤ 2 * n := h.2.2.2.2.2.2.2.2.1
theorem PH.lg {c m : St} {b q P : Nat} {R0 R : Int} {n : Nat} {f : Nat → Nat} (h : PH c m b q P R0 R n f) : ∀ j, j < n → LgA c m b P R f j := h.2.2.2.2.2.2.2.2.2.1
theorem PH.fN {c m : St} {b q P : Nat} {R0 R : Int} {n : Nat} {f : Nat → Nat} (h : PH c m b q P R0 R n f) : m 22 n = nI (f n) := h.2.2.2.2.2.2.2.2.2.2

theorem PH.of {c m c' m' : St} {b q P n : Nat} {f : Nat → Nat} {R0 R : Int} (hI : PI b q) (h : PH c m b q P R0 R n f)
    (hc : ∀ a, a ≠ b → a ≠ b + 2 → a ≠ b + 5 → a ≠ b + 6 → a ≠ b + 8 → c' a = c a) (h5 : ∀ k j, j < 11 → c' (b + 5) (k * 16 + j) = c (b + 5) (k * 16 + j)) (h2 : ∀ j l, (l < 4 ∨ l = 8) → c' (b + 2) (j * 16 + l) = c (b + 2) (j * 16 + l))
    (hm : ∀ a, a ≠ 0 → a < 24 ∨ a = 42 → m' a = m a) (h0 : ∀ k, k < 31 → m' 0 k = m 0 k) : PH c' m' b q P R0 R n f := by
  have hlt := hI.lt
  have nt := hI.nt
  refine ⟨h.D.of (fun t k ht => ?_), h.K.of (hm _ (by decide) (by decide)) (hm _ (by decide) (by decide)) (hm _ (by decide) (by decide)), h.S.of (hc 1 (by omega) (by omega) (by omega) (by omega) (by omega)) (fun k hk => h0 k (by omega)), h.P.of (hc q (by omega) (by omega) (by omega) (by omega) (by omega)) (hc (q + 2) (by omega) (by omega) (by omega) (by omega) (by omega)) (hc 1 (by omega) (by omega) (by omega) (by omega) (by omega)) (hm _ (by decide) (by decide)) (hm _ (by decide) (by decide)) (hm _ (by decide) (by decide)), ?_, ?_, fun k hk => ?_, h.f0, h.r2, fun j hj => ?_, ?_⟩
  · rw [hc t (fun e => by rw [e, nt.1] at ht; cases ht) (fun e => by rw [e, nt.2.1] at ht; cases ht) (fun e => by rw [e, nt.2.2.2.1] at ht; cases ht) (fun e => by rw [e, nt.2.2.2.2.1] at ht; cases ht) (fun e => by rw [e, nt.2.2.2.2.2.1] at ht; cases ht)]
  · rw [hc _ (by omega) (by omega) (by omega) (by omega) (by omega)]; exact h.cc
  · rw [h0 _ (by decide)]; exact h.cm
  · exact (h.sg k hk).of (fun j hj => h5 k j hj) (fun a p q => by rw [hm a (by omega) (by omega)]) (fun _ => by rw [hm 12 (by decide) (by decide)])
  · exact (h.lg j hj).of (fun k hk => h2 j k hk) (hm _ (by decide) (by decide)) (fun a p q => by rw [hm a (by omega) (by omega)]) (fun _ => by rw [hm 19 (by decide) (by decide)]) (fun u _ => by rw [hm 7 (by decide) (by decide)]) rfl rfl
  · rw [hm 22 (by decide) (by decide)]; exact h.fN
/-- which rows are zero behind the first step -/
def Z1 (c : St) (b n : Nat) : Prop := (∀ j l, j < 21 → zc l → c (b + 2) (j * 16 + l) = 0) ∧ (∀ j, j < n → c (b + 2) (j * 16 + 11) = -1000000) ∧ (∀ k j, k < 42 → 11 ≤ j → j < 16 → c (b + 5) (k * 16 + j) = 0)
def clr (c : St) (b : Nat) : St := s2 (s2 (sfl (sfl c (b + 2) 336 0) (b + 5) 672 0) (b + 3) 4 0) (b + 3) 11 (c 1 9)
theorem clear_c {c : St} {b q : Nat} (hI : PI b q) (hD : Dm c) : f_Tk_clear c (b + 3) = some (clr c b) := by
  have hlt := hI.lt
  have l2 : ln (b + 2) = 336 := by have := (hD.pl hI).2.1.2.2.1; rw [rc_b12 hI] at this; exact this
  have l5 : ln (b + 5) = 672 := by have := (hD.pl hI).2.2.1.2.2.1; rw [rc_b42 hI] at this; exact this
  unfold f_Tk_clear f_Tb_clear
  rw [rc_b32 hI, rc_b33 hI, rc_b12 hI, rc_b42 hI, rc_b31 hI, fill_e (by rw [l2]; decide), l2]
  rw [bd_e (bd_e rfl), fill_e (by rw [l5]; decide), l5, bd_e (bd_e rfl), Lt_e, Lt_e]
  unfold clr
  have e : s2 (sfl (sfl c (b + 2) 336 0) (b + 5) 672 0) (b + 3) 4 0 1 9 = c 1 9 := by
    rw [sM (by omega)]
    unfold sfl
    rw [if_neg (by omega), if_neg (by omega)]
  rw [e]
theorem clr_o {c : St} {b a : Nat} (h2 : a ≠ b + 2) (h3 : a ≠ b + 3) (h5 : a ≠ b + 5) : clr c b a = c a := by
  funext z
  unfold clr
  rw [sM (by omega), sM (by omega)]
  unfold sfl
  rw [if_neg (by omega), if_neg (by omega)]
theorem clr_2 {c : St} {b z : Nat} (h : z < 336) : clr c b (b + 2) z = 0 := by
  unfold clr
  rw [sM (by omega), sM (by omega)]
  unfold sfl
  rw [if_neg (by omega), if_pos (by omega)]
theorem clr_5 {c : St} {b z : Nat} (h : z < 672) : clr c b (b + 5) z = 0 := by
  unfold clr
  rw [sM (by omega), sM (by omega)]
  unfold sfl
  rw [if_pos (by omega)]
def mcl (m : St) : St := mI (s2 (s2 m 0 30 0) 0 41 (m 0 15)) (-1) 0 0 (-1)
theorem LI_0 {Bs : Nat → Int} {c m : St} {b q P n : Nat} {R0 R : Int} (hI : PI b q) (hD : Dm c) (hK : RefK m) (hS : SetR c m) (hP : PlanR c m q P R0 n) : LI (clr c b) (mcl m) c m b q P Bs R0 R n 0 (fun _ => 0) := by
  have hlt := hI.lt
  have nt := hI.nt
  have mo : ∀ a, a ≠ 0 → mcl m a = m a := fun a p => by funext z; simp (disch := omega) only [sM, mcl, mI]
  have m0 : ∀ k, k < 30 ∨ 43 < k → mcl m 0 k = m 0 k := fun k p => by simp (disch := omega) only [sM, mcl, mI]
  obtain ⟨t, ht, e1, e2⟩ : ∃ t : Nat, t ≤ 450 ∧ c 1 9 = nI t ∧ m 0 15 = nI t := by
    obtain ⟨h1, h2, h3⟩ := hS.2.2.2.2.2.2.2.2.1
    have e : c 1 9 = nI (c 1 9).toInt.toNat := i2 (by rw [nI_toInt (by omega)]; omega)
    exact ⟨(c 1 9).toInt.toNat, by omega, e, by rw [← h1]; exact e⟩
  refine ⟨fun a p1 p2 p3 => clr_o p1 p2 p3, fun a p1 _ => mo a p1, m0, hD.of (fun t k ht => ?_), hK.of (mo _ (by decide)) (mo _ (by decide)) (mo _ (by decide)), hS.of (clr_o (by omega) (by omega) (by omega)) (fun k hk => m0 k (Or.inl hk)), hP.of (clr_o (by omega) (by omega) (by omega)) (clr_o (by omega) (by omega) (by omega)) (clr_o (by omega) (by omega) (by omega)) (mo _ (by decide)) (mo _ (by decide)) (mo _ (by decide)), ⟨?_, ?_, fun k hk => absurd hk (Nat.not_lt_zero k), fun k j p1 p2 p3 => clr_5 (by omega)⟩, fun p => absurd p (by omega), rfl, Nat.zero_le _, fun j hj => absurd hj (by omega), fun j hj => absurd hj (by omega), fun j l hj hl => clr_2 (by unfold zc at hl; omega), fun j p1 p2 => ⟨clr_2 (by omega), clr_2 (by omega)⟩, fun p => absurd p (by omega), t, ht, ?_, ?_, fun p => absurd p (by omega)⟩
  · rw [clr_o (fun e => by rw [e, nt.2.1] at ht; cases ht) (fun e => by rw [e, nt.2.2.1] at ht; cases ht) (fun e => by rw [e, nt.2.2.2.1] at ht; cases ht)]
  · simp (disch := omega) only [sH, sM, clr]; rfl
  · simp (disch := omega) only [sH, sM, mcl, mI]; rfl
  · simp (disch := omega) only [sH, sM, clr]; exact e1
  · simp (disch := omega) only [sH, sM, mcl, mI]; exact e2
theorem segs_lock {Bs : Nat → Int} {c m : St} {b q P n : Nat} {R0 R : Int} (hI : PI b q) (hD : Dm c) (hK : RefK m) (hS : SetR c m) (hP : PlanR c m q P R0 n) (hBs : BsOK m P Bs R0 R n) (hR : R ≤ 5940000) (Jc : St → Option St) :
    ∃ c' m' f, (Option.bind (f_Tk_clear c (b + 3)) fun x2 => lp (lb_f_Pa_refresh_22 b Jc) 4000 ((0 : Int32), x2)) = Jc c' ∧ m_laysSegments m (nI P) = some m' ∧ PH c' m' b q P R0 R n f ∧ Z1 c' b n ∧ FR c m c' m' b ∧ c' b = c b ∧ (0 < n → m' 19 0 = 1 → Nb (Bs 0) (m' 20 0) (m' 21 0)) := by
  have hn := hP.le
  have h0 := LI_0 (Bs := Bs) (R := R) hI hD hK hS hP
  obtain ⟨c', m', f, e1, e2, h⟩ := legs_lock hI hBs hR Jc (fun (σ4 : St) => Option.bind (m_count σ4 (nI P)) fun x6 => Gd (Ix x6 22) <| Lt (s2 σ4 22 (Int32.toNatClampNeg x6) (σ4 0 30)) fun σ7 => some σ7) n 0 _ _ _ 4000 4000 (by omega) (by omega) (by omega) h0
  have mo : ∀ a, a ≠ 22 → s2 m' 22 n (nI (f n)) a = m' a := fun a p => s2_ne p
  refine ⟨c', s2 m' 22 n (nI (f n)), f, ?_, ?_, ⟨h.D, h.K.of (mo _ (by decide)) (mo _ (by decide)) (mo _ (by decide)), h.S.of rfl (fun k _ => by rw [mo 0 (by decide)]), h.P.of rfl rfl rfl (mo _ (by decide)) (mo _ (by decide)) (mo _ (by decide)), h.sr.cc, by rw [mo 0 (by decide)]; exact h.sr.cm, fun k hk => (h.sr.row k hk).of (fun _ _ => rfl) (fun a p q => by rw [mo a (by omega)]) (fun _ => by rw [mo 12 (by decide)]), h.f0, h.r2, fun j hj => (h.lg j hj).of (fun _ _ => rfl) (mo _ (by decide)) (fun a p q => s2_nk (Or.inr (by omega))) (fun _ => s2_nk (Or.inr (by omega))) (fun u _ => by rw [mo 7 (by decide)]) rfl rfl, s2_at⟩, ⟨h.zz, h.ec, h.sr.zz⟩, ⟨fun a p1 p2 p3 p4 p5 p6 => h.fc a p2 p3 p4, fun k _ => by rw [h.fc b (by omega) (by omega) (by omega)], fun a p1 p2 => by rw [mo a (by omega)]; exact h.fm a p1 (by omega), fun k p => by rw [mo 0 (by decide)]; exact h.fz k (by omega)⟩, h.fc b (by omega) (by omega) (by omega), fun h0 p => by
    rw [mo 19 (by decide)] at p
    rw [mo 20 (by decide), mo 21 (by decide)]
    exact h.z0 h0 p⟩
  · rw [bd_e (clear_c hI hD)]
    exact e1
  · unfold m_laysSegments
    rw [Lt_e, Lt_e, bd_e (inb_e _ _ _ _ _), sM (show (0 : Nat) ≠ 0 ∨ 15 ≠ 30 by decide), Jn_e]
    refine Eq.trans e2 ?_
    rw [bd_e (mcount hP.Pl), h.P.cm, Gd_t (Ix_n (by omega) (by decide)), Lt_e, h.sr.cm, nI_clamp (by omega)]
