/-! the path as a whole, on both sides -/

/-- what the class's row of a leg shows, out of the reference's numbers -/
def Wc (m : St) (P i l : Nat) : Int32 :=
  if l = 0 then m 18 i else if l = 1 then m 19 i else if l = 2 then (if m 19 i = 1 then m 20 i else -1000000) else if l = 3 then (if m 19 i = 1 then m 21 i else -1000000)
  else if l < 8 then (if m 22 i < m 22 (i + 1) then m (20 + l) (m 22 i).toNatClampNeg else 0)
  else if l = 8 then (if m 1 (P + 3 + 14 * i + 0) = 7 then (m_entry (m 23 i) (m 1 (P + 3 + 14 * i + 2)) (m 1 (P + 3 + 14 * i + 4))).getD 0 else -1000000)
  else if l = 9 then m 37 i else if l = 10 then m 38 i else if l = 11 then LCr m i (m 0 57).toNatClampNeg
  else if l = 12 then m 39 i else if l = 13 then m 40 i else if l = 14 then altv m i else vio m P i
def VR (c m : St) (b P n : Nat) : Prop :=
  (∀ i l, i < n → l < 16 → c (b + 2) (i * 16 + l) = Wc m P i l) ∧
  (c (b + 6) 5 = m 0 57) ∧
  (∀ k j, k < (m 0 57).toNatClampNeg → j < 8 → c (b + 8) (k * 8 + j) = m (29 + j) k)
theorem VR.lg {c m : St} {b P n : Nat} (h : VR c m b P n) : ∀ i l, i < n → l < 16 → c (b + 2) (i * 16 + l) = Wc m P i l := h.1
theorem VR.pc {c m : St} {b P n : Nat} (h : VR c m b P n) : c (b + 6) 5 = m 0 57 := h.2.1
theorem VR.pr {c m : St} {b P n : Nat} (h : VR c m b P n) : ∀ k j, k < (m 0 57).toNatClampNeg → j < 8 → c (b + 8) (k * 8 + j) = m (29 + j) k := h.2.2
def WF (m : St) (P : Nat) (R : Int) (n : Nat) : Prop :=
  (∀ i, i < n → m 18 i = 0 ∨ m 18 i = 1) ∧
  (∀ i, i < n → m 19 i = 0 ∨ m 19 i = 1) ∧
  (∀ i, i < n → m 19 i = 1 → Nb R (m 20 i) (m 21 i)) ∧
  (∀ i, i < n → m 1 (P + 3 + 14 * i + 0) = 7 → ∃ e : Nat, e ≤ 2 ∧ m_entry (m 23 i) (m 1 (P + 3 + 14 * i + 2)) (m 1 (P + 3 + 14 * i + 4)) = some (nI e)) ∧
  (∃ f : Nat → Nat, f n ≤ 42 ∧ (∀ i, i ≤ n → m 22 i = nI (f i)) ∧ ∀ i, i < n → f i ≤ f (i + 1)) ∧
  (∃ p : Nat, p ≤ 126 ∧ m 0 57 = nI p ∧ (∀ k, k < p → (∃ l : Nat, 1 ≤ l ∧ l ≤ 5965232 ∧ m 31 k = nI l) ∧ (∃ v : Nat, v < 24 ∧ m 32 k = nI v) ∧ Nb (R + 400) (m 33 k) (m 34 k) ∧ Nb (R + 400) (m 35 k) (m 36 k) ∧ ∃ g : Nat, g < n ∧ m 29 k = nI g) ∧ (∀ j, j < n → m 37 j = SLr m j p) ∧ (∀ j, j < n → m 18 j = 1 → ¬ m 1 (P + 3 + 14 * j + 0) = 7 → ∀ k, k < p → ¬ m 29 k = nI j)) ∧
  (0 < n → m 18 0 = 1) ∧
  (∀ j, j < n → 0 ≤ (m 37 j).toInt ∧ (m 37 j).toInt ≤ 800000000) ∧
  (∀ j, j < n → 0 ≤ (m 39 j).toInt ∧ (m 39 j).toInt ≤ 450 ∧ 0 ≤ (m 40 j).toInt ∧ (m 40 j).toInt ≤ 450)
theorem WF.an {m : St} {P : Nat} {R : Int} {n : Nat} (h : WF m P R n) : ∀ i, i < n → m 18 i = 0 ∨ m 18 i = 1 := h.1
theorem WF.en {m : St} {P : Nat} {R : Int} {n : Nat} (h : WF m P R n) : ∀ i, i < n → m 19 i = 0 ∨ m 19 i = 1 := h.2.1
theorem WF.e1 {m : St} {P : Nat} {R : Int} {n : Nat} (h : WF m P R n) : ∀ i, i < n → m 19 i = 1 → Nb R (m 20 i) (m 21 i) := h.2.2.1
theorem WF.h7 {m : St} {P : Nat} {R : Int} {n : Nat} (h : WF m P R n) : ∀ i, i < n → m 1 (P + 3 + 14 * i + 0) = 7 → ∃ e : Nat, e ≤ 2 ∧ m_entry (m 23 i) (m 1 (P + 3 + 14 * i + 2)) (m 1 (P + 3 + 14 * i + 4)) = some (nI e) := h.2.2.2.1
theorem WF.fs {m : St} {P : Nat} {R : Int} {n : Nat} (h : WF m P R n) : ∃ f : Nat → Nat, f n ≤ 42 ∧ (∀ i, i ≤ n → m 22 i = nI (f i)) ∧ ∀ i, i < n → f i ≤ f (i + 1) := h.2.2.2.2.1
theorem WF.pc {m : St} {P : Nat} {R : Int} {n : Nat} (h : WF m P R n) : ∃ p : Nat, p ≤ 126 ∧ m 0 57 = nI p ∧ (∀ k, k < p → (∃ l : Nat, 1 ≤ l ∧ l ≤ 5965232 ∧ m 31 k = nI l) ∧ (∃ v : Nat, v < 24 ∧ m 32 k = nI v) ∧ Nb (R + 400) (m 33 k) (m 34 k) ∧ Nb (R + 400) (m 35 k) (m 36 k) ∧ ∃ g : Nat, g < n ∧ m 29 k = nI g) ∧ (∀ j, j < n → m 37 j = SLr m j p) ∧ (∀ j, j < n → m 18 j = 1 → ¬ m 1 (P + 3 + 14 * j + 0) = 7 → ∀ k, k < p → ¬ m 29 k = nI j) := h.2.2.2.2.2.1
theorem WF.a0 {m : St} {P : Nat} {R : Int} {n : Nat} (h : WF m P R n) : 0 < n → m 18 0 = 1 := h.2.2.2.2.2.2.1
theorem WF.lb {m : St} {P : Nat} {R : Int} {n : Nat} (h : WF m P R n) : ∀ j, j < n → 0 ≤ (m 37 j).toInt ∧ (m 37 j).toInt ≤ 800000000 := h.2.2.2.2.2.2.2.1
theorem WF.al {m : St} {P : Nat} {R : Int} {n : Nat} (h : WF m P R n) : ∀ j, j < n → 0 ≤ (m 39 j).toInt ∧ (m 39 j).toInt ≤ 450 ∧ 0 ≤ (m 40 j).toInt ∧ (m 40 j).toInt ≤ 450 := h.2.2.2.2.2.2.2.2

theorem SLr_b {m : St} {j : Nat} : ∀ p, p ≤ 126 → (∀ k, k < p → ∃ l : Nat, 1 ≤ l ∧ l ≤ 5965232 ∧ m 31 k = nI l) → 0 ≤ (SLr m j p).toInt ∧ (SLr m j p).toInt ≤ 5965232 * (p : Int) := by
  intro p
  induction p with
  | zero =>
    intro _ _
    show 0 ≤ (0 : Int32).toInt ∧ (0 : Int32).toInt ≤ 5965232 * ((0 : Nat) : Int)
    decide
  | succ p ih =>
    intro hp h
    have hh := ih (by omega) (fun k hk => h k (by omega))
    obtain ⟨l, l1, l2, e⟩ := h p (by omega)
    have el : (nI l).toInt = (l : Int) := nI_toInt (by omega)
    unfold SLr
    by_cases c : m 29 p = nI j
    · rw [if_pos c, e, tI_add (by rw [el]; omega) (by rw [el]; omega), el]
      omega
    · rw [if_neg c, Int32.add_zero]
      omega
def K9 (b : Nat) : St → Option St := fun σ8 => Option.bind (f_Pf_calculate σ8 (rc b 4)) fun x10 => some x10
def K6 (b : Nat) : St → Option St := fun σ5 => Option.bind (f_Pc_clear σ5 (rc b 3)) fun x7 => lp (lb_f_Pa_refresh_85 b (K9 b)) 4000 ((0 : Int32), (0 : Int32), x7)
def K4 (b : Nat) : St → Option St := fun σ3 => lp (lb_f_Pa_refresh_49 b (K6 b)) 4000 ((0 : Int32), σ3)
theorem refresh_e (c : St) (b : Nat) : f_Pa_refresh c b = if c b 5 = 0 then some c else Option.bind (f_Tk_clear (s2 c b 5 (0 : Int32)) (rc b 2)) fun x2 => lp (lb_f_Pa_refresh_22 b (K4 b)) 4000 ((0 : Int32), x2) := by
  unfold f_Pa_refresh K4 K6 K9
  simp only [Jn_e, Lt_e]
def M8 (p : Int32) : St → Option St := fun σ7 => Option.bind (m_laysTotals σ7 p) fun x9 => Option.bind (m_laysAltitudes x9 p) fun x10 => some x10
def M3 (p : Int32) : St → Option St := fun σ2 => lp (lb_m_lays_44 p (M8 p)) 4000 ((0 : Int32), s2 (s2 (s2 σ2 0 57 (0 : Int32)) 0 58 (0 : Int32)) 0 59 (0 : Int32))
theorem lays_e (m : St) (p : Int32) : m_lays m p = Option.bind (m_laysSegments m p) fun x1 => lp (lb_m_lays_7 p (M3 p)) 4000 ((0 : Int32), x1) := by
  unfold m_lays M3 M8
  simp only [Jn_e, Lt_e]
theorem DI_0 {c m : St} {b q P n : Nat} {f : Nat → Nat} {R0 R : Int} (hI : PI b q) (hC : CX c m b q P R0 R n f) (hz : ∀ j, j < 21 → c (b + 2) (j * 16 + 9) = 0 ∧ c (b + 2) (j * 16 + 10) = 0 ∧ (j < n → c (b + 2) (j * 16 + 11) = -1000000)) : DI (s2 c (b + 6) 5 0) (s2 (s2 (s2 m 0 57 0) 0 58 0) 0 59 0) c m b q P R0 R n f 0 0 := by
  have mo : ∀ a, a ≠ 0 → s2 (s2 (s2 m 0 57 (0 : Int32)) 0 58 0) 0 59 0 a = m a := fun a p => by rw [s2_ne p, s2_ne p, s2_ne p]
  have m0 : ∀ k, (k < 57 ∨ 59 < k) → s2 (s2 (s2 m 0 57 (0 : Int32)) 0 58 0) 0 59 0 0 k = m 0 k := fun k p => by simp (disch := omega) only [sM]
  refine ⟨hC.of hI (fun a _ _ p _ => s2_ne p) (fun j l _ => by rw [s2_ne (by omega)]) (fun a p _ => mo a p) (fun k hk => m0 k (by omega)), fun a _ p _ => s2_ne p, fun j l _ _ => by rw [s2_ne (by omega)], fun j _ hj => by rw [s2_ne (by omega)]; exact hz j hj, fun a p _ => mo a p, m0, ⟨s2_at, ?_, fun k hk => absurd hk (by omega)⟩, Or.inr (fun j hj => absurd hj (by omega)), by omega, fun k hk => absurd hk (by omega), fun j hj => absurd hj (by omega), fun j hj => absurd hj (by omega)⟩
  simp (disch := omega) only [sH, sM]
  rfl
theorem path_lock {Bs : Nat → Int} {c m : St} {b q P n : Nat} {R0 R : Int} (hI : PI b q) (hD : Dm c) (hK : RefK m) (hS : SetR c m) (hP : PlanR c m q P R0 n) (hBs : BsOK m P Bs R0 R n) (hR14 : 14200 ≤ R) (hR : R ≤ 5940000) (hst : ¬ c b 5 = 0) :
    ∃ c' m', f_Pa_refresh c b = some c' ∧ m_lays m (nI P) = some m' ∧ VR c' m' b P n ∧ WF m' P R n ∧ FR c m c' m' b ∧ c' b 5 = 0 ∧ (0 < n → m' 19 0 = 1 → Nb (Bs 0) (m' 20 0) (m' 21 0)) ∧ (∀ j, n ≤ j → j < 21 → c' (b + 2) (j * 16 + 9) = 0) := by
  have hlt := hI.lt
  have hn := hP.le
  have nt := hI.nt
  have n1 : ∀ a, a ≠ b → s2 c b 5 (0 : Int32) a = c a := fun a p => s2_ne p
  -- segments
  obtain ⟨c1, m1, f, e1, e2, hph, hz, hfr1, hb5, hz0⟩ := segs_lock (c := s2 c b 5 0) (m := m) hI (hD.s2 nt.1) hK (hS.of (n1 _ (by omega)) (fun _ _ => rfl)) (hP.of (n1 _ (by omega)) (n1 _ (by omega)) (n1 _ (by omega)) rfl rfl rfl) hBs hR (K4 b)
  -- turns
  obtain ⟨c2, m2, q1, q2, hT⟩ := turns_lock hI hR hph (K6 b) (M3 (nI P)) (f n) 0 c1 m1 4000 4000 (by omega) (by have := hph.r2; omega) (by have := hph.r2; omega) (TI_0 hph hz)
  have hph2 := hT.ph hI hph
  have hfr2 : FR c1 m1 c2 m2 b := ⟨fun a _ p2 _ p4 _ _ => hT.fc a p2 p4, fun k _ => by rw [hT.fc b (by omega) (by omega)], fun a _ p2 => hT.fm a (by omega), fun k _ => by rw [hT.fm 0 (by decide)]⟩
  have hcx2 : CX c2 m2 b q P R0 R n f := ⟨hph2, hT.tg, fun k hk => by rw [hT.nl k hk, hT.f5 (k + 1) 10 (by decide)]⟩
  have hz2 : ∀ j, j < 21 → c2 (b + 2) (j * 16 + 9) = 0 ∧ c2 (b + 2) (j * 16 + 10) = 0 ∧ (j < n → c2 (b + 2) (j * 16 + 11) = -1000000) := fun j hj => ⟨by rw [hT.f2 j 9 (by decide) (by decide)]; exact hz.1 j 9 (by omega) (by decide), by rw [hT.f2 j 10 (by decide) (by decide)]; exact hz.1 j 10 (by omega) (by decide), fun hj => by rw [hT.f2 j 11 (by decide) (by decide)]; exact hz.2.1 j hj⟩
  -- pieces
  obtain ⟨c3, m3, p, w1, w2, hdi⟩ := draw_lock hI hR14 hR (K9 b) (M8 (nI P)) n 0 _ _ 0 4000 4000 (by omega) (by omega) (by omega) (DI_0 hI hcx2 hz2)
  have hcx3 := hdi.cx
  have h126 : p ≤ 126 := by have := hdi.p6; omega
  have hfr3 : FR c2 m2 c3 m3 b := ⟨fun a _ p2 _ _ p5 p6 => hdi.fc a p2 p5 p6, fun k _ => by rw [hdi.fc b (by omega) (by omega) (by omega)], fun a p1 p2 => hdi.fm a p1 (by omega), fun k p => hdi.f0 k (by omega)⟩
  -- totals
  obtain ⟨m4, t1, t2⟩ := totals_m hcx3.ph.P hcx3.ph.S hcx3.ph.K hdi.pr h126 hdi.lg
  have hB4 : BS c3 m4 b q P R0 n := ⟨hcx3.ph.D, hcx3.ph.P.of rfl rfl rfl (t2.1 _ (by decide) (by decide)) (t2.1 _ (by decide) (by decide)) (t2.1 _ (by decide) (by decide)), hcx3.ph.S.of rfl (fun k _ => by rw [t2.1 0 (by decide) (by decide)]), fun j hj => by rw [(t2.2 j hj).1]; exact (hdi.tot j hj).1, fun j hj => by
    rw [(t2.2 j hj).1]
    have := SLr_b (m := m3) (j := j) p h126 (fun k hk => (hdi.pr.row k hk).len)
    omega⟩
  -- profile
  obtain ⟨c5, m5, x1, x2, x3, x4, x5, x6, x7⟩ := prof_lock hI hB4
  have m53 : ∀ a, a ≠ 37 → a ≠ 38 → a ≠ 39 → a ≠ 40 → m5 a = m3 a := fun a p1 p2 p3 p4 => by rw [x5 a p3 p4, t2.1 a p1 p2]
  have m57 : m5 0 57 = nI p := by rw [m53 0 (by decide) (by decide) (by decide) (by decide)]; exact hdi.pr.cm
  have hcl : (m5 0 57).toNatClampNeg = p := by rw [m57, nI_clamp (by omega)]
  have e22 : ∀ i, i ≤ n → m3 22 i = nI (f i) := fun i hi => by
    rcases (show i = n ∨ i < n by omega) with e | e
    · rw [e]; exact hcx3.ph.fN
    · exact (hcx3.ph.lg i e).fs
  have hfm : ∀ i, i < n → f i ≤ f (i + 1) := fun i hi => (hcx3.ph.lg i hi).fl.1
  have hfn : f n ≤ 42 := by have := hcx3.ph.r2; omega
  have hlo : ∀ i, i ≤ n → f i ≤ f n := fun i hi => hcx3.ph.mono (i := i) (j := n) hi (Nat.le_refl _)
  have lcr : ∀ j, LCr m5 j p = LCr m3 j p ∧ SLr m5 j p = SLr m3 j p := fun j => by
    have := sums_of (c := c3) (c' := c3) (m := m3) (m' := m5) (lim := 0) (j := j) (p := p) rfl (fun k _ a p1 p2 => by rw [m53 a (by omega) (by omega) (by omega) (by omega)])
    exact ⟨this.2.2, this.1⟩
  refine ⟨c5, m5, ?_, ?_, ⟨fun i l hi hl => ?_, ?_, fun k j hk hj => ?_⟩, ⟨fun i hi => ?_, fun i hi => ?_, fun i hi q => ?_, fun i hi q => ?_, ⟨f, hfn, fun i hi => ?_, hfm⟩, ⟨p, h126, m57, fun k hk => ?_, fun j hj => ?_, fun j hj q1 q2 k hk => ?_⟩, fun h0 => ?_, fun j hj => ?_, x7⟩, ?_, ?_, fun h0 p => ?_, fun j p1 p2 => by rw [x4 j 9 (by decide)]; exact (hdi.fi j p1 p2).1⟩
  · rw [refresh_e, if_neg hst, rc_b2 hI]
    refine Eq.trans e1 ?_
    refine Eq.trans q1 ?_
    show Option.bind (f_Pc_clear c2 (rc b 3)) (fun x7 => lp (lb_f_Pa_refresh_85 b (K9 b)) 4000 ((0 : Int32), (0 : Int32), x7)) = _
    rw [rc_b3 hI]
    have ecl : f_Pc_clear c2 (b + 6) = some (s2 c2 (b + 6) 5 0) := rfl
    rw [hph.f0] at w1
    rw [bd_e ecl]
    refine Eq.trans w1 ?_
    show Option.bind (f_Pf_calculate c3 (rc b 4)) (fun x10 => some x10) = _
    rw [rc_b4 hI]
    exact bd_e x1
  · rw [lays_e, bd_e e2]
    refine Eq.trans q2 ?_
    refine Eq.trans w2 ?_
    show Option.bind (m_laysTotals m3 (nI P)) (fun x9 => Option.bind (m_laysAltitudes x9 (nI P)) fun x10 => some x10) = _
    rw [bd_e t1]
    exact bd_e x2
  · have hA := hcx3.ph.lg i hi
    have hx := x6 i hi
    unfold Wc
    by_cases l0 : l = 0
    · rw [if_pos l0, l0, x4 i 0 (by decide), m53 18 (by decide) (by decide) (by decide) (by decide)]
      exact hA.an.1
    rw [if_neg l0]
    by_cases l1 : l = 1
    · rw [if_pos l1, l1, x4 i 1 (by decide), m53 19 (by decide) (by decide) (by decide) (by decide)]
      exact hA.en.1
    rw [if_neg l1]
    by_cases l2 : l = 2
    · rw [if_pos l2, l2, x4 i 2 (by decide), m53 19 (by decide) (by decide) (by decide) (by decide), m53 20 (by decide) (by decide) (by decide) (by decide)]
      rcases hA.en.2 with y | y
      · rw [if_neg (by rw [y]; decide)]; exact (hA.e0 y).1
      · rw [if_pos y]; exact (hA.e1 y).1
    rw [if_neg l2]
    by_cases l3 : l = 3
    · rw [if_pos l3, l3, x4 i 3 (by decide), m53 19 (by decide) (by decide) (by decide) (by decide), m53 21 (by decide) (by decide) (by decide) (by decide)]
      rcases hA.en.2 with y | y
      · rw [if_neg (by rw [y]; decide)]; exact (hA.e0 y).2
      · rw [if_pos y]; exact (hA.e1 y).2.1
    rw [if_neg l3]
    by_cases l8 : l < 8
    · rw [if_pos l8, x4 i l (by omega), hdi.f2 i l hl (by omega), m53 22 (by decide) (by decide) (by decide) (by decide), m53 (20 + l) (by omega) (by omega) (by omega) (by omega), hdi.fm (20 + l) (by omega) (by omega), e22 i (by omega), e22 (i + 1) (by omega)]
      have hb1 := hlo i (by omega)
      have hb2 := hlo (i + 1) (by omega)
      by_cases hf : f i < f (i + 1)
      · rw [if_pos (nI_lt hf (by omega)), nI_clamp (by omega)]
        have := hT.l1 i hi hf (by omega)
        rcases (show l = 4 ∨ l = 5 ∨ l = 6 ∨ l = 7 by omega) with e | e | e | e <;> subst e
        · exact this.1
        · exact this.2.1
        · exact this.2.2.1
        · exact this.2.2.2
      · rw [if_neg (nI_nlt (by omega) (by omega))]
        have := hT.l0 i hi (fun q => hf q.1)
        rcases (show l = 4 ∨ l = 5 ∨ l = 6 ∨ l = 7 by omega) with e | e | e | e <;> subst e
        · exact this.1
        · exact this.2.1
        · exact this.2.2.1
        · exact this.2.2.2
    rw [if_neg l8]
    by_cases l8 : l = 8
    · rw [if_pos l8, l8, x4 i 8 (by decide), m53 1 (by decide) (by decide) (by decide) (by decide), m53 23 (by decide) (by decide) (by decide) (by decide)]
      by_cases k7 : m3 1 (P + 3 + 14 * i + 0) = 7
      · obtain ⟨e, -, ec, em⟩ := hA.h7 k7
        rw [if_pos k7, em]
        exact ec
      · rw [if_neg k7]; exact hA.hn k7
    rw [if_neg l8]
    have ht := hdi.tot i hi
    by_cases l9 : l = 9
    · rw [if_pos l9, l9, x4 i 9 (by decide), x5 37 (by decide) (by decide), (t2.2 i hi).1]
      exact ht.1
    rw [if_neg l9]
    by_cases l10 : l = 10
    · rw [if_pos l10, l10, x4 i 10 (by decide), x5 38 (by decide) (by decide), (t2.2 i hi).2]
      exact ht.2.1
    rw [if_neg l10]
    by_cases l11 : l = 11
    · rw [if_pos l11, l11, x4 i 11 (by decide), hcl, (lcr i).1]
      exact ht.2.2
    rw [if_neg l11]
    by_cases l12 : l = 12
    · rw [if_pos l12, l12]; exact hx.1
    rw [if_neg l12]
    by_cases l13 : l = 13
    · rw [if_pos l13, l13]; exact hx.2.1
    rw [if_neg l13]
    by_cases l14 : l = 14
    · rw [if_pos l14, l14]; exact hx.2.2.1
    rw [if_neg l14, show l = 15 by omega]
    exact hx.2.2.2
  · rw [x3 _ (by omega), m57]; exact hdi.pr.cc
  · rw [hcl] at hk
    rw [x3 _ (by omega), m53 (29 + j) (by omega) (by omega) (by omega) (by omega)]
    exact (hdi.pr.row k hk).row j hj
  · rw [m53 18 (by decide) (by decide) (by decide) (by decide)]; exact (hcx3.ph.lg i hi).an.2
  · rw [m53 19 (by decide) (by decide) (by decide) (by decide)]; exact (hcx3.ph.lg i hi).en.2
  · rw [m53 19 (by decide) (by decide) (by decide) (by decide)] at q
    rw [m53 20 (by decide) (by decide) (by decide) (by decide), m53 21 (by decide) (by decide) (by decide) (by decide)]
    exact ((hcx3.ph.lg i hi).e1 q).2.2
  · rw [m53 1 (by decide) (by decide) (by decide) (by decide)] at q
    rw [m53 1 (by decide) (by decide) (by decide) (by decide), m53 23 (by decide) (by decide) (by decide) (by decide)]
    obtain ⟨e, e2, -, em⟩ := (hcx3.ph.lg i hi).h7 q
    exact ⟨e, e2, em⟩
  · rw [m53 22 (by decide) (by decide) (by decide) (by decide)]; exact e22 i hi
  · have hq := hdi.pr.row k hk
    rw [m53 31 (by decide) (by decide) (by decide) (by decide), m53 32 (by decide) (by decide) (by decide) (by decide), m53 33 (by decide) (by decide) (by decide) (by decide), m53 34 (by decide) (by decide) (by decide) (by decide), m53 35 (by decide) (by decide) (by decide) (by decide), m53 36 (by decide) (by decide) (by decide) (by decide), m53 29 (by decide) (by decide) (by decide) (by decide)]
    exact ⟨hq.len, hq.crs, hq.n1, hq.n2, hdi.lg k hk⟩
  · rw [x5 37 (by decide) (by decide), (t2.2 j hj).1, (lcr j).2]
  · rw [m53 18 (by decide) (by decide) (by decide) (by decide)] at q1
    rw [m53 1 (by decide) (by decide) (by decide) (by decide)] at q2
    rw [m53 29 (by decide) (by decide) (by decide) (by decide)]
    exact hdi.np j hj q1 q2 k hk
  · rw [m53 18 (by decide) (by decide) (by decide) (by decide)]
    rcases (hcx3.ph.lg 0 h0).an.2 with y | y
    · exact absurd ((hcx3.ph.lg 0 h0).nx y).1 (by decide)
    · exact y
  · rw [x5 37 (by decide) (by decide)]
    exact hB4.lb j hj
  · have h0 : FR c m (s2 c b 5 0) m b := ⟨fun a p _ _ _ _ _ => s2_ne p, fun k p => s2_k p, fun _ _ _ => rfl, fun _ _ => rfl⟩
    have h5 : FR c3 m3 c5 m5 b := ⟨fun a _ p2 _ _ _ _ => x3 a p2, fun k _ => by rw [x3 b (by omega)], fun a p1 p2 => m53 a (by omega) (by omega) (by omega) (by omega), fun k _ => by rw [m53 0 (by decide) (by decide) (by decide) (by decide)]⟩
    exact (((h0.trans hfr1).trans hfr2).trans hfr3).trans h5
  · rw [x3 b (by omega), hdi.fc b (by omega) (by omega) (by omega), hT.fc b (by omega) (by omega), hb5, s2_at]
  · rw [m53 19 (by decide) (by decide) (by decide) (by decide), hdi.fm 19 (by decide) (by decide), hT.fm 19 (by decide)] at p
    rw [m53 20 (by decide) (by decide) (by decide) (by decide), m53 21 (by decide) (by decide) (by decide) (by decide), hdi.fm 20 (by decide) (by decide), hdi.fm 21 (by decide) (by decide), hT.fm 20 (by decide), hT.fm 21 (by decide)]
    exact hz0 h0 p
