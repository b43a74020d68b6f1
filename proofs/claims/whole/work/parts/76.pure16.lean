/-! a leg that goes on from the one before; the loop over the legs -/

/-- a leg behind mid_leg -/
theorem mid_LI {Bs : Nat → Int} {c m c0 m0 c' m' c2 m2 : St} {b q P n i k r' t' : Nat} {f : Nat → Nat} {R0 R : Int} (hI : PI b q) (h : LI c m c0 m0 b q P Bs R0 R n i f) (hi : i < n) (h0 : 0 < i) (hkm : m 1 (P + 3 + 14 * i + 0) = nI k) (hk9 : k < 9) (hRR : Bs i + 2261 * (i : Int) + 2250 ≤ R) (h19 : m 19 (i - 1) = 1)
    (M : MID n (p4l c b i) (mA m i 0) c' m' b R (Bs i + 2261 * i + 5 * t') (f i) r' i)
    (fc : ∀ a, a ≠ b + 2 → a ≠ b + 3 → c2 a = c' a) (f2 : ∀ z, z ≠ i * 16 + 8 → c2 (b + 2) z = c' (b + 2) z) (w4 : c2 (b + 3) 4 = c' (b + 3) 4) (w5 : c2 (b + 3) 5 = c' (b + 3) 5) (w6 : c2 (b + 3) 6 = c' (b + 3) 6)
    (v8 : (k = 7 ∧ ∃ e : Nat, e ≤ 2 ∧ c2 (b + 2) (i * 16 + 8) = nI e ∧ m_entry (m' 0 31) (m 1 (P + 3 + 14 * i + 2)) (m 1 (P + 3 + 14 * i + 4)) = some (nI e)) ∨ (k ≠ 7 ∧ c2 (b + 2) (i * 16 + 8) = -1000000))
    (ir : IR n c2 m2 b R r') (fm : ∀ a, a ≠ 0 → a ≠ 23 → m2 a = m' a) (fe : ∀ z, z ≠ i → m2 23 z = m' 23 z) (f0 : ∀ z, (z < 31 ∨ 43 < z) → m2 0 z = m' 0 z) (m23 : m2 23 i = m' 0 31)
    (ht : t' ≤ 450) (tc : c2 (b + 3) 11 = nI t') (tm : m2 0 41 = nI t') :
    LI c2 m2 c0 m0 b q P Bs R0 R n (i + 1) (fun j => if j = i + 1 then r' else f j) := by
  have hlt := hI.lt
  have hn := h.P.le
  have hin : (i : Int) < n := by omega
  have mA_o : ∀ a, a ≠ 18 → a ≠ 19 → a ≠ 22 → mA m i 0 a = m a := fun a p1 p2 p3 => by unfold mA; rw [s2_ne p3, s2_ne p2, s2_ne p1]
  have mA_k : ∀ a z, z ≠ i → mA m i 0 a z = m a z := fun a z p => by unfold mA; simp (disch := omega) only [sM]
  have mA_19 : mA m i 0 19 i = 0 := by simp (disch := omega) only [sH, sM, mA]
  have mA_18 : mA m i 0 18 i = 0 := by simp (disch := omega) only [sH, sM, mA]
  have mA_22 : mA m i 0 22 i = m 0 30 := by simp (disch := omega) only [sH, sM, mA]
  have e18 : m2 18 i = 0 := by rw [fm 18 (by decide) (by decide), M.fm 18 (by decide) (by decide), mA_18]
  have e1 : ∀ a, a ≠ 0 → a < 7 ∨ 23 < a → m2 a = m a := fun a p1 p2 => by rw [fm a p1 (by omega), M.fm a p1 (by omega), mA_o a (by omega) (by omega) (by omega)]
  have za := h.za i (Nat.le_refl _) (by omega)
  have e0 : c2 (b + 2) (i * 16 + 0) = 0 := by rw [f2 _ (by omega), M.f2 _ (by omega) (by omega) (by omega), p4l_k (by omega) (by omega) (by omega) (by omega)]; exact za.1
  have eN : (m2 19 i = 0 ∧ c2 (b + 2) (i * 16 + 1) = 0 ∧ c2 (b + 2) (i * 16 + 2) = -1000000 ∧ c2 (b + 2) (i * 16 + 3) = -1000000) ∨ (m2 19 i = 1 ∧ c2 (b + 2) (i * 16 + 1) = 1 ∧ c2 (b + 2) (i * 16 + 2) = m2 20 i ∧ c2 (b + 2) (i * 16 + 3) = m2 21 i ∧ c2 (b + 3) 5 = m2 20 i ∧ c2 (b + 3) 6 = m2 21 i ∧ Nb (Bs i + 2261 * i + 5 * t') (m2 20 i) (m2 21 i)) := by
    rw [fm 19 (by decide) (by decide), fm 20 (by decide) (by decide), fm 21 (by decide) (by decide), w5, w6, f2 _ (by omega), f2 _ (by omega), f2 _ (by omega)]
    rcases M.en with v | v
    · rw [v.2, v.2, v.2, v.1, mA_19]
      have pv := p4l_v (c := c) (b := b) (i := i)
      exact Or.inl ⟨rfl, by rw [p4l_k (by omega) (by omega) (by omega) (by omega)]; exact za.2, pv.1, pv.2.1⟩
    · exact Or.inr v
  refine LI_step (r' := r') (t' := t') hI h hi (fun a p1 p2 p3 => ?_) (fun z hz => ?_) (fun l hl => ?_) e1 (fun a z p1 p2 p3 => ?_) (fun z hz => ?_) (fun u hu a p1 p2 => ?_) M.le2 (M.sr.of w4 (fc _ (by omega) (by omega)) (f0 _ (by omega)) (fun a p1 p2 => fm a (by omega) (by omega))) ir ?_ ?_ (fun e => by omega) ht tc tm ?_
  · rw [fc a p1 p2, M.fc a p1 p2 p3, p4l_o p1]
  · rw [f2 z (by omega), M.f2 z (by omega) (by omega) (by omega), p4l_k (by omega) (by omega) (by omega) (by omega)]
  · unfold zc at hl
    rw [f2 _ (by omega), M.f2 _ (by omega) (by omega) (by omega), p4l_k (by omega) (by omega) (by omega) (by omega)]
  · by_cases q23 : a = 23
    · rw [q23, fe z p3, M.fm 23 (by decide) (by decide), mA_k _ _ p3]
    · rw [fm a (by omega) q23]
      by_cases q1 : a = 18 ∨ a = 22
      · rw [M.fm a (by omega) (by omega), mA_k _ _ p3]
      · rw [M.fe a z (by omega) (by omega) p3, mA_k _ _ p3]
  · rw [f0 z (by omega), M.f0 z (by omega) (by omega) (by omega), mA_o 0 (by decide) (by decide) (by decide)]
  · rw [fm a (by omega) (by omega), M.old u hu a p1 p2, mA_o a (by omega) (by omega) (by omega)]
  · have hr2 := M.le2
    have hr1 := M.le
    refine ⟨⟨by rw [e0, e18], Or.inl e18⟩, ?_, fun p => ?_, fun p => ?_, fun p => ?_, fun p => ?_, ?_, ?_, fun u p1 p2 => ?_, fun p => ?_, fun k' hk' q1 q2 p => ?_, fun _ => ?_⟩
    · rcases eN with v | v
      · exact ⟨by rw [v.2.1, v.1], Or.inl v.1⟩
      · exact ⟨by rw [v.2.1, v.1], Or.inr v.1⟩
    · rcases eN with v | v
      · rw [v.1] at p; cases p
      · exact ⟨v.2.2.1, v.2.2.2.1, v.2.2.2.2.2.2.le (by omega)⟩
    · rcases eN with v | v
      · exact ⟨v.2.2.1, v.2.2.2⟩
      · rw [v.1] at p; cases p
    · rw [e1 1 (by decide) (by decide), hkm] at p
      have k7 : k = 7 := (nIl 7 (by omega) (by omega)).mp p
      rcases v8 with v | v
      · rw [m23, e1 1 (by decide) (by decide)]
        exact v.2
      · exact absurd k7 v.1
    · rw [e1 1 (by decide) (by decide), hkm] at p
      rcases v8 with v | v
      · exact absurd ((nIl 7 (by omega) (by omega)).mpr v.1) p
      · exact v.2
    · dsimp only
      rw [if_neg (by omega), fm 22 (by decide) (by decide), M.fm 22 (by decide) (by decide), mA_22]; exact h.sr.cm
    · dsimp only
      rw [if_neg (by omega), if_pos rfl]; omega
    · dsimp only at p1 p2
      rw [if_neg (by omega)] at p1
      rw [if_pos rfl] at p2
      rw [fm 7 (by decide) (by decide)]
      exact M.lg u p1 p2
    · rw [e18] at p; cases p
    · rw [e18] at p; cases p
    · refine ⟨h0, ?_⟩
      rw [fm 19 (by decide) (by decide), M.fe 19 _ (by decide) (by decide) (by omega), mA_k _ _ (by omega)]
      exact h19
  · rw [f2 _ (by omega), M.f2 _ (by omega) (by omega) (by omega)]
    exact p4l_v.2.2.1
  · intro p
    rcases eN with v | v
    · rw [v.1] at p; cases p
    · exact ⟨v.2.2.2.2.1, v.2.2.2.2.2.1, v.2.2.2.2.2.2⟩
theorem leg_not {Bs : Nat → Int} {c m c0 m0 : St} {b q P n i k : Nat} {f : Nat → Nat} {R0 R : Int} {J : St → Option St} {ih : Int32 × St → Option St} (hI : PI b q) (h : LI c m c0 m0 b q P Bs R0 R n i f) (hi : i < n) (hkc : c (q + 2) (i * 14 + 0) = nI k) (hkm : m 1 (P + 3 + 14 * i + 0) = nI k) (hk9 : k < 9) (hB1 : 14200 ≤ Bs (i - 1)) (hBi : 14200 ≤ Bs i) (hRR : Bs (i - 1) + 2261 * (i : Int) + 2351 ≤ R) (hRi : Bs i + 2261 * (i : Int) + 2250 ≤ R) (hmo : Bs (i - 1) ≤ Bs i ∨ hfx k ∨ m 1 (P + 3 + 14 * i + 13) = 1) (hR : R ≤ 5940000) (hA : ¬ Anw m P i k) :
    ∃ c' m' r', f_Tk_layLeg c (b + 3) (nI i) = some c' ∧ lb_m_laysSegments_23 (nI P) J ih (nI i, m) = ih (nI (i + 1), m') ∧ LI c' m' c0 m0 b q P Bs R0 R n (i + 1) (fun j => if j = i + 1 then r' else f j) := by
  have hlt := hI.lt
  have hn := h.P.le
  have hi21 : i < 21 := by omega
  have hPl := h.P.Pl
  have hL := h.P.leg i hi
  have D4 := Dm_p4l (i := i) hI h.D
  have n2 : q + 2 ≠ b + 2 := by omega
  have n3 : q + 2 ≠ b + 3 := by omega
  have hr2 := h.r2
  have hA' : i ≠ 0 ∧ k ≠ 0 ∧ k ≠ 8 ∧ ¬ m 19 (i - 1) = 0 := by unfold Anw at hA; exact ⟨fun e => hA (Or.inl e), fun e => hA (Or.inr (Or.inl e)), fun e => hA (Or.inr (Or.inr (Or.inl e))), fun e => hA (Or.inr (Or.inr (Or.inr (Or.inr e))))⟩
  have hp0 : 0 < i := by omega
  have h19 : m 19 (i - 1) = 1 := by
    rcases (h.lg (i - 1) (by omega)).en.2 with e | e
    · exact absurd e hA'.2.2.2
    · exact e
  obtain ⟨gp, gp1, gpc, gpm⟩ := hL.gap
  obtain ⟨v, v23, vc, vm⟩ := hL.crs
  obtain ⟨s, s200, sc, sm⟩ := hL.sid
  obtain ⟨w, w1, wc, wm⟩ := hL.rgt
  obtain ⟨t, t450, tc, tm, tx⟩ := h.tt
  have tx := tx hp0 h19
  have h30 := h.sr.cm
  have mA_o : ∀ a, a ≠ 18 → a ≠ 19 → a ≠ 22 → mA m i 0 a = m a := fun a p1 p2 p3 => by unfold mA; rw [s2_ne p3, s2_ne p2, s2_ne p1]
  have hlay := lay_c (m := m) (P := P) hI h.D hi21 hkc hk9 (by rw [gpc, gpm]) (fun h0 => (h.lg (i - 1) (by omega)).en.1)
  rw [if_neg hA] at hlay
  have hpre := sb_pre (J := J) (ih := ih) hPl hi hn h.P.cm hkm hk9
  rw [if_neg hA, sbB_0 hi21] at hpre
  have po : ∀ a, a ≠ b + 2 → p4l c b i a = c a := fun a p => p4l_o p
  obtain ⟨c1, m1, r1, t1, e1, e2, e3, M0, e5, e6, e7, e8⟩ := mid_leg (c := p4l c b i) (m := mA m i 0) (b := b) (q := q) (P := P) (r := f i) (i := i) (n := n) (t := t) (k := k) (R := R) (R0 := Bs (i - 1)) (RP := R0) hI D4 (h.K.of (mA_o _ (by decide) (by decide) (by decide)) (mA_o _ (by decide) (by decide) (by decide)) (mA_o _ (by decide) (by decide) (by decide))) (h.S.of (po 1 (by omega)) (fun z _ => by rw [mA_o 0 (by decide) (by decide) (by decide)])) (h.P.of (po _ (by omega)) (po _ (by omega)) (po _ (by omega)) (mA_o _ (by decide) (by decide) (by decide)) (mA_o _ (by decide) (by decide) (by decide)) (mA_o _ (by decide) (by decide) (by decide))) hi hp0
    (h.sr.of (by rw [po _ (by omega)]) (po _ (by omega)) (by rw [mA_o 0 (by decide) (by decide) (by decide)]) (fun a p1 p2 => mA_o a (by omega) (by omega) (by omega))) ((h.ir hp0).of (by rw [po _ (by omega)]) (by rw [po _ (by omega)]) (by rw [po _ (by omega)]) (by rw [po _ (by omega)]) (fun z _ _ => by rw [mA_o 0 (by decide) (by decide) (by decide)]) (fun _ => by rw [mA_o 12 (by decide) (by decide) (by decide)])) (by omega) hB1 hRR hR
    (by rw [po _ (by omega), mA_o 20 (by decide) (by decide) (by decide)]; exact tx.1) (by rw [po _ (by omega), mA_o 21 (by decide) (by decide) (by decide)]; exact tx.2.1) t450 (by rw [mA_o 20 (by decide) (by decide) (by decide), mA_o 21 (by decide) (by decide) (by decide)]; exact tx.2.2) (by rw [po _ (by omega)]; exact tc) (by rw [mA_o 0 (by decide) (by decide) (by decide)]; exact tm) (by rw [po _ (by omega)]; exact hkc) hk9 hA'.2.1 hA'.2.2.1
  have M : MID n (p4l c b i) (mA m i 0) c1 m1 b R (Bs i + 2261 * i + 5 * t1) (f i) r1 i := by
    rcases hmo with x | x | x
    · exact M0.leB (by omega)
    · exact e8 x _ (by omega)
    · exact absurd (Or.inr (Or.inr (Or.inr (Or.inl x)))) hA
  have m1_1 : ∀ z, m1 1 z = m 1 z := fun z => by rw [M.fm 1 (by decide) (by decide), mA_o 1 (by decide) (by decide) (by decide)]
  have c1q : ∀ z, c1 (q + 2) z = c (q + 2) z := fun z => by rw [M.fc _ (by omega) (by omega) (by omega), po _ (by omega)]
  have hle := M.le
  have hle2 := M.le2
  have e22 : m1 22 i = nI (f i) := by rw [M.fm 22 (by decide) (by decide)]; unfold mA; rw [s2_at]; exact h30
  have e18 : m1 18 i = 0 := by rw [M.fm 18 (by decide) (by decide)]; simp (disch := omega) only [sH, sM, mA]
  have ela : (if r1 ≤ f i then m 0 31 else m1 13 (r1 - 1)) = m1 0 31 := by
    have := M.la
    rw [mA_o 0 (by decide) (by decide) (by decide)] at this
    exact this
  rw [bd_e e3, sbT_e (r := f i) (r' := r1) hPl hi21 hk9 M.sr.cm e22 (by omega) hle, ela] at hpre
  rw [e1] at hlay
  have k8 : ¬ k = 8 := hA'.2.2.1
  by_cases k7 : k = 7
  · have k4 : ¬ k = 4 := by omega
    obtain ⟨e, ee2, eh1, eh2, eh3⟩ := hold_c (v := v) (w := w) (s := s) hI e2 hi21 (by rw [c1q]; exact vc) (by rw [c1q]; exact wc) w1 (by rw [c1q]; exact sc)
    unfold tlc at hlay
    rw [if_pos ((nIl 7 (by omega) (by omega)).mpr k7), bd_e eh1] at hlay
    unfold fin fin1 at hpre
    rw [if_pos k7, if_neg k4] at hpre
    have ht1 := e7 k4
    refine ⟨_, _, r1, hlay, hpre, mid_LI (t' := t1) hI h hi hp0 hkm hk9 hRi h19 M ?_ ?_ ?_ ?_ ?_ (Or.inl ⟨k7, e, ee2, ?_, ?_⟩) ⟨Or.inr ⟨i, v, s, by omega, by omega, by omega, ?_, ?_, ?_, ?_, ?_, ?_⟩, Or.inr ⟨?_, ?_⟩⟩ ?_ ?_ ?_ ?_ e5 ?_ ?_⟩
    · intro a p1 p2; funext z; simp (disch := omega) only [sM, hdl]
    · intro z p; simp (disch := omega) only [sM, hdl]
    · simp (disch := omega) only [sM, hdl]
    · simp (disch := omega) only [sM, hdl]
    · simp (disch := omega) only [sM, hdl]
    · simp (disch := omega) only [sH, sM, hdl]
    · rw [vm, wm]
      rcases M.ir.inn with x | ⟨g, v', l, xg, x1, -, x2, x3, x4, x5, -⟩
      · have := eh2 x.1
        subst this
        rw [x.2, entry_m1]
        rfl
      · have := eh3 (by rw [x2]; exact fun q => by have h1 := nI_pos' (n := g) (by omega); rw [q] at h1; revert h1; decide)
        rw [x4] at this
        rw [x5, entry_e _ _ (nI_pos' (by omega))]
        exact this
    · simp (disch := omega) only [sH, sM, hdl]
    · simp (disch := omega) only [sH, sM, mI]
    · simp (disch := omega) only [sH, sM, hdl]
    · simp (disch := omega) only [sH, sM, mI]; rw [m1_1]; exact vm
    · simp (disch := omega) only [sH, sM, hdl]
    · simp (disch := omega) only [sH, sM, mI]; rw [m1_1]; exact sm
    · simp (disch := omega) only [sH, sM, hdl]
    · simp (disch := omega) only [sH, sM, mI]
    · intro a p1 p2; funext z; simp (disch := omega) only [sM, mI]
    · intro z p; simp (disch := omega) only [sM, mI]
    · intro z p; simp (disch := omega) only [sM, mI]
    · simp (disch := omega) only [sH, sM, mI]
    · simp (disch := omega) only [sH, sM, hdl]; rw [M.f11, po _ (by omega), ht1]; exact tc
    · simp (disch := omega) only [sH, sM, mI]; rw [M.f0 41 (by decide) (by decide) (by decide), mA_o 0 (by decide) (by decide) (by decide), ht1]; exact tm
  · unfold tlc at hlay
    rw [if_neg (fun e => k7 ((nIl 7 (by omega) (by omega)).mp e))] at hlay
    unfold fin fin1 at hpre
    rw [if_neg k7, if_neg k8, if_pos e18] at hpre
    have v8 : c1 (b + 2) (i * 16 + 8) = -1000000 := by
      rw [M.f2 _ (by omega) (by omega) (by omega)]
      exact p4l_v.2.2.2
    by_cases k4 : k = 4
    · have ht1 := e6 k4
      rw [if_pos ((nIl 4 (by omega) (by omega)).mpr k4), bd_e (pg hI e2 hi21 (by decide)), Lt_e, c1q] at hlay
      rw [po _ (by omega)] at ht1
      rw [ht1.1] at hlay
      rw [if_pos k4, m1_1] at hpre
      rw [mA_o 1 (by decide) (by decide) (by decide)] at ht1
      rw [ht1.2] at hpre
      refine ⟨_, _, r1, hlay, hpre, mid_LI (t' := t1) hI h hi hp0 hkm hk9 hRi h19 M ?_ ?_ ?_ ?_ ?_ (Or.inr ⟨k7, ?_⟩) (M.ir.of ?_ ?_ ?_ ?_ ?_ (fun _ => by simp (disch := omega) only [sM])) ?_ ?_ ?_ ?_ e5 ?_ ?_⟩
      · intro a p1 p2; funext z; simp (disch := omega) only [sM]
      · intro z p; simp (disch := omega) only [sM]
      · simp (disch := omega) only [sM]
      · simp (disch := omega) only [sM]
      · simp (disch := omega) only [sM]
      · simp (disch := omega) only [sM]; exact v8
      · simp (disch := omega) only [sM]
      · simp (disch := omega) only [sM]
      · simp (disch := omega) only [sM]
      · simp (disch := omega) only [sM]
      · intro z p1 p2; simp (disch := omega) only [sM]
      · intro a p1 p2; funext z; simp (disch := omega) only [sM]
      · intro z p; simp (disch := omega) only [sM]
      · intro z p; simp (disch := omega) only [sM]
      · simp (disch := omega) only [sH, sM]
      · simp (disch := omega) only [sH, sM]
      · simp (disch := omega) only [sH, sM]
    · have ht1 := e7 k4
      rw [if_neg (fun e => k4 ((nIl 4 (by omega) (by omega)).mp e))] at hlay
      rw [if_neg k4] at hpre
      refine ⟨_, _, r1, hlay, hpre, mid_LI (t' := t1) hI h hi hp0 hkm hk9 hRi h19 M (fun _ _ _ => rfl) (fun _ _ => rfl) rfl rfl rfl (Or.inr ⟨k7, v8⟩) (M.ir.of rfl rfl rfl rfl ?_ (fun _ => by simp (disch := omega) only [sM])) ?_ ?_ ?_ ?_ e5 ?_ ?_⟩
      · intro z p1 p2; simp (disch := omega) only [sM]
      · intro a p1 p2; funext z; simp (disch := omega) only [sM]
      · intro z p; simp (disch := omega) only [sM]
      · intro z p; simp (disch := omega) only [sM]
      · simp (disch := omega) only [sH, sM]
      · rw [M.f11, po _ (by omega), ht1]; exact tc
      · simp (disch := omega) only [sH, sM]; rw [M.f0 41 (by decide) (by decide) (by decide), mA_o 0 (by decide) (by decide) (by decide), ht1]; exact tm
def BsOK (m : St) (P : Nat) (Bs : Nat → Int) (R0 R : Int) (n : Nat) : Prop := R0 ≤ Bs 0 ∧ (∀ j, 14200 ≤ Bs j) ∧ (∀ j, j < n → Bs j ≤ R) ∧ ∀ i : Nat, 0 < i → i < n → Bs (i - 1) + 2261 * (i : Int) + 2351 ≤ R ∧ Bs i + 2261 * (i : Int) + 2250 ≤ R ∧ (Bs (i - 1) ≤ Bs i ∨ (∀ k : Nat, k < 9 → m 1 (P + 3 + 14 * i + 0) = nI k → hfx k) ∨ m 1 (P + 3 + 14 * i + 13) = 1)
theorem legs_lock {Bs : Nat → Int} {c0 m0 : St} {b q P n : Nat} {R0 R : Int} (hI : PI b q) (hBs : BsOK m0 P Bs R0 R n) (hR : R ≤ 5940000) (Jc Jm : St → Option St) :
    ∀ (d i : Nat) (c m : St) (f : Nat → Nat) (g1 g2 : Nat), i + d = n → d < g1 → d < g2 → LI c m c0 m0 b q P Bs R0 R n i f → ∃ c' m' f', lp (lb_f_Pa_refresh_22 b Jc) g1 (nI i, c) = Jc c' ∧ lp (lb_m_laysSegments_23 (nI P) Jm) g2 (nI i, m) = Jm m' ∧ LI c' m' c0 m0 b q P Bs R0 R n n f' := by
  intro d
  induction d with
  | zero =>
    intro i c m f g1 g2 hd h1 h2 h
    have e : i = n := by omega
    subst e
    refine ⟨c, m, f, ?_, ?_, h⟩
    · rw [lp_s h1]
      show (if c (rc b 0) 1 ≤ nI i then Jc c else _) = _
      rw [if_pos (by rw [rc_b0 hI, h.P.cc]; exact Int32.le_refl _)]
    · rw [lp_s h2]
      unfold lb_m_laysSegments_23
      dsimp only
      rw [bd_e (mcount h.P.Pl), h.P.cm, if_pos (Int32.le_refl _)]
  | succ d ih =>
    intro i c m f g1 g2 hd h1 h2 h
    have hi : i < n := by omega
    have hn := h.P.le
    obtain ⟨k, hk9, hkc, hkm, -⟩ := (h.P.leg i hi).kd
    have key : ∃ c' m' r', f_Tk_layLeg c (b + 3) (nI i) = some c' ∧ lb_m_laysSegments_23 (nI P) Jm (lp (lb_m_laysSegments_23 (nI P) Jm) (g2 - 1)) (nI i, m) = (lp (lb_m_laysSegments_23 (nI P) Jm) (g2 - 1)) (nI (i + 1), m') ∧ LI c' m' c0 m0 b q P Bs R0 R n (i + 1) (fun j => if j = i + 1 then r' else f j) := by
      by_cases hA : Anw m P i k
      · obtain ⟨c', m', e1, e2, e3⟩ := leg_anew (J := Jm) (ih := lp (lb_m_laysSegments_23 (nI P) Jm) (g2 - 1)) hI h hi hkc hkm hk9 (hBs.2.1 i) hBs.1 (hBs.2.2.1 i hi) hA
        exact ⟨c', m', f i, e1, e2, e3⟩
      · have hp0 : 0 < i := by
          rcases (show i = 0 ∨ 0 < i by omega) with e | e
          · exact absurd (Or.inl e) hA
          · exact e
        obtain ⟨x1, x2, x3⟩ := hBs.2.2.2 i hp0 hi
        rw [← h.fm 1 (by decide) (by decide)] at x3
        exact leg_not hI h hi hkc hkm hk9 (hBs.2.1 _) (hBs.2.1 _) x1 x2 (by
          rcases x3 with x | x | x
          · exact Or.inl x
          · exact Or.inr (Or.inl (x k hk9 hkm))
          · exact Or.inr (Or.inr x)) hR hA
    obtain ⟨c', m', r', e1, e2, e3⟩ := key
    obtain ⟨c2, m2, f2, q1, q2, q3⟩ := ih (i + 1) c' m' _ (g1 - 1) (g2 - 1) (by omega) (by omega) (by omega) e3
    refine ⟨c2, m2, f2, ?_, ?_, q3⟩
    · rw [lp_s (by omega)]
      show (if c (rc b 0) 1 ≤ nI i then Jc c else Option.bind (f_Tk_layLeg c (rc b 2) (nI i)) fun x30 => Lt (nI i + (1 : Int32)) fun x31 => lp (lb_f_Pa_refresh_22 b Jc) (g1 - 1) (x31, x30)) = _
      rw [if_neg (by rw [rc_b0 hI, h.P.cc]; exact nI_ge hi (by omega)), rc_b2 hI, bd_e e1, Lt_e, nI_1]
      exact q1
    · rw [lp_s (by omega), e2]
      exact q2
