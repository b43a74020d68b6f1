/-! a step of the loop over the legs, on both sides -/

theorem entry_m1 (b r : Int32) : m_entry (-1) b r = some 0 := by
  unfold m_entry
  rw [if_neg (by decide)]
/-- what the class's row of a leg that starts anew shows, and the reference's -/
theorem anew_LI {Bs : Nat → Int} {c m c0 m0 c' m' : St} {b q P n i k t' : Nat} {f : Nat → Nat} {R0 R : Int} (hI : PI b q) (h : LI c m c0 m0 b q P Bs R0 R n i f) (hi : i < n) (hkm : m 1 (P + 3 + 14 * i + 0) = nI k) (hk9 : k < 9) (hRR : Bs i ≤ R)
    (fc : ∀ a, a ≠ b + 2 → a ≠ b + 3 → c' a = c a) (f2 : ∀ z, z ≠ i * 16 + 0 → z ≠ i * 16 + 1 → z ≠ i * 16 + 2 → z ≠ i * 16 + 3 → z ≠ i * 16 + 8 → z ≠ i * 16 + 11 → c' (b + 2) z = c (b + 2) z)
    (v0 : c' (b + 2) (i * 16 + 0) = 1) (v1 : c' (b + 2) (i * 16 + 1) = m' 19 i)
    (v2 : (m' 19 i = 1 ∧ c' (b + 2) (i * 16 + 2) = m' 20 i ∧ c' (b + 2) (i * 16 + 3) = m' 21 i ∧ c' (b + 3) 5 = m' 20 i ∧ c' (b + 3) 6 = m' 21 i ∧ Nb (Bs i) (m' 20 i) (m' 21 i)) ∨ (m' 19 i = 0 ∧ ¬ (hfx k ∨ k = 8) ∧ c' (b + 2) (i * 16 + 2) = -1000000 ∧ c' (b + 2) (i * 16 + 3) = -1000000))
    (v11 : c' (b + 2) (i * 16 + 11) = -1000000) (v8 : (k = 7 ∧ c' (b + 2) (i * 16 + 8) = nI 0) ∨ (k ≠ 7 ∧ c' (b + 2) (i * 16 + 8) = -1000000))
    (w4 : c' (b + 3) 4 = c (b + 3) 4) (ir : IR n c' m' b R (f i))
    (fm : ∀ a, a ≠ 0 → (a < 18 ∨ 23 < a) → m' a = m a) (fe : ∀ a z, 18 ≤ a → a ≤ 23 → z ≠ i → m' a z = m a z) (f0 : ∀ z, (z < 31 ∨ 43 < z) → m' 0 z = m 0 z)
    (m18 : m' 18 i = 1) (m22 : m' 22 i = nI (f i)) (m23 : m' 23 i = -1)
    (ht : t' ≤ 450) (tc : c' (b + 3) 11 = nI t') (tm : m' 0 41 = nI t') :
    LI c' m' c0 m0 b q P Bs R0 R n (i + 1) (fun j => if j = i + 1 then f i else f j) := by
  have hlt := hI.lt
  refine LI_step (r' := f i) (t' := t') hI h hi (fun a p1 p2 _ => fc a p1 p2) (fun z hz => f2 z (by omega) (by omega) (by omega) (by omega) (by omega) (by omega)) (fun l hl => f2 _ (by unfold zc at hl; omega) (by unfold zc at hl; omega) (by unfold zc at hl; omega) (by unfold zc at hl; omega) (by unfold zc at hl; omega) (by unfold zc at hl; omega)) (fun a p1 p2 => fm a p1 (by omega)) fe (fun z hz => f0 z (by omega)) (fun u _ a p1 p2 => by rw [fm a (by omega) (by omega)]) (by omega) (h.sr.of w4 (fc _ (by omega) (by omega)) (f0 _ (by omega)) (fun a p1 p2 => fm a (by omega) (by omega))) ir ?_ v11 (fun e p => ?_) ht tc tm ?_
  · refine ⟨⟨by rw [v0, m18], Or.inr m18⟩, ⟨v1, ?_⟩, fun p => ?_, fun p => ?_, fun p => ?_, fun p => ?_, ?_, ?_, fun u p1 p2 => ?_, fun _ => ?_, fun k' hk' e1 e2 _ => ?_, fun p => ?_⟩
    · rcases v2 with v | v
      · exact Or.inr v.1
      · exact Or.inl v.1
    · rcases v2 with v | v
      · exact ⟨v.2.1, v.2.2.1, v.2.2.2.2.2.le hRR⟩
      · rw [v.1] at p; cases p
    · rcases v2 with v | v
      · rw [v.1] at p; cases p
      · exact v.2.2
    · rw [fm 1 (by decide) (by decide), hkm] at p
      have : k = 7 := (nIl 7 (by omega) (by omega)).mp p
      rcases v8 with v | v
      · exact ⟨0, by decide, v.2, by rw [m23, entry_m1]; rfl⟩
      · exact absurd this v.1
    · rw [fm 1 (by decide) (by decide), hkm] at p
      rcases v8 with v | v
      · exact absurd ((nIl 7 (by omega) (by omega)).mpr v.1) p
      · exact v.2
    · dsimp only
      rw [if_neg (by omega)]; exact m22
    · dsimp only
      rw [if_neg (by omega), if_pos rfl]; omega
    · dsimp only at p1 p2
      rw [if_neg (by omega)] at p1
      rw [if_pos rfl] at p2
      omega
    · dsimp only
      rw [if_pos rfl, if_neg (by omega)]
    · rw [fm 1 (by decide) (by decide), hkm] at e1
      have : k = k' := (nI_eq (by omega) (by omega)).mp e1
      subst this
      rcases v2 with v | v
      · exact v.1
      · exact absurd e2 v.2.1
    · rw [m18] at p; cases p
  · subst e
    rcases v2 with v | v
    · exact v.2.2.2.2.2
    · rw [v.1] at p; cases p
  · intro p
    rcases v2 with v | v
    · exact ⟨v.2.2.2.1, v.2.2.2.2.1, v.2.2.2.2.2.le (by omega)⟩
    · rw [v.1] at p; cases p
theorem i01 {a : Nat} (h : a ≤ 1) : nI a = 0 ∨ nI a = 1 := by
  rcases (show a = 0 ∨ a = 1 by omega) with e | e <;> subst e
  · exact Or.inl rfl
  · exact Or.inr rfl
theorem leg_anew {Bs : Nat → Int} {c m c0 m0 : St} {b q P n i k : Nat} {f : Nat → Nat} {R0 R : Int} {J : St → Option St} {ih : Int32 × St → Option St} (hI : PI b q) (h : LI c m c0 m0 b q P Bs R0 R n i f) (hi : i < n) (hkc : c (q + 2) (i * 14 + 0) = nI k) (hkm : m 1 (P + 3 + 14 * i + 0) = nI k) (hk9 : k < 9) (hB14 : 14200 ≤ Bs i) (hB0 : R0 ≤ Bs 0) (hRR : Bs i ≤ R) (hA : Anw m P i k) :
    ∃ c' m', f_Tk_layLeg c (b + 3) (nI i) = some c' ∧ lb_m_laysSegments_23 (nI P) J ih (nI i, m) = ih (nI (i + 1), m') ∧ LI c' m' c0 m0 b q P Bs R0 R n (i + 1) (fun j => if j = i + 1 then f i else f j) := by
  have hlt := hI.lt
  have hn := h.P.le
  have hi21 : i < 21 := by omega
  have hPl := h.P.Pl
  have hL := h.P.leg i hi
  have D4 := Dm_p4l (i := i) hI h.D
  have n2 : q + 2 ≠ b + 2 := by omega
  have n3 : q + 2 ≠ b + 3 := by omega
  have hr2 := h.r2
  obtain ⟨gp, gp1, gpc, gpm⟩ := hL.gap
  obtain ⟨v, v23, vc, vm⟩ := hL.crs
  obtain ⟨a, a450, ac, am⟩ := hL.tgt
  obtain ⟨s, s200, sc, sm⟩ := hL.sid
  obtain ⟨w, w1, wc, wm⟩ := hL.rgt
  obtain ⟨t, t450, tc, tm, -⟩ := h.tt
  have h30 := h.sr.cm
  have hlay := lay_c (m := m) (P := P) hI h.D hi21 hkc hk9 (by rw [gpc, gpm]) (fun h0 => (h.lg (i - 1) (by omega)).en.1)
  rw [if_pos hA] at hlay
  have hk4 : p4l c b i (q + 2) (i * 14 + 0) = nI k := by rw [p4l_o n2]; exact hkc
  have hb := begin_c hI D4 hi21 hk4 hk9
  rw [bd_e hb] at hlay
  have hpre := sb_pre (J := J) (ih := ih) hPl hi hn h.P.cm hkm hk9
  rw [if_pos hA] at hpre
  by_cases hh : hfx k ∨ k = 8
  · have hp := pxy (c := c) (m := mA m i 1) (b := b) hPl hi21 (hL.of rfl rfl (by unfold mA; rw [s2_ne (by decide), s2_ne (by decide), s2_ne (by decide)]) (by unfold mA; rw [s2_ne (by decide), s2_ne (by decide), s2_ne (by decide)]) (by unfold mA; rw [s2_ne (by decide), s2_ne (by decide), s2_ne (by decide)])) hkc hk9 hh
    have hnb : Nb (Bs i) (c (q + 2) (i * 14 + 7)) (c (q + 2) (i * 14 + 8)) := by
      by_cases h1 : hfx k
      · exact (pnb hL hkc hk9 h1).le (by omega)
      · obtain ⟨k', k9', e1, e2, -, -, e3⟩ := hL.kd
        have : k' = k := (nI_eq (by omega) (by omega)).mp (by rw [← e1, hkc])
        subst this
        have e3 := e3 (hh.resolve_left h1)
        exact e3.2.2.2.le (by rw [e3.1]; exact hB0)
    have hb1 := (sbB_1 (P := P) (m := m) (ih := ih) hi21 hk9).1 hh _ _ hp.1 hp.2
    rw [hb1, sbT_e (r := f i) (r' := f i) hPl hi21 hk9 (by unfold mE mA; simp (disch := omega) only [sH, sM]; exact h30) (by unfold mE mA; simp (disch := omega) only [sH, sM]; exact h30) (by omega) (by omega), if_pos (Nat.le_refl _)] at hpre
    rw [if_neg (show ¬ (k = 4 ∨ k = 5 ∨ k = 6) by unfold hfx at hh; omega)] at hlay
    have e18 : ¬ mE (mA m i 1) i (c (q + 2) (i * 14 + 7)) (c (q + 2) (i * 14 + 8)) 18 i = 0 := by unfold mE mA; simp (disch := omega) only [sH, sM]; decide
    by_cases k8 : k = 8
    · have k4 : ¬ k = 4 := by omega
      have k7 : ¬ k = 7 := by omega
      rw [if_pos k8] at hlay
      unfold tlc at hlay
      rw [if_neg (fun e => k7 ((nIl 7 (by omega) (by omega)).mp e)), if_neg (fun e => k4 ((nIl 4 (by omega) (by omega)).mp e))] at hlay
      unfold fin fin1 at hpre
      rw [if_neg k7, if_pos k8, if_neg k4] at hpre
      refine ⟨_, _, hlay, hpre, anew_LI (t' := t) hI h hi hkm hk9 hRR ?_ ?_ ?_ ?_ (Or.inl ⟨?_, ?_, ?_, ?_, ?_, ?_⟩) ?_ (Or.inr ⟨k7, ?_⟩) ?_ ⟨Or.inr ⟨i, v, 0, by omega, by omega, by omega, ?_, ?_, ?_, ?_, ?_, ?_⟩, Or.inr ⟨?_, ?_⟩⟩ ?_ ?_ ?_ ?_ ?_ ?_ t450 ?_ ?_⟩
      all_goals first
        | (intro a p1 p2; funext z; simp (disch := omega) only [sH, sM, hdl, mI, mE, mA, bA8, bA1, bA0, eh, p4l]; done)
        | (intro z p0 p1 p2 p3 p8 p11; simp (disch := omega) only [sH, sM, hdl, mI, mE, mA, bA8, bA1, bA0, eh, p4l]; done)
        | (intro a z p1 p2 p3; simp (disch := omega) only [sH, sM, hdl, mI, mE, mA, bA8, bA1, bA0, eh, p4l]; done)
        | (intro z p; simp (disch := omega) only [sH, sM, hdl, mI, mE, mA, bA8, bA1, bA0, eh, p4l]; done)
        | (simp (disch := omega) only [sH, sM, hdl, mI, mE, mA, bA8, bA1, bA0, eh, p4l]; done)
        | (simp (disch := omega) only [sH, sM, hdl, mI, mE, mA, bA8, bA1, bA0, eh, p4l]; first | exact vc | exact vm | exact sc | exact sm | exact am | exact tc | exact tm | exact hnb | exact h30 | exact za.2 | rfl)
    · rw [if_neg k8] at hlay
      have k4 : ¬ k = 4 := by unfold hfx at hh; omega
      by_cases k7 : k = 7
      · have D1 : Dm (bA1 (p4l c b i) b q i) := by
          have nt := hI.nt
          exact Dm_eh hI ((((((D4.s2 nt.2.1).s2 nt.2.2.1).s2 nt.2.2.1)).s2 nt.2.2.1).s2 nt.2.2.1)
        have rd : ∀ z, bA1 (p4l c b i) b q i (q + 2) z = c (q + 2) z := fun z => by unfold bA1 bA0 eh p4l; simp (disch := omega) only [sH, sM]
        obtain ⟨e, e2, eh1, eh2, -⟩ := hold_c (v := v) (w := w) (s := s) hI D1 hi21 (by rw [rd]; exact vc) (by rw [rd]; exact wc) w1 (by rw [rd]; exact sc)
        have e0 : e = 0 := eh2 (by unfold bA1 bA0 eh; simp (disch := omega) only [sH, sM])
        subst e0
        unfold tlc at hlay
        rw [if_pos ((nIl 7 (by omega) (by omega)).mpr k7), bd_e eh1] at hlay
        unfold fin fin1 at hpre
        rw [if_pos k7, if_neg k4] at hpre
        refine ⟨_, _, hlay, hpre, anew_LI (t' := t) hI h hi hkm hk9 hRR ?_ ?_ ?_ ?_ (Or.inl ⟨?_, ?_, ?_, ?_, ?_, ?_⟩) ?_ (Or.inl ⟨k7, ?_⟩) ?_ ⟨Or.inr ⟨i, v, s, by omega, by omega, by omega, ?_, ?_, ?_, ?_, ?_, ?_⟩, Or.inr ⟨?_, ?_⟩⟩ ?_ ?_ ?_ ?_ ?_ ?_ t450 ?_ ?_⟩
        all_goals first
          | (intro a p1 p2; funext z; simp (disch := omega) only [sH, sM, hdl, mI, mE, mA, bA8, bA1, bA0, eh, p4l]; done)
          | (intro z p0 p1 p2 p3 p8 p11; simp (disch := omega) only [sH, sM, hdl, mI, mE, mA, bA8, bA1, bA0, eh, p4l]; done)
          | (intro a z p1 p2 p3; simp (disch := omega) only [sH, sM, hdl, mI, mE, mA, bA8, bA1, bA0, eh, p4l]; done)
          | (intro z p; simp (disch := omega) only [sH, sM, hdl, mI, mE, mA, bA8, bA1, bA0, eh, p4l]; done)
          | (simp (disch := omega) only [sH, sM, hdl, mI, mE, mA, bA8, bA1, bA0, eh, p4l]; done)
          | (simp (disch := omega) only [sH, sM, hdl, mI, mE, mA, bA8, bA1, bA0, eh, p4l]; first | exact vc | exact vm | exact sc | exact sm | exact am | exact tc | exact tm | exact hnb | exact h30 | exact za.2 | rfl)
      · unfold tlc at hlay
        rw [if_neg (fun e => k7 ((nIl 7 (by omega) (by omega)).mp e)), if_neg (fun e => k4 ((nIl 4 (by omega) (by omega)).mp e))] at hlay
        unfold fin fin1 at hpre
        rw [if_neg k7, if_neg k8, if_neg e18, if_neg k4] at hpre
        refine ⟨_, _, hlay, hpre, anew_LI (t' := t) hI h hi hkm hk9 hRR ?_ ?_ ?_ ?_ (Or.inl ⟨?_, ?_, ?_, ?_, ?_, ?_⟩) ?_ (Or.inr ⟨k7, ?_⟩) ?_ ⟨Or.inl ⟨?_, ?_⟩, Or.inr ⟨?_, ?_⟩⟩ ?_ ?_ ?_ ?_ ?_ ?_ t450 ?_ ?_⟩
        all_goals first
          | (intro a p1 p2; funext z; simp (disch := omega) only [sH, sM, hdl, mI, mE, mA, bA8, bA1, bA0, eh, p4l]; done)
          | (intro z p0 p1 p2 p3 p8 p11; simp (disch := omega) only [sH, sM, hdl, mI, mE, mA, bA8, bA1, bA0, eh, p4l]; done)
          | (intro a z p1 p2 p3; simp (disch := omega) only [sH, sM, hdl, mI, mE, mA, bA8, bA1, bA0, eh, p4l]; done)
          | (intro z p; simp (disch := omega) only [sH, sM, hdl, mI, mE, mA, bA8, bA1, bA0, eh, p4l]; done)
          | (simp (disch := omega) only [sH, sM, hdl, mI, mE, mA, bA8, bA1, bA0, eh, p4l]; done)
          | (simp (disch := omega) only [sH, sM, hdl, mI, mE, mA, bA8, bA1, bA0, eh, p4l]; first | exact vc | exact vm | exact sc | exact sm | exact am | exact tc | exact tm | exact hnb | exact h30 | exact za.2 | rfl)
  · have k456 : k = 4 ∨ k = 5 ∨ k = 6 := by unfold hfx at hh; omega
    have hb1 := (sbB_1 (P := P) (m := m) (ih := ih) hi21 hk9).2 hh
    rw [hb1, sbT_e (r := f i) (r' := f i) hPl hi21 hk9 (by unfold mA; simp (disch := omega) only [sH, sM]; exact h30) (by unfold mA; simp (disch := omega) only [sH, sM]; exact h30) (by omega) (by omega), if_pos (Nat.le_refl _)] at hpre
    rw [if_pos k456] at hlay
    have e18 : ¬ mA m i 1 18 i = 0 := by unfold mA; simp (disch := omega) only [sH, sM]; decide
    have k7 : ¬ k = 7 := by omega
    have k8 : ¬ k = 8 := by omega
    unfold tlc at hlay
    rw [if_neg (fun e => k7 ((nIl 7 (by omega) (by omega)).mp e))] at hlay
    have za := h.za i (Nat.le_refl _) hi21
    by_cases k4 : k = 4
    · have D1 : Dm (bA0 (p4l c b i) b i) := by
        have nt := hI.nt
        exact ((D4.s2 nt.2.1).s2 nt.2.2.1).s2 nt.2.2.1
      have rd : ∀ z, bA0 (p4l c b i) b i (q + 2) z = c (q + 2) z := fun z => by unfold bA0 p4l; simp (disch := omega) only [sH, sM]
      rw [if_pos ((nIl 4 (by omega) (by omega)).mpr k4), bd_e (pg hI D1 hi21 (by decide)), Lt_e, rd, ac] at hlay
      unfold fin fin1 at hpre
      rw [if_neg k7, if_neg k8, if_neg e18, if_pos k4] at hpre
      refine ⟨_, _, hlay, hpre, anew_LI (t' := a) hI h hi hkm hk9 hRR ?_ ?_ ?_ ?_ (Or.inr ⟨?_, hh, ?_, ?_⟩) ?_ (Or.inr ⟨k7, ?_⟩) ?_ ⟨Or.inl ⟨?_, ?_⟩, Or.inr ⟨?_, ?_⟩⟩ ?_ ?_ ?_ ?_ ?_ ?_ a450 ?_ ?_⟩
      all_goals first
        | (intro a p1 p2; funext z; simp (disch := omega) only [sH, sM, hdl, mI, mE, mA, bA8, bA1, bA0, eh, p4l]; done)
        | (intro z p0 p1 p2 p3 p8 p11; simp (disch := omega) only [sH, sM, hdl, mI, mE, mA, bA8, bA1, bA0, eh, p4l]; done)
        | (intro a z p1 p2 p3; simp (disch := omega) only [sH, sM, hdl, mI, mE, mA, bA8, bA1, bA0, eh, p4l]; done)
        | (intro z p; simp (disch := omega) only [sH, sM, hdl, mI, mE, mA, bA8, bA1, bA0, eh, p4l]; done)
        | (simp (disch := omega) only [sH, sM, hdl, mI, mE, mA, bA8, bA1, bA0, eh, p4l]; done)
        | (simp (disch := omega) only [sH, sM, hdl, mI, mE, mA, bA8, bA1, bA0, eh, p4l]; first | exact vc | exact vm | exact sc | exact sm | exact am | exact tc | exact tm | exact hnb | exact h30 | exact za.2 | rfl)
    · rw [if_neg (fun e => k4 ((nIl 4 (by omega) (by omega)).mp e))] at hlay
      unfold fin fin1 at hpre
      rw [if_neg k7, if_neg k8, if_neg e18, if_neg k4] at hpre
      refine ⟨_, _, hlay, hpre, anew_LI (t' := t) hI h hi hkm hk9 hRR ?_ ?_ ?_ ?_ (Or.inr ⟨?_, hh, ?_, ?_⟩) ?_ (Or.inr ⟨k7, ?_⟩) ?_ ⟨Or.inl ⟨?_, ?_⟩, Or.inr ⟨?_, ?_⟩⟩ ?_ ?_ ?_ ?_ ?_ ?_ t450 ?_ ?_⟩
      all_goals first
        | (intro a p1 p2; funext z; simp (disch := omega) only [sH, sM, hdl, mI, mE, mA, bA8, bA1, bA0, eh, p4l]; done)
        | (intro z p0 p1 p2 p3 p8 p11; simp (disch := omega) only [sH, sM, hdl, mI, mE, mA, bA8, bA1, bA0, eh, p4l]; done)
        | (intro a z p1 p2 p3; simp (disch := omega) only [sH, sM, hdl, mI, mE, mA, bA8, bA1, bA0, eh, p4l]; done)
        | (intro z p; simp (disch := omega) only [sH, sM, hdl, mI, mE, mA, bA8, bA1, bA0, eh, p4l]; done)
        | (simp (disch := omega) only [sH, sM, hdl, mI, mE, mA, bA8, bA1, bA0, eh, p4l]; done)
        | (simp (disch := omega) only [sH, sM, hdl, mI, mE, mA, bA8, bA1, bA0, eh, p4l]; first | exact vc | exact vm | exact sc | exact sm | exact am | exact tc | exact tm | exact hnb | exact h30 | exact za.2 | rfl)
