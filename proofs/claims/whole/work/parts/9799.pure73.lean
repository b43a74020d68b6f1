/-! directSaving -/

theorem INV.tri {t na cur fl ed nm : Nat} {Ra : Int} {c m c' m' : St} (hB : IB t c m na cur fl ed nm Ra) (hA : CA c na) (hM : CM c ed nm) (hD : Dm c') (hc : ∀ a, a < 14 ∨ (17 ≤ a ∧ a ≤ 36) ∨ 46 < a → c' a = c a) (hm : ∀ a, 1 < a → (a < 7 ∨ 40 < a) → m' a = m a) (hm1 : ∀ k, k < 594 ∨ 891 ≤ k → m' 1 k = m 1 k) (h0 : ∀ k, (k < 30 ∨ 66 < k) → m' 0 k = m 0 k) : INV t c' m' := by
  have n20 := hB.a20
  obtain ⟨d1, d2, d3, d4, d5, d6, d7, d8, d9, d10, d11, d12, d13, d14, d15⟩ := hB
  have c1 := hc 1 (by decide)
  have c8 := hc 8 (by decide)
  have c10 := hc 10 (by decide)
  have m3 := hm 3 (by decide) (by decide)
  have m4 := hm 4 (by decide) (by decide)
  refine ⟨na, cur, fl, ed, nm, Ra, ⟨hD, d2.of (hm _ (by decide) (by decide)) (hm _ (by decide) (by decide)) (hm _ (by decide) (by decide)), d3.of c1 (fun k hk => h0 k (by omega)), ?_, ?_, ⟨d6.le, by rw [c8]; exact d6.cc, by rw [hm1 0 (by decide)]; exact d6.cm, d6.off, fun i hi => (d6.leg i hi).tr (fun j _ => by rw [show c' (8 + 2) = c (8 + 2) from c10]) (fun j hj => hm1 _ (by omega)) m3 m4 (Int.le_refl _) (fun e => (d6.leg i hi).k8 e)⟩, d7, ?_, d9, ?_, ?_, ?_, ?_, ?_, ?_⟩, ?_, ?_⟩
  · unfold FB at *; rw [c1, hc 3 (by decide), c10, h0 7 (by decide), m3, m4]; exact d4
  · rw [hc 4 (by decide), hc 5 (by decide), h0 68 (by decide), hm 41 (by decide) (by decide)]; exact d5
  · rw [c8, hm1 1 (by decide)]; exact d8
  · unfold zp at *; rw [show c' (8 + 2) = c (8 + 2) from c10]; exact d10
  · rw [hc 0 (by decide), h0 1 (by decide)]; exact d11
  · intro q
    obtain ⟨cu, rs, R, a1, a2, a3, a4, a5, a6, a7⟩ := d12 q
    have h11 := hc 11 (by decide)
    exact ⟨cu, rs, R, by rw [h11]; exact a1, by rw [hm1 297 (by decide)]; exact a2, by rw [h11]; exact a3, by rw [hm1 298 (by decide)]; exact a4, by rw [h11]; exact a5, by rw [hm1 299 (by decide)]; exact a6, a7.tr (fun k _ => by rw [show c' (11 + 2) = c (11 + 2) from hc 13 (by decide)]) (by rw [c1]) (fun k hk => hm1 _ (by omega)) m3 m4⟩
  · obtain ⟨sz, nx, a1, a2, a3, a4, a5, a6⟩ := d13
    have h47 := hc 47 (by decide)
    exact ⟨sz, nx, a1, a2, by rw [h47]; exact a3, by rw [h0 2 (by decide)]; exact a4, by rw [h47]; exact a5, fun j hj => (a6 j hj).tr (fun k _ => by rw [hc 49 (by decide)]) (fun k _ => by rw [hc 51 (by decide)]) (by rw [c1]) (fun k hk => hm1 _ (by omega)) (by rw [hm 2 (by decide) (by decide)]) m3 m4 (fun q => q)⟩
  · rw [hc 52 (by decide), h0 4 (by decide)]; exact d14
  · intro q
    obtain ⟨x, a1, a2⟩ := d15 q
    exact ⟨x, a1.of c1 c8 c10, a2⟩
  · intro q
    rw [hc 17 (by decide)] at q
    obtain ⟨x, a1, a2⟩ := hA q
    exact ⟨x, a1.of c1 c8 c10, a2.of (hc _ (by decide)) (by rw [hc _ (by decide)]) (hc _ (by decide))⟩
  · intro q1 q2
    rw [hc 27 (by decide)] at q2
    obtain ⟨x, a1, a2⟩ := hM q1 q2
    exact ⟨x, a1.of c1 (hc _ (by decide)) (hc _ (by decide)), a2.of (hc _ (by decide)) (by rw [hc _ (by decide)]) (hc _ (by decide))⟩
theorem lengthOf_2 {c m : St} {b q P n l cur : Nat} (hI : PI b q) (hD : Dm c) (hc : c q 1 = nI n) (hn : n ≤ 21) (hV : VR c m b P n) (hl : l < n) (hcu : cur ≤ l) : f_Pa_lengthOf c b (nI cur) (nI l) = some (LU m (l + 1) - LU m cur) := by
  unfold f_Pa_lengthOf
  rw [Jn_e]
  have := lu_c (f0 := 0) hI hD hc hn hV (show l + 1 ≤ n by omega) (fun x1 => some x1) (l + 1 - cur) cur 4000 (by omega) (by omega) (0 - LU m cur)
  have e1 : nI (l + 1) - (1 : Int32) = nI l := by rw [show (1 : Int32) = nI 1 from rfl, pk_sub (by omega), show l + 1 - 1 = l by omega]
  rw [Int32.sub_add_cancel, e1] at this
  refine Eq.trans this ?_
  have e2 : (0 - LU m cur) + LU m (l + 1) = LU m (l + 1) - LU m cur := by
    rw [Int32.sub_eq_add_neg, Int32.zero_add, Int32.add_comm, ← Int32.sub_eq_add_neg]
  rw [e2]
theorem k_directSaving {t : Nat} {c m : St} (ht : t ≤ 511) (h : INV t c m) (p1 : Int32) : AQ t (f_FL_directSaving c p1) (m_directSaving m p1) := by
  have h' := h
  obtain ⟨na, cur, fl, ed, nm, Ra, hB, hA, hM⟩ := h
  have n20 := hB.a20
  have hI8 : PI 17 8 := Or.inl ⟨rfl, rfl⟩
  have hI14 : PI 37 14 := Or.inr (Or.inr ⟨rfl, rfl⟩)
  have hm := isLeg_mc (P := 0) (p := p1) (by decide) (show na ≤ 1000 by omega) hB.A.cm
  unfold f_FL_directSaving m_directSaving
  rcases lg_case na (by omega) p1 with ⟨i, hi, e⟩ | e
  rotate_left
  · have b : m_isLeg m (0 : Int32) p1 = some 0 := hm.2 e
    rw [bd_e (hasLeg_n hB.A.cc e), bd_e b, if_pos rfl, if_pos rfl]
    exact ⟨_, c, m, rfl, rfl, h'.up⟩
  subst e
  have a : f_Pl_hasLeg c 8 (nI i) = some 1 := by rw [hasLeg_c hI8 hB.A.cc (by omega) (by omega), if_pos hi]
  have b : m_isLeg m (0 : Int32) (nI i) = some 1 := hm.1 ⟨nI_pos' (by omega), nI_lt hi (by omega)⟩
  have hcur := (hB.an.2 (by omega)).1
  have t3 := (hB.an.2 (by omega)).2
  have mcur : m 1 (Int32.toNatClampNeg (1 : Int32)) = nI cur := hB.ac.2.1
  rw [bd_e a, bd_e b, if_neg n10, if_neg n10, Gd_t (by decide), Lt_e, Jn_e, Jn_e, hB.ac.1, mcur]
  by_cases hcu : i < cur
  · rw [if_pos (nI_lt hcu (by omega)), if_pos (nI_lt hcu (by omega))]
    exact ⟨_, c, m, rfl, rfl, h'.up⟩
  rw [if_neg (nI_nlt (by omega) (by omega)), if_neg (nI_nlt (by omega) (by omega))]
  have hlg := hB.A.leg i hi
  obtain ⟨k, k1, k2, k3, -⟩ := hlg.kd
  have fx := fix_no hlg k2 k1
  have gc : f_Tb_get c 9 (nI i) (1 : Int32) = some (c (8 + 2) (i * 14 + 1)) := pg_get (j := 1) hI8 hB.D (by omega) rfl rfl (by decide)
  have gm : m_of m (0 : Int32) (nI i) (0 : Int32) = some (nI k) := (mof (P := 0) (j := 0) (by decide) (show i < 21 by omega) (by decide)).trans (congrArg some k3)
  rw [bd_e gc, bd_e gm]
  by_cases hf : hfx k
  rotate_left
  · rw [if_pos (fx.mpr hf), bd_e ((hasFix_e k1).2 hf), if_pos rfl]
    exact ⟨_, c, m, rfl, rfl, h'.up⟩
  rw [if_neg (fun y => (fx.mp y) hf), bd_e ((hasFix_e k1).1 hf), if_neg n10]
  obtain ⟨v, c', m', e1, e2, ⟨Ra', hB'⟩, hA', hM', hv, hv0, hfr, hV, ⟨RW, hW⟩, hp⟩ := pos_dir ht hB hA hM
  rw [bd_e e1, bd_e e2]
  have hI' : INV t c' m' := ⟨na, cur, fl, ed, nm, Ra', hB', hA', hM'⟩
  rcases hv with hv | hv
  · subst hv
    rw [if_pos rfl, if_pos rfl]
    exact ⟨_, c', m', rfl, rfl, hI'.up⟩
  obtain ⟨p3, p4, p5, p6, p7⟩ := hp hv
  subst hv
  rw [if_neg n10, if_neg n10]
  have hV := hV (by omega)
  -- the trial plan: a copy, then direct
  have T15 : TabOK c' 15 21 14 := hB'.D.2.2.2.2.1.2.2
  have T9 : TabOK c' 9 21 14 := hB'.D.2.2.2.2.1.1
  obtain ⟨X, eX⟩ : ∃ X, X = scp c' 10 16 (0 * 14) (0 * 14) (na * 14) := ⟨_, rfl⟩
  have cp := Tb_copy (i := 0) (j := 0) T15 T9 (show 0 < na by omega) (by omega) (by omega)
  rw [show rc 9 2 = 10 from rfl, show rc 15 2 = 16 from rfl, ← eX] at cp
  have cp' : f_Tb_copyRows c' 15 9 (0 : Int32) (0 : Int32) (nI na) = some X := cp
  have Xx : ∀ a, a ≠ 16 → X a = c' a := fun a p => by rw [eX, scp_ne p]
  obtain ⟨C, eC⟩ : ∃ C, C = s2 (s2 (s2 X 14 1 (nI na)) 14 2 (nI cur)) 14 3 (0 : Int32) := ⟨_, rfl⟩
  have hcf : f_Pl_copyFrom c' 14 8 = some C := by
    unfold f_Pl_copyFrom
    rw [show rc 14 0 = 15 from rfl, show rc 8 0 = 9 from rfl, hB'.A.cc, bd_e cp', Lt_e, Xx 8 (by decide), hB'.A.cc, s2_ne (show (8 : Nat) ≠ 14 by decide), Xx 8 (by decide), hB'.ac.1, Lt_e, s2_ne (show (8 : Nat) ≠ 14 by decide), s2_ne (show (8 : Nat) ≠ 14 by decide), Xx 8 (by decide), hB'.ac.2.2, Gd_t (by decide), Lt_e, eC]
  have CD : Dm C := by rw [eC, eX]; exact (((hB'.D.scp (by decide)).s2 (by decide)).s2 (by decide)).s2 (by decide)
  have Cx : ∀ a, a ≠ 14 → a ≠ 16 → C a = c' a := fun a p q => by rw [eC, s2_ne p, s2_ne p, s2_ne p, Xx a q]
  have C16 : ∀ z, z < na * 14 → C 16 z = c' 10 z := fun z hz => by
    rw [eC, s2_ne (by decide), s2_ne (by decide), s2_ne (by decide), eX]
    have := scp_in (c := c') (i := 10) (j := 16) (sp := 0 * 14) (dp := 0 * 14) (n := na * 14) hz
    rw [show 0 * 14 + z = z by omega] at this
    exact this
  have C141 : C 14 1 = nI na := by rw [eC, s2_k (by decide), s2_k (by decide), s2_at]
  have lg' : ∀ l, l < na → LegR C m' 14 0 Ra' l := fun l hl => (hB'.A.leg l hl).tr (fun j hj => C16 _ (by omega)) (fun j hj => rfl) rfl rfl (Int.le_refl _) (fun y => (hB'.A.leg l hl).k8 y)
  obtain ⟨F, F1, F2, F3, F4, F5⟩ := hB'.F
  have fb : FB C 14 na := F4.tr (q' := 14) (fun z hz => C16 z hz) (by rw [Cx 1 (by decide) (by decide)])
  have hkd : ∀ k', k' < 9 → C (14 + 2) (i * 14 + 0) = nI k' → hfx k' := by
    intro k' y1 y2
    have s1 : C 16 (i * 14 + 0) = c (8 + 2) (i * 14 + 0) := by rw [C16 _ (by omega), hfr 10 (by decide) (by decide)]
    have : k' = k := (nI_eq (by omega) (by omega)).mp (y2.symm.trans (s1.trans k2))
    rw [this]; exact hf
  have C52 : C 52 = c' 52 := Cx 52 (by decide) (by decide)
  obtain ⟨c2, m2, d1, d2, d3, d4, d5, d6, d7, d8, d9, d10, d11, d12, d13, d14⟩ := dirct_lock (R' := 14200 + 11460 * ((t : Int) + 2)) (px := C 52 3) (py := C 52 4) (pc := C 52 5) hI14 (P := 0) (by decide) CD C141 hB'.A.cm n20 hi lg' hkd (by rw [C52]; exact p3) (by rw [C52]; exact p4) (by rw [C52]; exact p5) p6 p7 fb
  have d2' : m_laysDirect m' (0 : Int32) (nI i) = some m2 := d2
  obtain ⟨c3, ec3⟩ : ∃ c3, c3 = s2 c2 37 5 (1 : Int32) := ⟨_, rfl⟩
  have D3 : Dm c3 := by rw [ec3]; exact d3.s2 (by decide)
  have x3 : ∀ a, a ≠ 37 → c3 a = c2 a := fun a p => by rw [ec3, s2_ne p]
  have y3 : ∀ a, a ≠ 37 → a ≠ 14 → a ≠ 16 → c3 a = c' a := fun a p q r => by rw [x3 a p, d4 a q r, Cx a q r]
  have K2 : RefK m2 := hB'.K.of (d8 _ (by decide)) (d8 _ (by decide)) (d8 _ (by decide))
  have S3 : SetR c3 m2 := hB'.S.of (y3 1 (by decide) (by decide) (by decide)) (fun k _ => by rw [d8 0 (by decide)])
  have P3 : PlanR c3 m2 14 594 (14200 + 11460 * ((t : Int) + 2)) (na - i + 1) := ⟨by omega, by rw [x3 14 (by decide)]; exact d5, d10, Or.inr (Or.inr rfl), fun l hl => (d11 l hl).of1 (x3 _ (by decide)) rfl rfl rfl⟩
  have hB3 : BsOK m2 594 (bs0 (14200 + 11460 * ((t : Int) + 2))) (14200 + 11460 * ((t : Int) + 2)) (14200 + 11460 * ((t : Int) + 2) + 4612) (na - i + 1) := BsOK_f (by omega) (by omega) (by omega) (by omega) (fun _ => Or.inl (fun k' y1 y2 => by
    rcases d14 with y | y
    · have : k' = 2 := (nI_eq (b := 2) (by omega) (by decide)).mp (y2.symm.trans y)
      rw [this]; exact Or.inl (by decide)
    · have : k' = 7 := (nI_eq (b := 7) (by omega) (by decide)).mp (y2.symm.trans y)
      rw [this]; exact Or.inr rfl))
  obtain ⟨c4, m4, f1, f2, f3, f4, f5, f6, f7, f8⟩ := path_lock hI14 D3 K2 S3 P3 hB3 (by omega) (by omega) (by rw [ec3, s2_at]; decide)
  have f2' : m_lays m2 (594 : Int32) = some m4 := f2
  have D4 : Dm c4 := f5.Dm hI14 D3
  have x4 : ∀ a, a ≠ 37 → a ≠ 39 → a ≠ 40 → a ≠ 42 → a ≠ 43 → a ≠ 45 → a ≠ 14 → a ≠ 16 → c4 a = c' a := fun a q1 q2 q3 q4 q5 q6 q7 q8 => by rw [f5.fc a q1 q2 q3 q4 q5 q6, y3 a q1 q7 q8]
  have V4 : VR c4 m' 17 0 na := hV.of (x4 _ (by decide) (by decide) (by decide) (by decide) (by decide) (by decide) (by decide) (by decide)) (by rw [x4 (17 + 6) (by decide) (by decide) (by decide) (by decide) (by decide) (by decide) (by decide) (by decide)]) (x4 _ (by decide) (by decide) (by decide) (by decide) (by decide) (by decide) (by decide) (by decide))
  have c48 : c4 8 = c' 8 := x4 8 (by decide) (by decide) (by decide) (by decide) (by decide) (by decide) (by decide) (by decide)
  have c452 : c4 52 2 = nI fl := by rw [x4 52 (by decide) (by decide) (by decide) (by decide) (by decide) (by decide) (by decide) (by decide)]; exact hB'.f.1
  have L1 := lengthOf_2 hI8 D4 (by rw [c48]; exact hB'.A.cc) (by omega) V4 hi (show cur ≤ i by omega)
  have L2 : m_lengthUpTo m' (nI i) = some (LU m' (i + 1)) := by
    have := lengthUpTo_e (m := m') (l := i + 1) (by omega)
    rw [show nI (i + 1) - (1 : Int32) = nI i by rw [show (1 : Int32) = nI 1 from rfl, pk_sub (by omega), show i + 1 - 1 = i by omega]] at this
    exact this
  have L3 : m_lengthUpTo m' (nI cur - (1 : Int32)) = some (LU m' cur) := lengthUpTo_e (by omega)
  have g9 : f_Tb_get c4 38 (1 : Int32) (9 : Int32) = some (m4 37 1) := by
    have : f_Tb_get c4 38 (1 : Int32) (9 : Int32) = some (c4 (37 + 2) (1 * 16 + 9)) := lg_get (j := 9) hI14 D4 (i := 1) (by decide) rfl rfl (by decide)
    rw [this, f3.lg 1 9 (by omega) (by decide), Wc9]
  rw [bd_e hcf, bd_e d1, Lt_e, ← ec3, bd_e f1, c48, hB'.ac.1, bd_e L1, Lt_e, c452, bd_e g9]
  try dsimp only
  rw [bd_e L2, bd_e L3, Lt_e, hB'.f.2.1, bd_e d2', bd_e f2', Gd_t (by decide), show m4 37 (Int32.toNatClampNeg (1 : Int32)) = m4 37 1 from rfl]
  refine ⟨_, c4, m4, rfl, rfl, ?_⟩
  refine (INV.tri hB' hA' hM' D4 (fun a p => x4 a (by omega) (by omega) (by omega) (by omega) (by omega) (by omega) (by omega) (by omega)) (fun a p q => ?_) (fun z p => ?_) (fun z p => ?_)).up
  · rw [f5.fm a (by omega) q, d8 a (by omega)]
  · rw [f5.fm 1 (by decide) (by decide), d9 z p]
  · rw [f5.f0 z (by omega), d8 0 (by decide)]
