/-! directTo -/

theorem IB.r0 {t na cur fl ed nm : Nat} {Ra : Int} {c m : St} (h : IB t c m na cur fl ed nm Ra) (h8 : ¬ c (8 + 2) (0 * 14 + 0) = 8) (hs : sp cur fl = 0) (ht : 1 ≤ t) : IB t c m na cur fl ed nm 14200 := by
  obtain ⟨d1, d2, d3, d4, d5, d6, d7, d8, d9, d10, d11⟩ := h
  refine ⟨d1, d2, d3, d4, d5, ⟨d6.le, d6.cc, d6.cm, d6.off, fun i hi => (d6.leg i hi).anyR (fun e => ?_)⟩, d7, d8, d9, ⟨Int.le_refl _, ?_⟩, d11⟩
  · have := (d6.leg i hi).k8 e
    subst this
    exact h8 e
  · have := zp_b c 8 na
    rw [hs]
    omega
def bs0 (Ra : Int) (j : Nat) : Int := if j = 0 then Ra else 14200
theorem bs0_s {Ra : Int} {j : Nat} (h : j ≠ 0) : bs0 Ra j = 14200 := if_neg h
theorem BsOK_f {m : St} {P n : Nat} {Ra R : Int} (h : 14200 ≤ Ra) (h1 : Ra + 4612 ≤ R) (h2 : 61771 ≤ R) (hn : n ≤ 21) (hk : 1 < n → (∀ k : Nat, k < 9 → m 1 (P + 3 + 14 * 1 + 0) = nI k → hfx k) ∨ m 1 (P + 3 + 14 * 1 + 13) = 1) : BsOK m P (bs0 Ra) Ra R n := by
  have e0 : bs0 Ra 0 = Ra := rfl
  refine ⟨by rw [e0]; exact Int.le_refl _, fun j => ?_, fun j hj => ?_, fun i i1 i2 => ⟨?_, ?_, ?_⟩⟩
  · by_cases q : j = 0
    · rw [q, e0]; exact h
    · rw [bs0_s q]; exact Int.le_refl _
  · by_cases q : j = 0
    · rw [q, e0]; omega
    · rw [bs0_s q]; omega
  · by_cases q : i - 1 = 0
    · rw [q, e0, show (i : Int) = 1 by omega]; omega
    · rw [bs0_s q]; omega
  · rw [bs0_s (by omega)]; omega
  · by_cases q : i - 1 = 0
    · have e1 : i = 1 := by omega
      subst e1
      exact Or.inr (hk i2)
    · left
      rw [bs0_s q, bs0_s (by omega)]
      exact Int.le_refl _
def PD (t : Nat) (c m : St) (na cur fl ed nm : Nat) (v : Int32) (c' m' : St) : Prop :=
  f_FL_hasPosition c = some (v, c') ∧ m_hasPosition m = some (v, m') ∧ (∃ Ra', IB t c' m' na cur fl ed nm Ra') ∧ CA c' na ∧ CM c' ed nm ∧ (v = 0 ∨ v = 1) ∧ (na = 0 → v = 0) ∧ (∀ a, a < 17 ∨ 46 < a → a ≠ 52 → c' a = c a) ∧ (0 < na → VR c' m' 17 0 na) ∧ (∃ R, 0 < na → WF m' 0 R na) ∧
  (v = 1 → c' 52 3 = m' 0 64 ∧ c' 52 4 = m' 0 65 ∧ c' 52 5 = m' 0 66 ∧ (∃ k : Nat, k < 24 ∧ m' 0 66 = nI k) ∧ Nb (14200 + 11460 * ((t : Int) + 2)) (m' 0 64) (m' 0 65))
theorem pos_dir {t na cur fl ed nm : Nat} {Ra : Int} {c m : St} (ht : t ≤ 511) (hB : IB t c m na cur fl ed nm Ra) (hA : CA c na) (hM : CM c ed nm) : ∃ (v : Int32) (c' m' : St), PD t c m na cur fl ed nm v c' m' := by
  have key : ∀ (Ra0 : Int) (Bs : Nat → Int) (R : Int), IB t c m na cur fl ed nm Ra0 → BsOK m 0 Bs Ra0 R na → Bs 0 = Ra0 → 14200 ≤ R → R ≤ 5940000 → (0 < na → R + 402 ≤ 14200 + 11460 * ((t : Int) + 2) ∨ (cur = 0 ∧ fl = 0 ∧ m 1 (0 + 3 + 14 * 0 + 0) = 8 ∧ Ra0 ≤ 14200 + 11460 * ((t : Int) + 2))) → ∃ (v : Int32) (c' m' : St), PD t c m na cur fl ed nm v c' m' := by
    intro Ra0 Bs R hB0 h1 h2 h3 h4 h5
    obtain ⟨v, c', m', e1, e2, hO, e3⟩ := pos_lock ht hB0 hA hM h1 h2 h3 h4
    refine ⟨v, c', m', e1, e2, ⟨Ra0, hO.B⟩, hO.A, hO.M, hO.v, hO.n0, e3, hO.V, ⟨R, hO.W⟩, fun hv => ?_⟩
    obtain ⟨p1, p2, p3, p4, p5, p6⟩ := hO.p hv
    refine ⟨p1, p2, p3, p4, ?_⟩
    have hna : 0 < na := by
      rcases (show na = 0 ∨ 0 < na by omega) with z | z
      · have := hO.n0 z
        rw [this] at hv
        exact absurd hv (by decide)
      · exact z
    rcases h5 hna with z | ⟨z1, z2, z3, z4⟩
    · exact p5.le z
    · refine (p6 z1 z2 ?_).le z4
      obtain ⟨k, k1, k2, k3, -⟩ := (hB0.A.leg 0 hna).kd
      obtain ⟨k', y1, y2, y3, -⟩ := (hO.B.A.leg 0 hna).kd
      have ec : c' (8 + 2) (0 * 14 + 0) = c (8 + 2) (0 * 14 + 0) := by rw [e3 (8 + 2) (by decide) (by decide)]
      rw [y3, ← y2, ec, k2, ← k3]
      exact z3
  have ra := hB.ra ht
  have n20 := hB.a20
  have ab := hB.ab
  have zb := zp_b c 8 na
  have sb := sp_b cur fl
  rcases (show na = 0 ∨ 0 < na by omega) with hna | hna
  · exact key Ra (fun _ => Ra) (Ra + 45400) hB (BsOK_20 ra.1 n20) rfl (by omega) (by omega) (fun q => by omega)
  have t3 := (hB.an.2 hna).2
  rcases (show zp c 8 na = 0 ∨ zp c 8 na = 1 by omega) with z | z
  · -- leg 1 begins at a fix, or anew
    obtain ⟨R, r1, r2, r3⟩ : ∃ R : Int, Ra + 4612 ≤ R ∧ 61771 ≤ R ∧ (R = Ra + 4612 ∨ R = 61771) := by
      rcases (show Ra + 4612 ≤ 61771 ∨ 61771 ≤ Ra + 4612 by omega) with q | q
      · exact ⟨61771, q, Int.le_refl _, Or.inr rfl⟩
      · exact ⟨Ra + 4612, Int.le_refl _, q, Or.inl rfl⟩
    refine key Ra (bs0 Ra) R hB (BsOK_f ra.1 r1 r2 (by omega) (fun i1 => ?_)) rfl (by omega) (by omega) (fun _ => Or.inl (by omega))
    obtain ⟨k, k1, k2, k3, k4, k5, k6⟩ := (hB.A.leg 1 (by omega)).kd
    obtain ⟨g, g1, g2, g3⟩ := (hB.A.leg 1 (by omega)).gap
    have hz : ¬ (2 ≤ na ∧ (c (8 + 2) (1 * 14 + 0) = 4 ∨ c (8 + 2) (1 * 14 + 0) = 5 ∨ c (8 + 2) (1 * 14 + 0) = 6) ∧ c (8 + 2) (1 * 14 + 13) = 0) := fun y => by
      unfold zp at z
      rw [if_pos y] at z
      exact absurd z (by decide)
    by_cases hf : hfx k
    · left
      intro k' y1 y2
      have : k' = k := (nI_eq (by omega) (by omega)).mp (y2.symm.trans k3)
      rw [this]; exact hf
    · right
      have hk : k = 4 ∨ k = 5 ∨ k = 6 := by
        have : k ≠ 8 := fun y => by have := (k6 y).1; omega
        unfold hfx at hf
        omega
      rcases (show g = 0 ∨ g = 1 by omega) with y | y
      · refine absurd ⟨by omega, ?_, by rw [g2, y]; rfl⟩ hz
        rw [k2]
        rcases hk with y | y | y <;> rw [y]
        · left; rfl
        · right; left; rfl
        · right; right; rfl
      · rw [g3, y]; rfl
  · rcases (show sp cur fl = 0 ∨ sp cur fl = 1 by omega) with s | s
    · have hcf : cur = 0 ∧ fl = 0 := by
        unfold sp at s
        by_cases y : cur = 0 ∧ fl = 0
        · exact y
        · rw [if_neg y] at s; exact absurd s (by decide)
      by_cases h8 : c (8 + 2) (0 * 14 + 0) = 8
      · obtain ⟨k, k1, k2, k3, -⟩ := (hB.A.leg 0 hna).kd
        exact key Ra (fun _ => Ra) (Ra + 45400) hB (BsOK_20 ra.1 n20) rfl (by omega) (by omega) (fun _ => Or.inr ⟨hcf.1, hcf.2, by rw [k3, ← k2]; exact h8, by omega⟩)
      · exact key 14200 (fun _ => 14200) (14200 + 45400) (hB.r0 h8 s (by omega)) (BsOK_20 (Int.le_refl _) n20) rfl (by decide) (by decide) (fun _ => Or.inl (by omega))
    · exact key Ra (fun _ => Ra) (Ra + 45400) hB (BsOK_20 ra.1 n20) rfl (by omega) (by omega) (fun _ => Or.inl (by omega))
theorem PE.same {t t' na cur fl ed nm q P n cu : Nat} {Ra Ra' : Int} {c m c' m' : St} (hP : PE c m q P n cu ed nm na) (hB : IB t c m na cur fl ed nm Ra) (hB' : IB t' c' m' na cur fl ed nm Ra') (e8 : c' 8 = c 8) (e11 : c' 11 = c 11) : PE c' m' q P n cu ed nm na := by
  obtain ⟨q', P', n', cu', hP'⟩ := pe_of hB'
  have n20 := hP.n20
  have n20' := hP'.n20
  have u20 := hP.cu20
  have u20' := hP'.cu20
  have Pl := hP.Pl
  have Pl' := hP'.Pl
  have eq : q' = q := hP'.eq.trans hP.eq.symm
  subst eq
  have eP : P' = P := by
    have e2 : m_edited m' = m_edited m := by
      unfold m_edited
      rw [hB.E.2.2.1, hB'.E.2.2.1]
    have := hP'.P
    rw [e2, hP.P] at this
    exact ((nI_eq (by omega) (by omega)).mp (Option.some.inj this)).symm
  subst eP
  have cq : c' q' = c q' := by
    rw [hP.eq]
    by_cases z : ed = 1
    · rw [if_pos z]; exact e11
    · rw [if_neg z]; exact e8
  have en : n' = n := hP'.en.trans hP.en.symm
  subst en
  have ec : cu' = cu := by
    have := hP'.c2
    rw [cq, hP.c2] at this
    exact ((nI_eq (by omega) (by omega)).mp this).symm
  subst ec
  exact hP'
theorem fix_no {c m : St} {q P i k : Nat} {R : Int} (h : LegR c m q P R i) (hk : c (q + 2) (i * 14 + 0) = nI k) (hk9 : k < 9) : c (q + 2) (i * 14 + 1) = -1000000 ↔ ¬ hfx k := by
  obtain ⟨k', k1, k2, k3, k4, k5, k6⟩ := h.kd
  have e : k' = k := (nI_eq (by omega) (by omega)).mp (k2.symm.trans hk)
  subst e
  constructor
  · intro y hf
    obtain ⟨f, F, f1, f2, -, f3, -⟩ := k4 hf
    rw [f3] at y
    exact nI_nn (by omega) y
  · exact k5
theorem k_directTo {t : Nat} {c m : St} (ht : t ≤ 511) (h : INV t c m) (p1 : Int32) : AQ t (f_FL_directTo c p1) (m_directTo m p1) := by
  have h' := h
  obtain ⟨na, cur, fl, ed, nm, Ra, hB, hA, hM⟩ := h
  obtain ⟨q, P, n, cu, hP⟩ := pe_of hB
  have n20 := hP.n20
  have cu20 := hP.cu20
  have Pl := hP.Pl
  obtain ⟨b0, hI⟩ := hP.I
  unfold f_FL_directTo m_directTo
  rw [bd_e hP.q, bd_e hP.P]
  rcases hP.leg p1 with ⟨a, b⟩ | ⟨i, hi, e, a, b⟩
  · rw [bd_e a, bd_e b, if_pos rfl, if_pos rfl]
    exact ⟨_, c, m, rfl, rfl, h'.up⟩
  subst e
  rw [bd_e a, bd_e b, if_neg n10, if_neg n10, Gd_t hP.cur.1, Jn_e, Jn_e]
  by_cases hcu : i < cu
  · rw [if_pos (show nI i < c q 2 by rw [hP.c2]; exact nI_lt hcu (by omega)), if_pos (show nI i < m 1 (Int32.toNatClampNeg (nI P + (1 : Int32))) by rw [hP.cur.2]; exact nI_lt hcu (by omega))]
    exact ⟨_, c, m, rfl, rfl, h'.up⟩
  rw [if_neg (show ¬ nI i < c q 2 by rw [hP.c2]; exact nI_nlt (by omega) (by omega)), if_neg (show ¬ nI i < m 1 (Int32.toNatClampNeg (nI P + (1 : Int32))) by rw [hP.cur.2]; exact nI_nlt (by omega) (by omega))]
  obtain ⟨R0, hlg⟩ := hP.lg
  obtain ⟨k, k1, k2, k3, -⟩ := (hlg i hi).kd
  have fx := fix_no (hlg i hi) k2 k1
  have gc : f_Tb_get c (rc q 0) (nI i) (1 : Int32) = some (c (q + 2) (i * 14 + 1)) := by rw [rc_q0 hI]; exact pg_get (j := 1) hI hB.D (by omega) rfl rfl (by decide)
  have gm : m_of m (nI P) (nI i) (0 : Int32) = some (nI k) := (mof (j := 0) (by omega) (show i < 21 by omega) (by decide)).trans (congrArg some k3)
  rw [bd_e gc, bd_e gm]
  by_cases hf : hfx k
  rotate_left
  · rw [if_pos (fx.mpr hf), bd_e ((hasFix_e k1).2 hf), if_pos rfl]
    exact ⟨_, c, m, rfl, rfl, h'.up⟩
  rw [if_neg (fun y => (fx.mp y) hf), bd_e ((hasFix_e k1).1 hf), if_neg n10]
  obtain ⟨v, c', m', e1, e2, ⟨Ra', hB'⟩, hA', hM', hv, hv0, hfr, hV, hW, hp⟩ := pos_dir ht hB hA hM
  rw [bd_e e1, bd_e e2]
  have hI' : INV t c' m' := ⟨na, cur, fl, ed, nm, Ra', hB', hA', hM'⟩
  rcases hv with hv | hv
  · subst hv
    rw [if_pos rfl, if_pos rfl]
    exact ⟨_, c', m', rfl, rfl, hI'.up⟩
  obtain ⟨p3, p4, p5, p6, p7⟩ := hp hv
  subst hv
  have hP' := hP.same hB hB' (hfr 8 (by decide) (by decide)) (hfr 11 (by decide) (by decide))
  have mc : m_count m' (nI P) = some (nI n) := (mcount (by omega)).trans (congrArg some hP'.cm)
  have en : (nI n - nI i) + (1 : Int32) = nI (n - i + 1) := by rw [pk_sub (by omega), nI_1]
  rw [if_neg n10, if_neg n10, bd_e mc, en]
  have ecc : ((c' q 1) - nI i) + (1 : Int32) = nI (n - i + 1) := by rw [hP'.cc]; exact en
  by_cases h20 : n - i + 1 ≤ 20
  rotate_left
  · have z : ¬ nI (n - i + 1) ≤ (20 : Int32) := nI_ge (b := n - i + 1) (a := 20) (by omega) (by omega)
    rw [if_neg (show ¬ ((c' q 1) - nI i) + (1 : Int32) ≤ (20 : Int32) by rw [ecc]; exact z), if_neg z]
    exact ⟨_, c', m', rfl, rfl, hI'.up⟩
  have z20 : nI (n - i + 1) ≤ (20 : Int32) := nI_le (b := 20) h20 (by decide)
  rw [if_pos (show ((c' q 1) - nI i) + (1 : Int32) ≤ (20 : Int32) by rw [ecc]; exact z20), if_pos z20]
  obtain ⟨c1, m1, ec, em, G⟩ := begin_lock hB'
  obtain ⟨n0, cu', rs, R1, z0, z1, z2, z3, z4, z5, z6, z7, z8, z9⟩ := G.M
  have hn : n0 = n := z0.trans hP'.en.symm
  subst hn
  have hMP := z9 (by omega)
  have ht2 := hP'.t1 hB' (by omega)
  have G52 : c1 52 = c' 52 := G.fc 52 (by decide) (by decide) (by decide) (by decide) (by decide) (by decide) (by decide)
  have g0 : ∀ j, 3 ≤ j → m1 0 j = m' 0 j := fun j p => G.g0 j (by omega) (by omega)
  have hI11 : PI 27 11 := Or.inr (Or.inl ⟨rfl, rfl⟩)
  -- the leg's kind in the plan that is edited
  have hkd : ∀ k', k' < 9 → c1 (11 + 2) (i * 14 + 0) = nI k' → hfx k' := by
    intro k' y1 y2
    obtain ⟨x1, -⟩ := hMP.2.2.1 i hi
    obtain ⟨R', hlg'⟩ := hP'.lg
    obtain ⟨k3', w1, w2, w3, -⟩ := (hlg' i hi).kd
    have s1 : c' (q + 2) (i * 14 + 0) = c (q + 2) (i * 14 + 0) := by
      rw [hfr (q + 2) (by have := hI.lt; rcases hI with ⟨-, y⟩ | ⟨-, y⟩ | ⟨-, y⟩ <;> omega) (by have := hI.lt; rcases hI with ⟨-, y⟩ | ⟨-, y⟩ | ⟨-, y⟩ <;> omega)]
    have s3 : c1 13 (i * 14 + 0) = c' (q + 2) (i * 14 + 0) := by rw [hP'.eq]; exact z1.2.2 _ (by omega)
    have : nI k' = nI k := y2.symm.trans (s3.trans (s1.trans k2))
    have : k' = k := (nI_eq (by omega) (by omega)).mp this
    rw [this]; exact hf
  obtain ⟨c2, m2, d1, d2, d3, d4, d5, d6, d7, d8, d9, d10, d11, d12, d13, d14⟩ := dirct_lock (R' := 14200 + 11460 * ((t : Int) + 2)) (px := c1 52 3) (py := c1 52 4) (pc := c1 52 5) hI11 (P := 297) (by decide) G.D z2 z3 n20 hi hMP.2.2.1 hkd (by rw [G52, g0 64 (by decide)]; exact p3) (by rw [G52, g0 65 (by decide)]; exact p4) (by rw [G52, g0 66 (by decide)]; exact p5) (by rw [g0 66 (by decide)]; exact p6) (by rw [g0 64 (by decide), g0 65 (by decide)]; exact p7) hMP.2.2.2.1.2
  have d2' : m_laysDirect m1 (297 : Int32) (nI i) = some m2 := d2
  obtain ⟨M, eM⟩ : ∃ M, M = s2 (s2 (plc m2 594 297 297) 1 298 (0 : Int32)) 1 299 (1 : Int32) := ⟨_, rfl⟩
  have cpl : m_copyPlan m2 (594 : Int32) (297 : Int32) = some (plc m2 594 297 297) := cpl_m (P := 594) (Q := 297) (by decide) (by decide) (by decide)
  have M297 : M 1 297 = nI (n0 - i + 1) := by
    rw [eM, s2_k (by decide), s2_k (by decide)]
    have := plc_at (m := m2) (P := 594) (Q := 297) (n := 297) (k := 0) (by decide)
    exact this.trans d10
  have mcM : m_count M (297 : Int32) = some (nI (n0 - i + 1)) := (mcount (P := 297) (by decide)).trans (congrArg some M297)
  have Mx : ∀ a, a ≠ 1 → M a = m1 a := fun a p => by rw [eM, s2_ne p, s2_ne p, plc_ne p, d8 a p]
  have Ml : ∀ l j, l < 21 → j < 14 → M 1 (297 + 3 + 14 * l + j) = m2 1 (594 + 3 + 14 * l + j) := fun l j hl hj => by
    rw [eM, s2_k (by omega), s2_k (by omega), show 297 + 3 + 14 * l + j = 297 + (3 + 14 * l + j) by omega, plc_at (by omega), show 594 + (3 + 14 * l + j) = 594 + 3 + 14 * l + j by omega]
  rw [bd_e ec, bd_e em, bd_e d1, bd_e d2', bd_e cpl, Gd_t (by decide), Lt_e, Gd_t (by decide), Lt_e, show Int32.toNatClampNeg (298 : Int32) = 298 by decide, show Int32.toNatClampNeg (299 : Int32) = 299 by decide, ← eM, bd_e mcM]
  refine ⟨nI (n0 - i + 1), c2, M, by rw [d5], rfl, ?_⟩
  have hz : zp c2 11 (n0 - i + 1) = 0 := by
    unfold zp
    rw [if_neg]
    rintro ⟨-, y, -⟩
    rcases d13 with w | w <;> rw [w] at y <;> revert y <;> decide
  refine BG.inv2 (n' := n0 - i + 1) (cu := 0) (rs := 1) (R := 14200 + 11460 * ((t : Int) + 2)) hB' hA' (by omega) G d3 (fun a p q => d4 a p q) Mx (fun z p => ?_) d5 M297 d6 ?_ d7 ?_ ⟨by omega, h20, fun l hl => ?_, ⟨by omega, d12⟩, by decide, by omega, fun _ => ⟨rfl, by rw [hz]; omega⟩, fun y => absurd y (by decide)⟩
  · rw [eM, s2_k (by omega), s2_k (by omega), plc_k (by omega), d9 z (by omega)]
  · rw [eM, s2_k (by decide), s2_at]; rfl
  · rw [eM, s2_at]; rfl
  · have hL := d11 l hl
    exact hL.tr (fun j hj => rfl) (fun j hj => Ml l j (by omega) hj) (by rw [Mx 3 (by decide), d8 3 (by decide)]) (by rw [Mx 4 (by decide), d8 4 (by decide)]) (Int.le_refl _) (fun y => hL.k8 y)
