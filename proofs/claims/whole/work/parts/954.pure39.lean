/-! questions on pieces and plans -/

theorem gapb_c {c : St} {b q i : Nat} {v : Int32} (hI : PI b q) (hD : Dm c) (hi : i < 21) (h0 : c (b + 2) (i * 16 + 0) = v) (hv : v = 0 ∨ v = 1) : f_Pa_gapBefore c b (nI i) = some (if i = 0 then 0 else v) := by
  unfold f_Pa_gapBefore
  rw [Jn_e, Jn_e]
  by_cases e : i = 0
  · rw [if_pos (show nI i = 0 by rw [e]; rfl), if_pos e]
    exact Gd_t (by decide)
  · rw [if_neg (nI_ne0 (by omega) (by omega)), if_neg e, rc_b1 hI, bd_e (lgg hI hD hi (by decide)), h0]
    rcases hv with y | y <;> rw [y]
    · rw [if_neg (by decide)]
      exact Gd_t (by decide)
    · rw [if_pos rfl]
      exact Gd_t (by decide)
theorem fresh_c {t : Nat} {c m c' m' : St} {p : Int32} {b q P n : Nat} {R : Int} (hA : AC t c m p b q P n c' m' R) : f_FL_freshPathOf c p = some (b, c') := by
  unfold f_FL_freshPathOf
  rw [bd_e (hA.bc c), bd_e hA.rf]
theorem Wc0 (m : St) (P i : Nat) : Wc m P i 0 = m 18 i := rfl
theorem Wc9 (m : St) (P i : Nat) : Wc m P i 9 = m 37 i := rfl
theorem Wc10 (m : St) (P i : Nat) : Wc m P i 10 = m 38 i := rfl
theorem Wc12 (m : St) (P i : Nat) : Wc m P i 12 = m 39 i := rfl
theorem Wc13 (m : St) (P i : Nat) : Wc m P i 13 = m 40 i := rfl
theorem Wc14 (m : St) (P i : Nat) : Wc m P i 14 = altv m i := rfl
theorem Wc15 (m : St) (P i : Nat) : Wc m P i 15 = vio m P i := rfl
theorem q_hasGap {t : Nat} {c m : St} (ht : t ≤ 511) (h : INV t c m) (p p2 : Int32) : AQ t (f_FL_hasGap c p p2) (m_hasGap m p p2) := by
  have hn0 : ∀ mm, f_FL_isLeg c p p2 = some 0 → m_isLegOf m p p2 = some (0, mm) → INV t c mm → AQ t (f_FL_hasGap c p p2) (m_hasGap m p p2) := fun mm e1 e2 e3 => by
    refine ⟨-1000001, c, mm, ?_, ?_, e3.up⟩
    · unfold f_FL_hasGap; rw [bd_e e1, if_pos rfl]
    · unfold m_hasGap; rw [bd_e e2, Jn_e, if_pos rfl]
  rcases acc ht h p with ⟨e1, e2⟩ | ⟨b, q, P, n, c', m', R, hA⟩
  · have := noleg (p2 := p2) e1 e2
    exact hn0 m this.1 this.2 h
  · rcases hA.leg p2 with ⟨e1, e2⟩ | ⟨i, hi, e, e1, e2⟩
    · exact hn0 m' e1 e2 hA.i2
    · have hn := hA.n20
      have hv := hA.W.an i hi
      have g21 : Ix (nI i) 21 := Ix_n (show i < 21 by omega) (by decide)
      subst e
      have hg := gapb_c (v := m' 18 i) hA.I hA.D' (show i < 21 by omega) (by rw [hA.V.lg i 0 hi (by decide), Wc0]) hv
      refine ⟨if i = 0 then 0 else m' 18 i, c', m', ?_, ?_, hA.i1.up⟩
      · unfold f_FL_hasGap
        rw [bd_e e1, if_neg n10, bd_e (fresh_c hA), bd_e hg, Jn_e]
        by_cases e0 : i = 0
        · rw [if_pos e0, if_pos rfl]
        · rw [if_neg e0]
          rcases hv with y | y <;> rw [y]
          · rw [if_pos rfl]
          · rw [if_neg (by decide)]
      · unfold m_hasGap
        rw [bd_e e2, Jn_e, if_neg p10, Jn_e]
        by_cases e0 : i = 0
        · rw [if_pos (show nI i ≤ 0 by rw [e0]; decide), if_pos e0]
        · rw [if_neg (nI_nle (by omega) (by omega)), Gd_t g21, if_neg e0]
          simp only [nI_clamp (show i < 2 ^ 31 by omega)]
          rcases hv with y | y <;> rw [y]
          · rw [if_pos rfl]
          · rw [if_neg (by decide)]
/-- the sum of the lengths up to a leg -/
def LU (m : St) : Nat → Int32
  | 0 => 0
  | k + 1 => LU m k + m 37 k
theorem lu_m {m : St} {l : Nat} (hl : l ≤ 21) (J : Int32 → Option Int32) : ∀ (d k g : Nat), k + d = l → d < g → lp (lb_m_lengthUpTo_4 m (nI l - 1) J) g (LU m k, nI k) = J (LU m l) := by
  intro d
  induction d with
  | zero =>
    intro k g hd hg
    have e : k = l := by omega
    subst e
    rw [lp_s hg]
    show (if nI k - 1 < nI k then J (LU m k) else _) = _
    rw [if_pos]
    apply Int32.lt_iff_toInt_lt.mpr
    have e0 : (nI k).toInt = (k : Int) := nI_toInt (by omega)
    have k1 : (1 : Int32).toInt = 1 := by decide
    rw [tI_sub (by omega) (by omega)]
    omega
  | succ d ih =>
    intro k g hd hg
    have e1 : nI l - (1 : Int32) = nI (l - 1) := pk_sub (a := l) (b := 1) (by omega)
    rw [lp_s (by omega)]
    show (if nI l - 1 < nI k then J (LU m k) else Gd (Ix (nI k) 21) <| Lt (LU m k + m 37 (Int32.toNatClampNeg (nI k))) fun x5 => Lt (nI k + (1 : Int32)) fun x6 => lp (lb_m_lengthUpTo_4 m (nI l - 1) J) (g - 1) (x5, x6)) = _
    rw [if_neg (by rw [e1]; exact nI_nlt (by omega) (by omega)), Gd_t (Ix_n (show k < 21 by omega) (by decide)), Lt_e, Lt_e, nI_1, nI_clamp (by omega)]
    exact ih (k + 1) (g - 1) (by omega) (by omega)
theorem lengthUpTo_e {m : St} {l : Nat} (hl : l ≤ 21) : m_lengthUpTo m (nI l - 1) = some (LU m l) := by
  unfold m_lengthUpTo
  rw [Jn_e]
  exact lu_m hl (fun x1 => some x1) l 0 4000 (by omega) (by omega)
theorem lu_c {c m : St} {b q P n l f0 : Nat} (hI : PI b q) (hD : Dm c) (hc : c q 1 = nI n) (hn : n ≤ 21) (hV : VR c m b P n) (hl : l ≤ n) (J : Int32 → Option Int32) : ∀ (d k g : Nat), k + d = l → d < g → ∀ s : Int32, lp (lb_f_Pa_lengthOf_5 c b (nI l - 1) J) g (s + LU m k, nI k) = J (s + LU m l) := by
  intro d
  induction d with
  | zero =>
    intro k g hd hg s
    have e : k = l := by omega
    subst e
    rw [lp_s hg]
    show (if nI k - 1 < nI k then J (s + LU m k) else _) = _
    rw [if_pos]
    apply Int32.lt_iff_toInt_lt.mpr
    have e0 : (nI k).toInt = (k : Int) := nI_toInt (by omega)
    have k1 : (1 : Int32).toInt = 1 := by decide
    rw [tI_sub (by omega) (by omega)]
    omega
  | succ d ih =>
    intro k g hd hg s
    have e1 : nI l - (1 : Int32) = nI (l - 1) := pk_sub (a := l) (b := 1) (by omega)
    rw [lp_s (by omega)]
    show (if nI l - 1 < nI k then J (s + LU m k) else if c (rc b 0) 1 ≤ nI k then J (s + LU m k) else Option.bind (f_Tb_get c (rc b 1) (nI k) (9 : Int32)) fun x5 => Lt (s + LU m k + x5) fun x6 => Lt (nI k + (1 : Int32)) fun x7 => lp (lb_f_Pa_lengthOf_5 c b (nI l - 1) J) (g - 1) (x6, x7)) = _
    rw [if_neg (by rw [e1]; exact nI_nlt (by omega) (by omega)), rc_b0 hI, if_neg (by rw [hc]; exact nI_ge (by omega) (by omega)), rc_b1 hI, bd_e (lgg hI hD (show k < 21 by omega) (by decide)), hV.lg k 9 (by omega) (by decide), Wc9, Lt_e, Lt_e, nI_1, Int32.add_assoc]
    exact ih (k + 1) (g - 1) (by omega) (by omega) s
theorem lengthOf_e {c m : St} {b q P n l : Nat} (hI : PI b q) (hD : Dm c) (hc : c q 1 = nI n) (hn : n ≤ 21) (hV : VR c m b P n) (hl : l ≤ n) : f_Pa_lengthOf c b 0 (nI l - 1) = some (LU m l) := by
  unfold f_Pa_lengthOf
  rw [Jn_e]
  have := lu_c (f0 := 0) hI hD hc hn hV hl (fun x1 => some x1) l 0 4000 (by omega) (by omega) 0
  rw [Int32.zero_add] at this
  refine Eq.trans this ?_
  rw [Int32.zero_add]
theorem q_lengthTo {t : Nat} {c m : St} (ht : t ≤ 511) (h : INV t c m) (p p2 : Int32) : AQ t (f_FL_lengthTo c p p2) (m_lengthTo m p p2) := by
  have hn0 : ∀ mm, f_FL_isLeg c p p2 = some 0 → m_isLegOf m p p2 = some (0, mm) → INV t c mm → AQ t (f_FL_lengthTo c p p2) (m_lengthTo m p p2) := fun mm e1 e2 e3 => by
    refine ⟨-1000001, c, mm, ?_, ?_, e3.up⟩
    · unfold f_FL_lengthTo; rw [bd_e e1, if_pos rfl]
    · unfold m_lengthTo; rw [bd_e e2, Jn_e, if_pos rfl]
  rcases acc ht h p with ⟨e1, e2⟩ | ⟨b, q, P, n, c', m', R, hA⟩
  · have := noleg (p2 := p2) e1 e2
    exact hn0 m this.1 this.2 h
  · rcases hA.leg p2 with ⟨e1, e2⟩ | ⟨i, hi, e, e1, e2⟩
    · exact hn0 m' e1 e2 hA.i2
    · have hn := hA.n20
      subst e
      have hp := nI_pred i
      have a1 := lengthOf_e hA.I hA.D' hA.cq' (by omega) hA.V (show i + 1 ≤ n by omega)
      have a2 := lengthUpTo_e (m := m') (show i + 1 ≤ 21 by omega)
      rw [hp] at a1 a2
      refine ⟨LU m' (i + 1), c', m', ?_, ?_, hA.i1.up⟩
      · unfold f_FL_lengthTo
        rw [bd_e e1, if_neg n10, bd_e (fresh_c hA), bd_e a1]
      · unfold m_lengthTo
        rw [bd_e e2, Jn_e, if_neg p10, bd_e a2]
theorem q_altitudeAt {t : Nat} {c m : St} (ht : t ≤ 511) (h : INV t c m) (p p2 p3 : Int32) : AQ t (f_FL_altitudeAt c p p2 p3) (m_altitudeAt m p p2 p3) := by
  have hn0 : ∀ mm, f_FL_isLeg c p p2 = some 0 → m_isLegOf m p p2 = some (0, mm) → INV t c mm → AQ t (f_FL_altitudeAt c p p2 p3) (m_altitudeAt m p p2 p3) := fun mm e1 e2 e3 => by
    refine ⟨-1000001, c, mm, ?_, ?_, e3.up⟩
    · unfold f_FL_altitudeAt; rw [bd_e e1, if_pos rfl]
    · unfold m_altitudeAt; rw [bd_e e2, if_pos rfl]
  rcases acc ht h p with ⟨e1, e2⟩ | ⟨b, q, P, n, c', m', R, hA⟩
  · have := noleg (p2 := p2) e1 e2
    exact hn0 m this.1 this.2 h
  · rcases hA.leg p2 with ⟨e1, e2⟩ | ⟨i, hi, e, e1, e2⟩
    · exact hn0 m' e1 e2 hA.i2
    · have hn := hA.n20
      have hI := hA.I
      have g21 : Ix (nI i) 21 := Ix_n (show i < 21 by omega) (by decide)
      subst e
      have w9 := hA.V.lg i 9 hi (by decide)
      have w13 := hA.V.lg i 13 hi (by decide)
      rw [Wc9] at w9
      rw [Wc13] at w13
      have keq : decide ((0 : Int32) ≤ p3 ∧ p3 ≤ m' 37 i) = decide ((0 : Int64) ≤ p3.toInt64 ∧ p3.toInt64 ≤ (m' 37 i).toInt64) := by
        apply decide_eq_decide.mpr
        rw [l_le]
        have : ((0 : Int64) ≤ p3.toInt64) ↔ (0 : Int32) ≤ p3 := by
          have := l_le (0 : Int32) p3
          exact this
        rw [this]
      unfold f_FL_altitudeAt m_altitudeAt
      rw [bd_e e1, if_neg n10, bd_e (fresh_c hA), rc_b1 hI, rc_b4 hI, bd_e (lgg hI hA.D' (show i < 21 by omega) (by decide)), w9, bd_e (within_e _ _ _), bd_e e2, if_neg p10, Gd_t g21]
      simp only [nI_clamp (show i < 2 ^ 31 by omega)]
      rw [bd_e (in_e _ _ _), keq]
      by_cases hh : decide ((0 : Int64) ≤ p3.toInt64 ∧ p3.toInt64 ≤ (m' 37 i).toInt64) = true
      · rw [hh]
        have hho : f_Pf_heightOn c' (b + 9) (nI i) p3 = some (imin (c' 1 4) (imin ((if i = 0 then c' 1 9 else c' (b + 2) ((i - 1) * 16 + 12)) + chg p3 (c' 1 6)) (m' 40 i + chg (m' 37 i - p3) (c' 1 7)))) := by
          unfold f_Pf_heightOn
          rw [rc_b92 hI, rc_b91 hI, bd_e (lgg hI hA.D' (show i < 21 by omega) (by decide)), w9, Lt_e, bd_e (hb_c hI hA.D' (show i < 21 by omega) (by decide)), bd_e (chg_c _ _), Lt_e, bd_e (lgg hI hA.D' (show i < 21 by omega) (by decide)), w13, bd_e (chg_c _ _), Lt_e]
        refine ⟨_, c', m', by rw [if_neg (show ¬ bi true = 0 by decide), bd_e hho], ?_, hA.i1.up⟩
        rw [if_neg (show ¬ bi true = 0 by decide)]
        refine (Jn_x (if i = 0 then c' 1 9 else c' (b + 2) ((i - 1) * 16 + 12)) (fun K => ?_)).trans ?_
        · by_cases e0 : i = 0
          · rw [if_pos (show nI i = 0 by rw [e0]; rfl), if_pos e0, hA.S.2.2.2.2.2.2.2.2.1.1]
          · have e1 : nI i - (1 : Int32) = nI (i - 1) := pk_sub (a := i) (b := 1) (by omega)
            rw [if_neg (nI_ne0 (by omega) (by omega)), if_neg e0, e1, Gd_t (Ix_n (show i - 1 < 21 by omega) (by decide)), nI_clamp (by omega), hA.V.lg (i - 1) 12 (by omega) (by decide), Wc12]
        · rw [bd_e (chg_m _ _), Lt_e, Gd_t g21, Gd_t g21, bd_e (chg_m _ _), Lt_e, bd_e (lesser_e _ _), bd_e (lesser_e _ _), ← hA.S.2.2.2.1.1, ← hA.S.2.2.2.2.2.1.1, ← hA.S.2.2.2.2.2.2.1.1]
      · rw [Bool.eq_false_iff.mpr hh]
        exact ⟨-1000002, c', m', by rw [if_pos (show bi false = 0 by decide)], by rw [if_pos (show bi false = 0 by decide)], hA.i1.up⟩
theorem q_legCount {t : Nat} {c m : St} (ht : t ≤ 511) (h : INV t c m) (p : Int32) : AV t c (f_FL_legCount c p) (m_legCount m p) := by
  rcases acc ht h p with ⟨e1, e2⟩ | ⟨b, q, P, n, c', m', R, hA⟩
  · refine ⟨-1000001, m, ?_, ?_, h.up⟩
    · unfold f_FL_legCount; rw [bd_e e1, Jn_e, if_pos rfl]
    · unfold m_legCount; rw [bd_e e2, Jn_e, if_pos rfl]
  · refine ⟨nI n, m', ?_, ?_, hA.i2.up⟩
    · unfold f_FL_legCount; rw [bd_e hA.pc, Jn_e, if_neg n10, bd_e (hA.qc c), hA.cq]
    · unfold m_legCount
      rw [bd_e hA.pm, Jn_e, if_neg p10, bd_e hA.Pm, bd_e (mcount hA.Pl)]
      dsimp only
      rw [hA.mq]
theorem q_legKind {t : Nat} {c m : St} (ht : t ≤ 511) (h : INV t c m) (p p2 : Int32) : AV t c (f_FL_legKind c p p2) (m_legKind m p p2) := by
  have hn0 : ∀ mm, f_FL_isLeg c p p2 = some 0 → m_isLegOf m p p2 = some (0, mm) → INV t c mm → AV t c (f_FL_legKind c p p2) (m_legKind m p p2) := fun mm e1 e2 e3 => by
    refine ⟨-1000001, mm, ?_, ?_, e3.up⟩
    · unfold f_FL_legKind f_FL_planValue; rw [bd_e e1, Jn_e, if_pos rfl]; rfl
    · unfold m_legKind; rw [bd_e e2, Jn_e, if_pos rfl]
  rcases acc ht h p with ⟨e1, e2⟩ | ⟨b, q, P, n, c', m', R, hA⟩
  · have := noleg (p2 := p2) e1 e2
    exact hn0 m this.1 this.2 h
  · rcases hA.leg p2 with ⟨e1, e2⟩ | ⟨i, hi, e, e1, e2⟩
    · exact hn0 m' e1 e2 hA.i2
    · have hn := hA.n20
      subst e
      obtain ⟨R0, hL⟩ := hA.lg
      obtain ⟨k, hk9, kc, km, -⟩ := (hL i hi).kd
      rw [hA.fq] at kc
      refine ⟨nI k, m', ?_, ?_, hA.i2.up⟩
      · unfold f_FL_legKind f_FL_planValue
        rw [bd_e e1, Jn_e, if_neg n10, bd_e (hA.qc c), rc_q0 hA.I, bd_e (pg hA.I hA.D (show i < 21 by omega) (by decide)), kc]
        rfl
      · unfold m_legKind
        rw [bd_e e2, Jn_e, if_neg p10, bd_e hA.Pm, bd_e (mof hA.Pl (show i < 21 by omega) (by decide))]
        dsimp only
        rw [km]
theorem q_legFix {t : Nat} {c m : St} (ht : t ≤ 511) (h : INV t c m) (p p2 : Int32) : AV t c (f_FL_legFix c p p2) (m_legFix m p p2) := by
  have hn0 : ∀ mm, f_FL_isLeg c p p2 = some 0 → m_isLegOf m p p2 = some (0, mm) → INV t c mm → AV t c (f_FL_legFix c p p2) (m_legFix m p p2) := fun mm e1 e2 e3 => by
    refine ⟨-1000001, mm, ?_, ?_, e3.up⟩
    · unfold f_FL_legFix f_FL_planValue; rw [bd_e e1, Jn_e, if_pos rfl]; rfl
    · unfold m_legFix; rw [bd_e e2, if_pos rfl]
  rcases acc ht h p with ⟨e1, e2⟩ | ⟨b, q, P, n, c', m', R, hA⟩
  · have := noleg (p2 := p2) e1 e2
    exact hn0 m this.1 this.2 h
  · rcases hA.leg p2 with ⟨e1, e2⟩ | ⟨i, hi, e, e1, e2⟩
    · exact hn0 m' e1 e2 hA.i2
    · have hn := hA.n20
      subst e
      obtain ⟨R0, hL⟩ := hA.lg
      obtain ⟨k, hk9, kc, km, kf, kn, -⟩ := (hL i hi).kd
      have hf := hasFix_e hk9
      have hcl : ∀ v, c (q + 2) (i * 14 + 1) = v → f_FL_legFix c p (nI i) = some v := fun v hv => by
        unfold f_FL_legFix f_FL_planValue
        rw [bd_e e1, Jn_e, if_neg n10, bd_e (hA.qc c), rc_q0 hA.I, bd_e (pg hA.I hA.D (show i < 21 by omega) (by decide)), hv]
        rfl
      by_cases hx : hfx k
      · obtain ⟨f, F, -, -, -, fc, fm, -⟩ := kf hx
        rw [hA.fq] at fc
        refine ⟨nI f, m', hcl _ fc, ?_, hA.i2.up⟩
        unfold m_legFix
        rw [bd_e e2, if_neg p10, bd_e hA.Pm, bd_e (mof hA.Pl (show i < 21 by omega) (by decide))]
        dsimp only
        rw [km, bd_e (hf.1 hx), Jn_e, if_neg n10, bd_e hA.Pm, bd_e (mof hA.Pl (show i < 21 by omega) (by decide)), fm]
      · have fc := kn hx
        rw [hA.fq] at fc
        refine ⟨-1000000, m', hcl _ fc, ?_, hA.i2.up⟩
        unfold m_legFix
        rw [bd_e e2, if_neg p10, bd_e hA.Pm, bd_e (mof hA.Pl (show i < 21 by omega) (by decide))]
        dsimp only
        rw [km, bd_e (hf.2 hx), Jn_e, if_pos rfl]
