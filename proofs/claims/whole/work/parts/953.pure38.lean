/-! questions on a leg -/

theorem op2 (o : Option (Int32 × St)) : (Option.bind o fun x => some (x.1, x.2)) = o := by cases o <;> rfl
theorem op1 (o : Option Int32) : (Option.bind o fun x => some x) = o := by cases o <;> rfl
theorem legq {t : Nat} {c m : St} (ht : t ≤ 511) (h : INV t c m) {p p2 : Int32} {l : Nat} (hl : l < 16) {mq : Option (Int32 × St)} (hno : ∀ mm, m_isLegOf m p p2 = some (0, mm) → mq = some (-1000001, mm)) (hyes : ∀ b q P n c' m' R i, AC t c m p b q P n c' m' R → i < n → p2 = nI i → m_isLegOf m p p2 = some (1, m') → mq = some (Wc m' P i l, m')) : AQ t (f_FL_pathValue c p p2 (OfNat.ofNat l)) mq := by
  have hn0 : ∀ mm, f_FL_isLeg c p p2 = some 0 → m_isLegOf m p p2 = some (0, mm) → INV t c mm → AQ t (f_FL_pathValue c p p2 (OfNat.ofNat l)) mq := fun mm e1 e2 e3 => by
    refine ⟨-1000001, c, mm, ?_, hno mm e2, e3.up⟩
    unfold f_FL_pathValue
    rw [bd_e e1, if_pos rfl]
  rcases acc ht h p with ⟨e1, e2⟩ | ⟨b, q, P, n, c', m', R, hA⟩
  · have := noleg (p2 := p2) e1 e2
    exact hn0 m this.1 this.2 h
  · rcases hA.leg p2 with ⟨e1, e2⟩ | ⟨i, hi, e, e1, e2⟩
    · exact hn0 m' e1 e2 hA.i2
    · have hn := hA.n20
      refine ⟨_, c', m', ?_, hyes b q P n c' m' R i hA hi e e2, hA.i1.up⟩
      unfold f_FL_pathValue
      rw [bd_e e1, if_neg n10, bd_e (hA.bc c), bd_e hA.rf, rc_b1 hA.I, e, bd_e (lgg hA.I hA.D' (show i < 21 by omega) hl), hA.V.lg i l hi hl]
theorem seg_of {m' : St} {P n i : Nat} {R : Int} (hW : WF m' P R n) (hi : i < n) (hn : n ≤ 20) : (m' 22 i < m' 22 (i + 1) ∧ m_segmentOf m' (nI i) = some (m' 22 i) ∧ 0 ≤ m' 22 i ∧ Ix (m' 22 i) 42) ∨ (¬ m' 22 i < m' 22 (i + 1) ∧ m_segmentOf m' (nI i) = some (-1)) := by
  obtain ⟨f, f42, fe, fm⟩ := hW.fs
  have hmo := mono_at (f := f) (n := n) fm (n - (i + 1)) (i + 1) (by omega)
  rw [show i + 1 + (n - (i + 1)) = n by omega] at hmo
  have e1 := fe i (by omega)
  have e2 := fe (i + 1) (by omega)
  have h1 := fm i hi
  unfold m_segmentOf
  rw [Gd_t (Ix_n (show i < 22 by omega) (by decide)), nI_1, Gd_t (Ix_n (show i + 1 < 22 by omega) (by decide)), Jn_e]
  simp only [nI_clamp (show i < 2 ^ 31 by omega), nI_clamp (show i + 1 < 2 ^ 31 by omega)]
  rw [e1, e2]
  by_cases h : f i < f (i + 1)
  · left
    exact ⟨nI_lt h (by omega), by rw [if_neg (nI_ge h (by omega)), Gd_t (Ix_n (show i < 22 by omega) (by decide))], nI_pos' (by omega), Ix_n (by omega) (by decide)⟩
  · right
    exact ⟨nI_nlt (by omega) (by omega), by rw [if_pos (nI_le (by omega) (by omega))]⟩
theorem crs_loop {x1 : Int32 × St} {i p : Nat} (h57 : x1.2 0 57 = nI p) (hp : p ≤ 126) (J : Int32 → Option (Int32 × St)) : ∀ (d k g : Nat), k + d = p → d < g → lp (lb_m_legCourse_20 (nI i) x1 J) g (LCr x1.2 i k, nI k) = J (LCr x1.2 i p) := by
  intro d
  induction d with
  | zero =>
    intro k g hd hg
    have e : k = p := by omega
    subst e
    rw [lp_s hg]
    show (if x1.2 0 57 ≤ nI k then J (LCr x1.2 i k) else _) = _
    rw [if_pos (by rw [h57]; exact Int32.le_refl _)]
  | succ d ih =>
    intro k g hd hg
    have g1 : Ix (nI k) 180 := Ix_n (show k < 180 by omega) (by decide)
    have key : ∀ ih : Int32 × Int32 → Option (Int32 × St), lb_m_legCourse_20 (nI i) x1 J ih (LCr x1.2 i k, nI k) = ih (LCr x1.2 i (k + 1), nI (k + 1)) := by
      intro ih
      show _ = ih ((if x1.2 29 k = nI i then x1.2 32 k else LCr x1.2 i k), nI (k + 1))
      unfold lb_m_legCourse_20
      simp only [nI_clamp (show k < 2 ^ 31 by omega)]
      rw [if_neg (by rw [h57]; exact nI_ge (by omega) (by omega)), Gd_t g1, Jn_e]
      by_cases e : x1.2 29 k = nI i
      · rw [if_pos e, Gd_t g1, if_pos e]
        dsimp only
        rw [Lt_e, nI_1]
      · rw [if_neg e, if_neg e]
        dsimp only
        rw [Lt_e, nI_1]
    rw [lp_s (by omega), key]
    exact ih (k + 1) (g - 1) (by omega) (by omega)
theorem q_endX {t : Nat} {c m : St} (ht : t ≤ 511) (h : INV t c m) (p p2 : Int32) : AQ t (f_FL_endX c p p2) (m_endX m p p2) := by
  unfold f_FL_endX
  rw [op2]
  refine legq (l := 2) ht h (by decide) (fun mm e => ?_) (fun b q P n c' m' R i hA hi e e2 => ?_)
  · unfold m_endX
    rw [bd_e e]
    first | (rw [if_pos rfl]; done) | (rw [Jn_e, if_pos rfl])
  · have hn := hA.n20
    have g21 : Ix (nI i) 21 := Ix_n (show i < 21 by omega) (by decide)
    subst e
    unfold m_endX Wc
    rw [bd_e e2, Jn_e, if_neg p10, Gd_t g21]
    simp only [nI_clamp (show i < 2 ^ 31 by omega)]
    rcases hA.W.en i hi with y | y
    · rw [if_pos y, y]
      rfl
    · rw [if_neg (by rw [y]; decide), Gd_t g21, y]
      rfl
theorem q_endY {t : Nat} {c m : St} (ht : t ≤ 511) (h : INV t c m) (p p2 : Int32) : AQ t (f_FL_endY c p p2) (m_endY m p p2) := by
  unfold f_FL_endY
  rw [op2]
  refine legq (l := 3) ht h (by decide) (fun mm e => ?_) (fun b q P n c' m' R i hA hi e e2 => ?_)
  · unfold m_endY
    rw [bd_e e]
    first | (rw [if_pos rfl]; done) | (rw [Jn_e, if_pos rfl])
  · have hn := hA.n20
    have g21 : Ix (nI i) 21 := Ix_n (show i < 21 by omega) (by decide)
    subst e
    unfold m_endY Wc
    rw [bd_e e2, Jn_e, if_neg p10, Gd_t g21]
    simp only [nI_clamp (show i < 2 ^ 31 by omega)]
    rcases hA.W.en i hi with y | y
    · rw [if_pos y, y]
      rfl
    · rw [if_neg (by rw [y]; decide), Gd_t g21, y]
      rfl
theorem q_turnKind {t : Nat} {c m : St} (ht : t ≤ 511) (h : INV t c m) (p p2 : Int32) : AQ t (f_FL_turnKind c p p2) (m_turnKind m p p2) := by
  unfold f_FL_turnKind
  rw [op2]
  refine legq (l := 4) ht h (by decide) (fun mm e => ?_) (fun b q P n c' m' R i hA hi e e2 => ?_)
  · unfold m_turnKind
    rw [bd_e e]
    first | (rw [if_pos rfl]; done) | (rw [Jn_e, if_pos rfl])
  · have hn := hA.n20
    have g21 : Ix (nI i) 21 := Ix_n (show i < 21 by omega) (by decide)
    subst e
    unfold m_turnKind Wc
    rw [bd_e e2, if_neg p10]
    rcases seg_of hA.W hi hn with ⟨y1, y2, y3, y4⟩ | ⟨y1, y2⟩
    · rw [bd_e y2, Jn_e, if_pos y3, bd_e y2, Gd_t y4]
      show some (m' 24 (m' 22 i).toNatClampNeg, m') = some ((if m' 22 i < m' 22 (i + 1) then m' 24 (m' 22 i).toNatClampNeg else 0), m')
      rw [if_pos y1]
    · rw [bd_e y2, Jn_e, if_neg (by decide)]
      show some (0, m') = some ((if m' 22 i < m' 22 (i + 1) then m' 24 (m' 22 i).toNatClampNeg else 0), m')
      rw [if_neg y1]
theorem q_turnSteps {t : Nat} {c m : St} (ht : t ≤ 511) (h : INV t c m) (p p2 : Int32) : AQ t (f_FL_turnSteps c p p2) (m_turnSteps m p p2) := by
  unfold f_FL_turnSteps
  rw [op2]
  refine legq (l := 5) ht h (by decide) (fun mm e => ?_) (fun b q P n c' m' R i hA hi e e2 => ?_)
  · unfold m_turnSteps
    rw [bd_e e]
    first | (rw [if_pos rfl]; done) | (rw [Jn_e, if_pos rfl])
  · have hn := hA.n20
    have g21 : Ix (nI i) 21 := Ix_n (show i < 21 by omega) (by decide)
    subst e
    unfold m_turnSteps Wc
    rw [bd_e e2, if_neg p10]
    rcases seg_of hA.W hi hn with ⟨y1, y2, y3, y4⟩ | ⟨y1, y2⟩
    · rw [bd_e y2, Jn_e, if_pos y3, bd_e y2, Gd_t y4]
      show some (m' 25 (m' 22 i).toNatClampNeg, m') = some ((if m' 22 i < m' 22 (i + 1) then m' 25 (m' 22 i).toNatClampNeg else 0), m')
      rw [if_pos y1]
    · rw [bd_e y2, Jn_e, if_neg (by decide)]
      show some (0, m') = some ((if m' 22 i < m' 22 (i + 1) then m' 25 (m' 22 i).toNatClampNeg else 0), m')
      rw [if_neg y1]
theorem q_turnRadius {t : Nat} {c m : St} (ht : t ≤ 511) (h : INV t c m) (p p2 : Int32) : AQ t (f_FL_turnRadius c p p2) (m_turnRadius m p p2) := by
  unfold f_FL_turnRadius
  rw [op2]
  refine legq (l := 6) ht h (by decide) (fun mm e => ?_) (fun b q P n c' m' R i hA hi e e2 => ?_)
  · unfold m_turnRadius
    rw [bd_e e]
    first | (rw [if_pos rfl]; done) | (rw [Jn_e, if_pos rfl])
  · have hn := hA.n20
    have g21 : Ix (nI i) 21 := Ix_n (show i < 21 by omega) (by decide)
    subst e
    unfold m_turnRadius Wc
    rw [bd_e e2, if_neg p10]
    rcases seg_of hA.W hi hn with ⟨y1, y2, y3, y4⟩ | ⟨y1, y2⟩
    · rw [bd_e y2, Jn_e, if_pos y3, bd_e y2, Gd_t y4]
      show some (m' 26 (m' 22 i).toNatClampNeg, m') = some ((if m' 22 i < m' 22 (i + 1) then m' 26 (m' 22 i).toNatClampNeg else 0), m')
      rw [if_pos y1]
    · rw [bd_e y2, Jn_e, if_neg (by decide)]
      show some (0, m') = some ((if m' 22 i < m' 22 (i + 1) then m' 26 (m' 22 i).toNatClampNeg else 0), m')
      rw [if_neg y1]
theorem q_turnLead {t : Nat} {c m : St} (ht : t ≤ 511) (h : INV t c m) (p p2 : Int32) : AQ t (f_FL_turnLead c p p2) (m_turnLead m p p2) := by
  unfold f_FL_turnLead
  rw [op2]
  refine legq (l := 7) ht h (by decide) (fun mm e => ?_) (fun b q P n c' m' R i hA hi e e2 => ?_)
  · unfold m_turnLead
    rw [bd_e e]
    first | (rw [if_pos rfl]; done) | (rw [Jn_e, if_pos rfl])
  · have hn := hA.n20
    have g21 : Ix (nI i) 21 := Ix_n (show i < 21 by omega) (by decide)
    subst e
    unfold m_turnLead Wc
    rw [bd_e e2, if_neg p10]
    rcases seg_of hA.W hi hn with ⟨y1, y2, y3, y4⟩ | ⟨y1, y2⟩
    · rw [bd_e y2, Jn_e, if_pos y3, bd_e y2, Gd_t y4]
      show some (m' 27 (m' 22 i).toNatClampNeg, m') = some ((if m' 22 i < m' 22 (i + 1) then m' 27 (m' 22 i).toNatClampNeg else 0), m')
      rw [if_pos y1]
    · rw [bd_e y2, Jn_e, if_neg (by decide)]
      show some (0, m') = some ((if m' 22 i < m' 22 (i + 1) then m' 27 (m' 22 i).toNatClampNeg else 0), m')
      rw [if_neg y1]
theorem q_holdEntry {t : Nat} {c m : St} (ht : t ≤ 511) (h : INV t c m) (p p2 : Int32) : AQ t (f_FL_holdEntry c p p2) (m_holdEntry m p p2) := by
  unfold f_FL_holdEntry
  rw [op2]
  refine legq (l := 8) ht h (by decide) (fun mm e => ?_) (fun b q P n c' m' R i hA hi e e2 => ?_)
  · unfold m_holdEntry
    rw [bd_e e]
    first | (rw [if_pos rfl]; done) | (rw [Jn_e, if_pos rfl])
  · have hn := hA.n20
    have g21 : Ix (nI i) 21 := Ix_n (show i < 21 by omega) (by decide)
    subst e
    unfold m_holdEntry Wc
    rw [bd_e e2, if_neg p10, bd_e hA.Pm, bd_e (mof hA.Pl (show i < 21 by omega) (by decide)), Jn_e]
    show _ = some ((if m' 1 (P + 3 + 14 * i + 0) = 7 then (m_entry (m' 23 i) (m' 1 (P + 3 + 14 * i + 2)) (m' 1 (P + 3 + 14 * i + 4))).getD 0 else -1000000), m')
    by_cases k7 : m' 1 (P + 3 + 14 * i + 0) = 7
    · obtain ⟨e, e3, em⟩ := hA.W.h7 i hi k7
      obtain ⟨R0, hL⟩ := hA.lg
      obtain ⟨w, w1, -, wm⟩ := (hL i hi).rgt
      have heo : m_entryOf m' (nI P) (nI i) = some (nI e) := by
        unfold m_entryOf
        rw [Gd_t g21, bd_e (mof hA.Pl (show i < 21 by omega) (by decide)), bd_e (mof hA.Pl (show i < 21 by omega) (by decide)), Jn_if, nI_clamp (by omega)]
        have : (if m' 1 (P + 3 + 14 * i + 4) = (1 : Int32) then (1 : Int32) else 0) = m' 1 (P + 3 + 14 * i + 4) := by
          rw [wm]
          rcases i01 w1 with q | q <;> rw [q] <;> decide
        rw [this, bd_e em]
      rw [if_pos k7, bd_e hA.Pm, bd_e heo, if_pos k7, em]
      rfl
    · rw [if_neg k7, if_neg k7]
theorem q_legLength {t : Nat} {c m : St} (ht : t ≤ 511) (h : INV t c m) (p p2 : Int32) : AQ t (f_FL_legLength c p p2) (m_legLength m p p2) := by
  unfold f_FL_legLength
  rw [op2]
  refine legq (l := 9) ht h (by decide) (fun mm e => ?_) (fun b q P n c' m' R i hA hi e e2 => ?_)
  · unfold m_legLength
    rw [bd_e e]
    first | (rw [if_pos rfl]; done) | (rw [Jn_e, if_pos rfl])
  · have hn := hA.n20
    have g21 : Ix (nI i) 21 := Ix_n (show i < 21 by omega) (by decide)
    subst e
    unfold m_legLength Wc
    rw [bd_e e2, Jn_e, if_neg p10, Gd_t g21, nI_clamp (by omega)]
    rfl
theorem q_legTime {t : Nat} {c m : St} (ht : t ≤ 511) (h : INV t c m) (p p2 : Int32) : AQ t (f_FL_legTime c p p2) (m_legTime m p p2) := by
  unfold f_FL_legTime
  rw [op2]
  refine legq (l := 10) ht h (by decide) (fun mm e => ?_) (fun b q P n c' m' R i hA hi e e2 => ?_)
  · unfold m_legTime
    rw [bd_e e]
    first | (rw [if_pos rfl]; done) | (rw [Jn_e, if_pos rfl])
  · have hn := hA.n20
    have g21 : Ix (nI i) 21 := Ix_n (show i < 21 by omega) (by decide)
    subst e
    unfold m_legTime Wc
    rw [bd_e e2, Jn_e, if_neg p10, Gd_t g21, nI_clamp (by omega)]
    rfl
theorem q_legCourse {t : Nat} {c m : St} (ht : t ≤ 511) (h : INV t c m) (p p2 : Int32) : AQ t (f_FL_legCourse c p p2) (m_legCourse m p p2) := by
  unfold f_FL_legCourse
  rw [op2]
  refine legq (l := 11) ht h (by decide) (fun mm e => ?_) (fun b q P n c' m' R i hA hi e e2 => ?_)
  · unfold m_legCourse
    rw [bd_e e]
    first | (rw [if_pos rfl]; done) | (rw [Jn_e, if_pos rfl])
  · have hn := hA.n20
    have g21 : Ix (nI i) 21 := Ix_n (show i < 21 by omega) (by decide)
    subst e
    unfold m_legCourse Wc
    obtain ⟨pp, p126, p57, -⟩ := hA.W.pc
    rw [bd_e e2, if_neg p10, Jn_e]
    have hl := crs_loop (x1 := ((1 : Int32), m')) (i := i) (p := pp) p57 p126 (fun (x2 : Int32) => some (x2, m')) pp 0 4000 (by omega) (by omega)
    refine Eq.trans hl ?_
    show some (LCr m' i pp, m') = some (LCr m' i (m' 0 57).toNatClampNeg, m')
    rw [p57, nI_clamp (by omega)]
theorem q_climbAltitude {t : Nat} {c m : St} (ht : t ≤ 511) (h : INV t c m) (p p2 : Int32) : AQ t (f_FL_climbAltitude c p p2) (m_climbAltitude m p p2) := by
  unfold f_FL_climbAltitude
  rw [op2]
  refine legq (l := 12) ht h (by decide) (fun mm e => ?_) (fun b q P n c' m' R i hA hi e e2 => ?_)
  · unfold m_climbAltitude
    rw [bd_e e]
    first | (rw [if_pos rfl]; done) | (rw [Jn_e, if_pos rfl])
  · have hn := hA.n20
    have g21 : Ix (nI i) 21 := Ix_n (show i < 21 by omega) (by decide)
    subst e
    unfold m_climbAltitude Wc
    rw [bd_e e2, Jn_e, if_neg p10, Gd_t g21, nI_clamp (by omega)]
    rfl
theorem q_descentAltitude {t : Nat} {c m : St} (ht : t ≤ 511) (h : INV t c m) (p p2 : Int32) : AQ t (f_FL_descentAltitude c p p2) (m_descentAltitude m p p2) := by
  unfold f_FL_descentAltitude
  rw [op2]
  refine legq (l := 13) ht h (by decide) (fun mm e => ?_) (fun b q P n c' m' R i hA hi e e2 => ?_)
  · unfold m_descentAltitude
    rw [bd_e e]
    first | (rw [if_pos rfl]; done) | (rw [Jn_e, if_pos rfl])
  · have hn := hA.n20
    have g21 : Ix (nI i) 21 := Ix_n (show i < 21 by omega) (by decide)
    subst e
    unfold m_descentAltitude Wc
    rw [bd_e e2, Jn_e, if_neg p10, Gd_t g21, nI_clamp (by omega)]
    rfl
theorem q_altitude {t : Nat} {c m : St} (ht : t ≤ 511) (h : INV t c m) (p p2 : Int32) : AQ t (f_FL_altitude c p p2) (m_altitude m p p2) := by
  unfold f_FL_altitude
  rw [op2]
  refine legq (l := 14) ht h (by decide) (fun mm e => ?_) (fun b q P n c' m' R i hA hi e e2 => ?_)
  · unfold m_altitude
    rw [bd_e e]
    first | (rw [if_pos rfl]; done) | (rw [Jn_e, if_pos rfl])
  · have hn := hA.n20
    have g21 : Ix (nI i) 21 := Ix_n (show i < 21 by omega) (by decide)
    subst e
    unfold m_altitude Wc
    rw [bd_e e2, Jn_e, if_neg p10, bd_e (alt_m (show i < 21 by omega))]
    rfl
theorem q_violation {t : Nat} {c m : St} (ht : t ≤ 511) (h : INV t c m) (p p2 : Int32) : AQ t (f_FL_violation c p p2) (m_violation m p p2) := by
  unfold f_FL_violation
  rw [op2]
  refine legq (l := 15) ht h (by decide) (fun mm e => ?_) (fun b q P n c' m' R i hA hi e e2 => ?_)
  · unfold m_violation
    rw [bd_e e]
    first | (rw [if_pos rfl]; done) | (rw [Jn_e, if_pos rfl])
  · have hn := hA.n20
    have g21 : Ix (nI i) 21 := Ix_n (show i < 21 by omega) (by decide)
    subst e
    unfold m_violation Wc
    rw [bd_e e2, Jn_e, if_neg p10, bd_e hA.Pm, bd_e (vio_m hA.Pl (show i < 21 by omega))]
    rfl
