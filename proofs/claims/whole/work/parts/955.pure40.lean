/-! pieces, counts, totals -/

theorem isPiece {t : Nat} {c m c' m' : St} {p : Int32} {b q P n : Nat} {R : Int} (h : AC t c m p b q P n c' m' R) (p2 : Int32) : (f_FL_within p2 0 (c' (b + 6) 5 - 1) = some 0 ∧ m_isPieceOf m p p2 = some (0, m')) ∨ ∃ k pp, k < pp ∧ pp ≤ 126 ∧ m' 0 57 = nI pp ∧ p2 = nI k ∧ f_FL_within p2 0 (c' (b + 6) 5 - 1) = some 1 ∧ m_isPieceOf m p p2 = some (1, m') := by
  obtain ⟨pp, h126, h57, -⟩ := h.W.pc
  have hc := h.V.pc
  rw [h57] at hc
  have k1 : (1 : Int32).toInt = 1 := by decide
  have e0 : (nI pp).toInt = (pp : Int) := nI_toInt (by omega)
  have en : (nI pp - (1 : Int32)).toInt = (pp : Int) - 1 := by rw [tI_sub (by omega) (by omega), e0, k1]
  have key : ((0 : Int64) ≤ p2.toInt64 ∧ p2.toInt64 ≤ (nI pp - (1 : Int32)).toInt64) ↔ (0 ≤ p2 ∧ p2 < nI pp) := by
    rw [Int64.le_iff_toInt_le, Int64.le_iff_toInt_le, tw, tw, en, Int32.le_iff_toInt_le, Int32.lt_iff_toInt_lt, e0, show (0 : Int64).toInt = 0 by decide, show (0 : Int32).toInt = 0 by decide]
    omega
  have key2 : ((0 : Int32) ≤ p2 ∧ p2 ≤ nI pp - 1) ↔ (0 ≤ p2 ∧ p2 < nI pp) := by
    rw [Int32.le_iff_toInt_le, Int32.le_iff_toInt_le, Int32.lt_iff_toInt_lt, en, e0, show (0 : Int32).toInt = 0 by decide]
    omega
  rw [hc]
  rcases lg_case pp (by omega) p2 with ⟨k, hk, e⟩ | e
  · right
    have hin : 0 ≤ p2 ∧ p2 < nI pp := by rw [e]; exact ⟨nI_pos' (by omega), nI_lt hk (by omega)⟩
    refine ⟨k, pp, hk, h126, h57, e, ?_, ?_⟩
    · rw [within_e, decide_eq_true (key2.mpr hin)]; rfl
    · unfold m_isPieceOf
      rw [bd_e h.pm, Jn_e, Jn_e, if_neg p10]
      dsimp only
      rw [h57, bd_e (in_e _ _ _), decide_eq_true (key.mpr hin), if_neg (show ¬ bi true = 0 by decide)]
      exact Gd_t (by decide)
  · left
    refine ⟨?_, ?_⟩
    · rw [within_e, decide_eq_false (fun q => e (key2.mp q))]; rfl
    · unfold m_isPieceOf
      rw [bd_e h.pm, Jn_e, Jn_e, if_neg p10]
      dsimp only
      rw [h57, bd_e (in_e _ _ _), decide_eq_false (fun q => e (key.mp q)), if_pos (show bi false = 0 by decide)]
      exact Gd_t (by decide)
theorem pieceq {t : Nat} {c m : St} (ht : t ≤ 511) (h : INV t c m) {p p2 : Int32} {l : Nat} (hl : l < 8) {mq : Option (Int32 × St)} (hno : ∀ mm, m_isPieceOf m p p2 = some (0, mm) → mq = some (-1000001, mm)) (hyes : ∀ m' k, k < 180 → p2 = nI k → m_isPieceOf m p p2 = some (1, m') → mq = some (m' (29 + l) k, m')) : AQ t (f_FL_pieceValue c p p2 (OfNat.ofNat l)) mq := by
  rcases acc ht h p with ⟨e1, e2⟩ | ⟨b, q, P, n, c', m', R, hA⟩
  · refine ⟨-1000001, c, m, ?_, hno m ?_, h.up⟩
    · unfold f_FL_pieceValue; rw [bd_e e1, if_pos rfl]
    · unfold m_isPieceOf
      rw [bd_e e2, Jn_e, Jn_e, if_pos rfl]
      exact Gd_t (by decide)
  · have hI := hA.I
    have hpre : f_FL_pieceValue c p p2 (OfNat.ofNat l) = Option.bind (f_FL_within p2 0 (c' (b + 6) 5 - 1)) fun x4 => Jn (fun (x5 : Int32) => some (x5, c')) fun J6 => if (x4 : Int32) = 0 then (J6 (-1000001 : Int32)) else (Option.bind (f_Tb_get c' (b + 7) p2 (OfNat.ofNat l)) fun x7 => J6 x7) := by
      unfold f_FL_pieceValue
      rw [bd_e hA.pc, if_neg n10, bd_e (hA.bc c), bd_e hA.rf, rc_b3 hI, rc_b64 hI]
    rcases isPiece hA p2 with ⟨e1, e2⟩ | ⟨k, pp, hk, h126, h57, e, e1, e2⟩
    · exact ⟨-1000001, c', m', by rw [hpre, bd_e e1, Jn_e, if_pos rfl], hno m' e2, hA.i1.up⟩
    · refine ⟨m' (29 + l) k, c', m', ?_, hyes m' k (by omega) e e2, hA.i1.up⟩
      rw [hpre, bd_e e1, Jn_e, if_neg n10, e, bd_e (pcg hI hA.D' (show k < 126 by omega) hl), hA.V.pr k l (by rw [h57, nI_clamp (by omega)]; exact hk) hl]
theorem q_pieceLeg {t : Nat} {c m : St} (ht : t ≤ 511) (h : INV t c m) (p p2 : Int32) : AQ t (f_FL_pieceLeg c p p2) (m_pieceLeg m p p2) := by
  unfold f_FL_pieceLeg
  rw [op2]
  refine pieceq (l := 0) ht h (by decide) (fun mm e => ?_) (fun m' k hk e e2 => ?_)
  · unfold m_pieceLeg
    rw [bd_e e, Jn_e, if_pos rfl]
  · unfold m_pieceLeg
    rw [bd_e e2, Jn_e, if_neg p10, e, Gd_t (Ix_n hk (by decide)), nI_clamp (by omega)]
theorem q_pieceKind {t : Nat} {c m : St} (ht : t ≤ 511) (h : INV t c m) (p p2 : Int32) : AQ t (f_FL_pieceKind c p p2) (m_pieceKind m p p2) := by
  unfold f_FL_pieceKind
  rw [op2]
  refine pieceq (l := 1) ht h (by decide) (fun mm e => ?_) (fun m' k hk e e2 => ?_)
  · unfold m_pieceKind
    rw [bd_e e, Jn_e, if_pos rfl]
  · unfold m_pieceKind
    rw [bd_e e2, Jn_e, if_neg p10, e, Gd_t (Ix_n hk (by decide)), nI_clamp (by omega)]
theorem q_pieceLength {t : Nat} {c m : St} (ht : t ≤ 511) (h : INV t c m) (p p2 : Int32) : AQ t (f_FL_pieceLength c p p2) (m_pieceLength m p p2) := by
  unfold f_FL_pieceLength
  rw [op2]
  refine pieceq (l := 2) ht h (by decide) (fun mm e => ?_) (fun m' k hk e e2 => ?_)
  · unfold m_pieceLength
    rw [bd_e e, Jn_e, if_pos rfl]
  · unfold m_pieceLength
    rw [bd_e e2, Jn_e, if_neg p10, e, Gd_t (Ix_n hk (by decide)), nI_clamp (by omega)]
theorem q_pieceCourse {t : Nat} {c m : St} (ht : t ≤ 511) (h : INV t c m) (p p2 : Int32) : AQ t (f_FL_pieceCourse c p p2) (m_pieceCourse m p p2) := by
  unfold f_FL_pieceCourse
  rw [op2]
  refine pieceq (l := 3) ht h (by decide) (fun mm e => ?_) (fun m' k hk e e2 => ?_)
  · unfold m_pieceCourse
    rw [bd_e e, Jn_e, if_pos rfl]
  · unfold m_pieceCourse
    rw [bd_e e2, Jn_e, if_neg p10, e, Gd_t (Ix_n hk (by decide)), nI_clamp (by omega)]
theorem q_pieceX {t : Nat} {c m : St} (ht : t ≤ 511) (h : INV t c m) (p p2 : Int32) : AQ t (f_FL_pieceX c p p2) (m_pieceX m p p2) := by
  unfold f_FL_pieceX
  rw [op2]
  refine pieceq (l := 6) ht h (by decide) (fun mm e => ?_) (fun m' k hk e e2 => ?_)
  · unfold m_pieceX
    rw [bd_e e, Jn_e, if_pos rfl]
  · unfold m_pieceX
    rw [bd_e e2, Jn_e, if_neg p10, e, Gd_t (Ix_n hk (by decide)), nI_clamp (by omega)]
theorem q_pieceY {t : Nat} {c m : St} (ht : t ≤ 511) (h : INV t c m) (p p2 : Int32) : AQ t (f_FL_pieceY c p p2) (m_pieceY m p p2) := by
  unfold f_FL_pieceY
  rw [op2]
  refine pieceq (l := 7) ht h (by decide) (fun mm e => ?_) (fun m' k hk e e2 => ?_)
  · unfold m_pieceY
    rw [bd_e e, Jn_e, if_pos rfl]
  · unfold m_pieceY
    rw [bd_e e2, Jn_e, if_neg p10, e, Gd_t (Ix_n hk (by decide)), nI_clamp (by omega)]
theorem q_pieceCount {t : Nat} {c m : St} (ht : t ≤ 511) (h : INV t c m) (p : Int32) : AQ t (f_FL_pieceCount c p) (m_pieceCount m p) := by
  rcases acc ht h p with ⟨e1, e2⟩ | ⟨b, q, P, n, c', m', R, hA⟩
  · refine ⟨-1000001, c, m, ?_, ?_, h.up⟩
    · unfold f_FL_pieceCount
      rw [bd_e e1]
      first | (rw [if_pos rfl]; done) | (rw [Jn_e, if_pos rfl])
    · unfold m_pieceCount
      rw [bd_e e2]
      first | (rw [if_pos rfl]; done) | (rw [Jn_e, if_pos rfl])
  · have hn := hA.n20
    have hI := hA.I
    refine ⟨m' 0 57, c', m', ?_, ?_, hA.i1.up⟩
    · unfold f_FL_pieceCount
      rw [bd_e hA.pc, Jn_e, if_neg n10, bd_e (fresh_c hA)]
      dsimp only
      rw [rc_b3 hI, hA.V.pc]
    · unfold m_pieceCount
      rw [bd_e hA.pm, Jn_e, if_neg p10]

/-- how many legs have something -/
def CN (f : Nat → Int32) : Nat → Int32
  | 0 => 0
  | k + 1 => CN f k + (if f k = 0 then 0 else 1)
theorem cn_vm {m : St} {P n : Nat} (hP : P ≤ 2376) (hn : n ≤ 21) (hc : m 1 P = nI n) (J : Int32 → Option Int32) : ∀ (d k g : Nat), k + d = n → d < g → lp (lb_m_violations_4 m (nI P) J) g (CN (vio m P) k, nI k) = J (CN (vio m P) n) := by
  intro d
  induction d with
  | zero =>
    intro k g hd hg
    have e : k = n := by omega
    subst e
    rw [lp_s hg]
    show Option.bind (m_count m (nI P)) (fun x5 => if (x5 : Int32) ≤ nI k then J (CN (vio m P) k) else _) = _
    rw [bd_e (mcount hP), if_pos (by rw [hc]; exact Int32.le_refl _)]
  | succ d ih =>
    intro k g hd hg
    have key : ∀ ih : Int32 × Int32 → Option Int32, lb_m_violations_4 m (nI P) J ih (CN (vio m P) k, nI k) = ih (CN (vio m P) (k + 1), nI (k + 1)) := by
      intro ih
      show _ = ih (CN (vio m P) k + (if vio m P k = 0 then 0 else 1), nI (k + 1))
      unfold lb_m_violations_4
      dsimp only
      rw [bd_e (mcount hP), if_neg (by rw [hc]; exact nI_ge (by omega) (by omega)), bd_e (vio_m hP (show k < 21 by omega)), Jn_if, Lt_e, Lt_e, nI_1]
    rw [lp_s (by omega), key]
    exact ih (k + 1) (g - 1) (by omega) (by omega)
theorem cn_vc {c m : St} {b q P n : Nat} (hI : PI b q) (hD : Dm c) (hc : c q 1 = nI n) (hn : n ≤ 21) (hV : VR c m b P n) (J : Int32 → Option Int32) : ∀ (d k g : Nat), k + d = n → d < g → lp (lb_f_Pa_violations_4 c b J) g (CN (vio m P) k, nI k) = J (CN (vio m P) n) := by
  intro d
  induction d with
  | zero =>
    intro k g hd hg
    have e : k = n := by omega
    subst e
    rw [lp_s hg]
    show (if c (rc b 0) 1 ≤ nI k then J (CN (vio m P) k) else _) = _
    rw [if_pos (by rw [rc_b0 hI, hc]; exact Int32.le_refl _)]
  | succ d ih =>
    intro k g hd hg
    have key : ∀ ih : Int32 × Int32 → Option Int32, lb_f_Pa_violations_4 c b J ih (CN (vio m P) k, nI k) = ih (CN (vio m P) (k + 1), nI (k + 1)) := by
      intro ih
      show _ = ih (CN (vio m P) k + (if vio m P k = 0 then 0 else 1), nI (k + 1))
      unfold lb_f_Pa_violations_4
      dsimp only
      rw [if_neg (by rw [rc_b0 hI, hc]; exact nI_ge (by omega) (by omega)), rc_b1 hI, bd_e (lgg hI hD (show k < 21 by omega) (by decide)), hV.lg k 15 (by omega) (by decide), Wc15, Jn_e]
      by_cases e : vio m P k = 0
      · rw [if_pos e, if_pos e, Int32.add_zero]
        dsimp only
        rw [Lt_e, nI_1]
      · rw [if_neg e, if_neg e, Lt_e]
        dsimp only
        rw [Lt_e, nI_1]
    rw [lp_s (by omega), key]
    exact ih (k + 1) (g - 1) (by omega) (by omega)
theorem viol_c {c m : St} {b q P n : Nat} (hI : PI b q) (hD : Dm c) (hc : c q 1 = nI n) (hn : n ≤ 21) (hV : VR c m b P n) : f_Pa_violations c b = some (CN (vio m P) n) := by
  unfold f_Pa_violations
  rw [Jn_e]
  exact cn_vc hI hD hc hn hV (fun x1 => some x1) n 0 4000 (by omega) (by omega)
theorem viol_m {m : St} {P n : Nat} (hP : P ≤ 2376) (hn : n ≤ 21) (hc : m 1 P = nI n) : m_violations m (nI P) = some (CN (vio m P) n) := by
  unfold m_violations
  rw [Jn_e]
  exact cn_vm hP hn hc (fun x1 => some x1) n 0 4000 (by omega) (by omega)
/-- gaps: the anew of each leg but the first -/
def gp (m : St) (k : Nat) : Int32 := if k = 0 then 0 else m 18 k
theorem cn_gm {m : St} {P n : Nat} {R : Int} (hP : P ≤ 2376) (hn : n ≤ 21) (hc : m 1 P = nI n) (J : Int32 → Option Int32) : ∀ (d k g : Nat), k + d = n → 0 < k → d < g → lp (lb_m_gaps_4 m (nI P) J) g (CN (gp m) k, nI k) = J (CN (gp m) n) := by
  intro d
  induction d with
  | zero =>
    intro k g hd h0 hg
    have e : k = n := by omega
    subst e
    rw [lp_s hg]
    show Option.bind (m_count m (nI P)) (fun x5 => if (x5 : Int32) ≤ nI k then J (CN (gp m) k) else _) = _
    rw [bd_e (mcount hP), if_pos (by rw [hc]; exact Int32.le_refl _)]
  | succ d ih =>
    intro k g hd h0 hg
    have key : ∀ ih : Int32 × Int32 → Option Int32, lb_m_gaps_4 m (nI P) J ih (CN (gp m) k, nI k) = ih (CN (gp m) (k + 1), nI (k + 1)) := by
      intro ih
      show _ = ih (CN (gp m) k + (if gp m k = 0 then 0 else 1), nI (k + 1))
      unfold lb_m_gaps_4 gp
      simp only [nI_clamp (show k < 2 ^ 31 by omega)]
      rw [bd_e (mcount hP), if_neg (by rw [hc]; exact nI_ge (by omega) (by omega)), Gd_t (Ix_n (show k < 21 by omega) (by decide)), Jn_if, Lt_e, Lt_e, nI_1, if_neg (show ¬ k = 0 by omega)]
    rw [lp_s (by omega), key]
    exact ih (k + 1) (g - 1) (by omega) (by omega) (by omega)
theorem cn_gc {c m : St} {b q P n : Nat} {R : Int} (hI : PI b q) (hD : Dm c) (hc : c q 1 = nI n) (hn : n ≤ 21) (hV : VR c m b P n) (hW : WF m P R n) (J : Int32 → Option Int32) : ∀ (d k g : Nat), k + d = n → d < g → lp (lb_f_Pa_gaps_4 c b J) g (CN (gp m) k, nI k) = J (CN (gp m) n) := by
  intro d
  induction d with
  | zero =>
    intro k g hd hg
    have e : k = n := by omega
    subst e
    rw [lp_s hg]
    show (if c (rc b 0) 1 ≤ nI k then J (CN (gp m) k) else _) = _
    rw [if_pos (by rw [rc_b0 hI, hc]; exact Int32.le_refl _)]
  | succ d ih =>
    intro k g hd hg
    have hg0 := gapb_c (v := m 18 k) hI hD (show k < 21 by omega) (by rw [hV.lg k 0 (by omega) (by decide), Wc0]) (hW.an k (by omega))
    have key : ∀ ih : Int32 × Int32 → Option Int32, lb_f_Pa_gaps_4 c b J ih (CN (gp m) k, nI k) = ih (CN (gp m) (k + 1), nI (k + 1)) := by
      intro ih
      show _ = ih (CN (gp m) k + (if gp m k = 0 then 0 else 1), nI (k + 1))
      unfold lb_f_Pa_gaps_4
      dsimp only
      rw [if_neg (by rw [rc_b0 hI, hc]; exact nI_ge (by omega) (by omega)), bd_e hg0, Jn_e]
      show (if gp m k = 0 then _ else _) = _
      by_cases e : gp m k = 0
      · rw [if_pos e, if_pos e, Int32.add_zero]
        dsimp only
        rw [Lt_e, nI_1]
      · rw [if_neg e, if_neg e, Lt_e]
        dsimp only
        rw [Lt_e, nI_1]
    rw [lp_s (by omega), key]
    exact ih (k + 1) (g - 1) (by omega) (by omega)
theorem gaps_c {c m : St} {b q P n : Nat} {R : Int} (hI : PI b q) (hD : Dm c) (hc : c q 1 = nI n) (hn : n ≤ 21) (hV : VR c m b P n) (hW : WF m P R n) : f_Pa_gaps c b = some (CN (gp m) n) := by
  unfold f_Pa_gaps
  rw [Jn_e]
  exact cn_gc hI hD hc hn hV hW (fun x1 => some x1) n 0 4000 (by omega) (by omega)
theorem gaps_m {m : St} {P n : Nat} (hP : P ≤ 2376) (hn : n ≤ 21) (hc : m 1 P = nI n) : m_gaps m (nI P) = some (CN (gp m) n) := by
  unfold m_gaps
  rw [Jn_e]
  by_cases e : n = 0
  · subst e
    rw [lp_s (by decide)]
    show Option.bind (m_count m (nI P)) (fun x5 => if (x5 : Int32) ≤ 1 then some (0 : Int32) else _) = _
    rw [bd_e (mcount hP), if_pos (by rw [hc]; decide)]
    rfl
  · have := cn_gm (R := 0) hP hn hc (fun x1 => some x1) (n - 1) 1 4000 (by omega) (by decide) (by omega)
    exact this
def TU (m : St) : Nat → Int32
  | 0 => 0
  | k + 1 => TU m k + m 38 k
theorem tu_m {p : Int32} {m : St} {P n : Nat} (hp : m_planOf p = some (nI P)) (hP : P ≤ 2376) (hn : n ≤ 21) (hc : m 1 P = nI n) (v : Int32) (J : Int32 → Option (Int32 × St)) : ∀ (d k g : Nat), k + d = n → d < g → lp (lb_m_totalTime_16 p (v, m) J) g (TU m k, nI k) = J (TU m n) := by
  intro d
  induction d with
  | zero =>
    intro k g hd hg
    have e : k = n := by omega
    subst e
    rw [lp_s hg]
    show Option.bind (m_planOf p) (fun x6 => Option.bind (m_count m x6) fun x7 => if (x7 : Int32) ≤ nI k then J (TU m k) else _) = _
    rw [bd_e hp, bd_e (mcount hP), if_pos (by rw [hc]; exact Int32.le_refl _)]
  | succ d ih =>
    intro k g hd hg
    rw [lp_s (by omega)]
    show Option.bind (m_planOf p) (fun x6 => Option.bind (m_count m x6) fun x7 => if (x7 : Int32) ≤ nI k then J (TU m k) else Gd (Ix (nI k) 21) <| Lt (TU m k + m 38 (Int32.toNatClampNeg (nI k))) fun x8 => Lt (nI k + (1 : Int32)) fun x9 => lp (lb_m_totalTime_16 p (v, m) J) (g - 1) (x8, x9)) = _
    rw [bd_e hp, bd_e (mcount hP), if_neg (by rw [hc]; exact nI_ge (by omega) (by omega)), Gd_t (Ix_n (show k < 21 by omega) (by decide)), Lt_e, Lt_e, nI_1, nI_clamp (by omega)]
    exact ih (k + 1) (g - 1) (by omega) (by omega)
theorem tu_c {c m : St} {b q P n : Nat} (hI : PI b q) (hD : Dm c) (hc : c q 1 = nI n) (hn : n ≤ 21) (hV : VR c m b P n) (J : Int32 → Option Int32) : ∀ (d k g : Nat), k + d = n → d < g → lp (lb_f_Pa_time_4 c b J) g (TU m k, nI k) = J (TU m n) := by
  intro d
  induction d with
  | zero =>
    intro k g hd hg
    have e : k = n := by omega
    subst e
    rw [lp_s hg]
    show (if c (rc b 0) 1 ≤ nI k then J (TU m k) else _) = _
    rw [if_pos (by rw [rc_b0 hI, hc]; exact Int32.le_refl _)]
  | succ d ih =>
    intro k g hd hg
    rw [lp_s (by omega)]
    show (if c (rc b 0) 1 ≤ nI k then J (TU m k) else Option.bind (f_Tb_get c (rc b 1) (nI k) (10 : Int32)) fun x5 => Lt (TU m k + x5) fun x6 => Lt (nI k + (1 : Int32)) fun x7 => lp (lb_f_Pa_time_4 c b J) (g - 1) (x6, x7)) = _
    rw [if_neg (by rw [rc_b0 hI, hc]; exact nI_ge (by omega) (by omega)), rc_b1 hI, bd_e (lgg hI hD (show k < 21 by omega) (by decide)), hV.lg k 10 (by omega) (by decide), Wc10, Lt_e, Lt_e, nI_1]
    exact ih (k + 1) (g - 1) (by omega) (by omega)
theorem q_gapCount {t : Nat} {c m : St} (ht : t ≤ 511) (h : INV t c m) (p : Int32) : AQ t (f_FL_gapCount c p) (m_gapCount m p) := by
  rcases acc ht h p with ⟨e1, e2⟩ | ⟨b, q, P, n, c', m', R, hA⟩
  · refine ⟨-1000001, c, m, ?_, ?_, h.up⟩
    · unfold f_FL_gapCount
      rw [bd_e e1]
      first | (rw [if_pos rfl]; done) | (rw [Jn_e, if_pos rfl])
    · unfold m_gapCount
      rw [bd_e e2]
      first | (rw [if_pos rfl]; done) | (rw [Jn_e, if_pos rfl])
  · have hn := hA.n20
    have hI := hA.I
    refine ⟨CN (gp m') n, c', m', ?_, ?_, hA.i1.up⟩
    · unfold f_FL_gapCount
      rw [bd_e hA.pc, Jn_e, if_neg n10, bd_e (fresh_c hA), bd_e (gaps_c hI hA.D' hA.cq' (by omega) hA.V hA.W)]
    · unfold m_gapCount
      rw [bd_e hA.pm, Jn_e, if_neg p10, bd_e hA.Pm, bd_e (gaps_m hA.Pl (by omega) hA.mq)]
theorem q_violationCount {t : Nat} {c m : St} (ht : t ≤ 511) (h : INV t c m) (p : Int32) : AQ t (f_FL_violationCount c p) (m_violationCount m p) := by
  rcases acc ht h p with ⟨e1, e2⟩ | ⟨b, q, P, n, c', m', R, hA⟩
  · refine ⟨-1000001, c, m, ?_, ?_, h.up⟩
    · unfold f_FL_violationCount
      rw [bd_e e1]
      first | (rw [if_pos rfl]; done) | (rw [Jn_e, if_pos rfl])
    · unfold m_violationCount
      rw [bd_e e2]
      first | (rw [if_pos rfl]; done) | (rw [Jn_e, if_pos rfl])
  · have hn := hA.n20
    have hI := hA.I
    refine ⟨CN (vio m' P) n, c', m', ?_, ?_, hA.i1.up⟩
    · unfold f_FL_violationCount
      rw [bd_e hA.pc, Jn_e, if_neg n10, bd_e (fresh_c hA), bd_e (viol_c hI hA.D' hA.cq' (by omega) hA.V)]
    · unfold m_violationCount
      rw [bd_e hA.pm, Jn_e, if_neg p10, bd_e hA.Pm, bd_e (viol_m hA.Pl (by omega) hA.mq)]
theorem q_totalLength {t : Nat} {c m : St} (ht : t ≤ 511) (h : INV t c m) (p : Int32) : AQ t (f_FL_totalLength c p) (m_totalLength m p) := by
  rcases acc ht h p with ⟨e1, e2⟩ | ⟨b, q, P, n, c', m', R, hA⟩
  · refine ⟨-1000001, c, m, ?_, ?_, h.up⟩
    · unfold f_FL_totalLength
      rw [bd_e e1]
      first | (rw [if_pos rfl]; done) | (rw [Jn_e, if_pos rfl])
    · unfold m_totalLength
      rw [bd_e e2]
      first | (rw [if_pos rfl]; done) | (rw [Jn_e, if_pos rfl])
  · have hn := hA.n20
    have hI := hA.I
    refine ⟨LU m' n, c', m', ?_, ?_, hA.i1.up⟩
    · unfold f_FL_totalLength
      rw [bd_e hA.pc, if_neg n10, bd_e (fresh_c hA)]
      dsimp only
      rw [bd_e (hA.qc c'), hA.cq', bd_e (lengthOf_e hI hA.D' hA.cq' (by omega) hA.V (Nat.le_refl _))]
    · unfold m_totalLength
      rw [bd_e hA.pm, Jn_e, if_neg p10, bd_e hA.Pm, bd_e (mcount hA.Pl)]
      dsimp only
      rw [hA.mq, bd_e (lengthUpTo_e (show n ≤ 21 by omega))]
theorem q_totalTime {t : Nat} {c m : St} (ht : t ≤ 511) (h : INV t c m) (p : Int32) : AQ t (f_FL_totalTime c p) (m_totalTime m p) := by
  rcases acc ht h p with ⟨e1, e2⟩ | ⟨b, q, P, n, c', m', R, hA⟩
  · refine ⟨-1000001, c, m, ?_, ?_, h.up⟩
    · unfold f_FL_totalTime
      rw [bd_e e1]
      first | (rw [if_pos rfl]; done) | (rw [Jn_e, if_pos rfl])
    · unfold m_totalTime
      rw [bd_e e2]
      first | (rw [if_pos rfl]; done) | (rw [Jn_e, if_pos rfl])
  · have hn := hA.n20
    have hI := hA.I
    refine ⟨TU m' n, c', m', ?_, ?_, hA.i1.up⟩
    · unfold f_FL_totalTime
      have ht : f_Pa_time c' b = some (TU m' n) := by
        unfold f_Pa_time
        rw [Jn_e]
        exact tu_c hI hA.D' hA.cq' (by omega) hA.V (fun x1 => some x1) n 0 4000 (by omega) (by omega)
      rw [bd_e hA.pc, Jn_e, if_neg n10, bd_e (fresh_c hA), bd_e ht]
    · unfold m_totalTime
      rw [bd_e hA.pm, if_neg p10, Jn_e]
      exact tu_m hA.Pm hA.Pl (by omega) hA.mq 1 (fun x2 => some (x2, m')) n 0 4000 (by omega) (by omega)
