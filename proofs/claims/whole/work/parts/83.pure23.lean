/-! a segment's pieces, on both sides -/

theorem snP (v : Nat) (h : v < 24) : ((sn (nI v + 6)).toInt * (sn (nI v + 6)).toInt + (sn (nI v + 6 + 6)).toInt * (sn (nI v + 6 + 6)).toInt ≤ 1002001) ∧ ((sn (nI v + (-6))).toInt * (sn (nI v + (-6))).toInt + (sn (nI v + (-6) + 6)).toInt * (sn (nI v + (-6) + 6)).toInt ≤ 1002001) := (by decide +kernel : ∀ v, v < 24 → ((sn (nI v + 6)).toInt * (sn (nI v + 6)).toInt + (sn (nI v + 6 + 6)).toInt * (sn (nI v + 6 + 6)).toInt ≤ 1002001) ∧ ((sn (nI v + (-6))).toInt * (sn (nI v + (-6))).toInt + (sn (nI v + (-6) + 6)).toInt * (sn (nI v + (-6) + 6)).toInt ≤ 1002001)) v h
/-- the end of an arc: one coordinate -/
def axo (r p q : Int32) : Int32 := (r * (sn p - sn q)) / (1000 : Int32)
theorem axo_v {r : Int32} (p q : Int32) (h1 : 0 ≤ r.toInt) (h2 : r.toInt ≤ 152) : (axo r p q).toInt = (r.toInt * ((sn p).toInt - (sn q).toInt)).tdiv 1000 ∧ -310 ≤ (axo r p q).toInt ∧ (axo r p q).toInt ≤ 310 := by
  have s1 := sn_b p
  have s2 := sn_b q
  have ed : (sn p - sn q).toInt = (sn p).toInt - (sn q).toInt := tI_sub (by omega) (by omega)
  have mm := mulb (a := r.toInt) (b := (sn p).toInt - (sn q).toInt) (A := 152) (B := 2000) (by omega) h2 (by omega) (by omega)
  have e := (md_e (r := r) (s := sn p - sn q) (by rw [ed]; omega) (by rw [ed]; omega)).2
  rw [ed] at e
  unfold axo
  refine ⟨e, ?_⟩
  rw [e]
  generalize r.toInt * ((sn p).toInt - (sn q).toInt) = x at *
  rcases Int.lt_or_le x 0 with h | h
  · rw [td_neg h]; omega
  · rw [td_pos h]; omega
theorem axo_m {r s : Int32} (p q : Int32) (h1 : 0 ≤ r.toInt) (h2 : r.toInt ≤ 152) (hs : -10000000 ≤ s.toInt ∧ s.toInt ≤ 10000000) : Int64.toInt32 (s.toInt64 + ((r.toInt64 * (sn p - sn q).toInt64) / (1000 : Int64))) = s + axo r p q ∧ (s + axo r p q).toInt = s.toInt + (axo r p q).toInt := by
  have s1 := sn_b p
  have s2 := sn_b q
  have hv := axo_v p q h1 h2
  have ed : (sn p - sn q).toInt = (sn p).toInt - (sn q).toInt := tI_sub (by omega) (by omega)
  have mm := mulb (a := r.toInt) (b := (sn p).toInt - (sn q).toInt) (A := 152) (B := 2000) (by omega) h2 (by omega) (by omega)
  have e1 : ((r.toInt64 * (sn p - sn q).toInt64) / (1000 : Int64)).toInt = (axo r p q).toInt := by rw [tL_div k1000L (by decide), tL_mul (by rw [tw, tw, ed]; omega) (by rw [tw, tw, ed]; omega), tw, tw, ed, hv.1]
  have e2 : (s.toInt64 + ((r.toInt64 * (sn p - sn q).toInt64) / (1000 : Int64))).toInt = s.toInt + (axo r p q).toInt := by rw [tL_add (by rw [tw, e1]; omega) (by rw [tw, e1]; omega), tw, e1]
  have e3 : (s + axo r p q).toInt = s.toInt + (axo r p q).toInt := tI_add (by omega) (by omega)
  exact ⟨i2 (by rw [tn (by rw [e2]; omega) (by rw [e2]; omega), e2, e3]), e3⟩
/-- how far an arc's end lies from its start -/
theorem axo_d {r : Int32} {p q : Int32} (h1 : 0 ≤ r.toInt) (h2 : r.toInt ≤ 152) (hp : (sn p).toInt * (sn p).toInt + (sn (p + 6)).toInt * (sn (p + 6)).toInt ≤ 1002001) (hq : (sn q).toInt * (sn q).toInt + (sn (q + 6)).toInt * (sn (q + 6)).toInt ≤ 1002001) : (axo r p q).toInt * (axo r p q).toInt + (axo r (p + 6) (q + 6)).toInt * (axo r (p + 6) (q + 6)).toInt ≤ 306 * 306 := by
  have e1 := (axo_v p q h1 h2).1
  have e2 := (axo_v (p + 6) (q + 6) h1 h2).1
  have t := tri (x := (sn p).toInt) (y := (sn (p + 6)).toInt) (u := -(sn q).toInt) (v := -(sn (q + 6)).toInt) (R := 1001) (L := 1001) (by decide) (by decide) (by omega) (by rw [Int.neg_mul_neg, Int.neg_mul_neg]; omega)
  rw [← Int.sub_eq_add_neg, ← Int.sub_eq_add_neg] at t
  have d1 := td_sq (x := r.toInt * ((sn p).toInt - (sn q).toInt))
  have d2 := td_sq (x := r.toInt * ((sn (p + 6)).toInt - (sn (q + 6)).toInt))
  rw [← e1] at d1
  rw [← e2] at d2
  have s := scl (k := r.toInt) (W := 1001 + 1001) t
  have f1 : (1000 * (axo r p q).toInt) * (1000 * (axo r p q).toInt) = 1000000 * ((axo r p q).toInt * (axo r p q).toInt) := by grind
  have f2 : (1000 * (axo r (p + 6) (q + 6)).toInt) * (1000 * (axo r (p + 6) (q + 6)).toInt) = 1000000 * ((axo r (p + 6) (q + 6)).toInt * (axo r (p + 6) (q + 6)).toInt) := by grind
  rw [f1] at d1
  rw [f2] at d2
  have g1 := sq_le (a := r.toInt * (1001 + 1001)) (b := 152 * (1001 + 1001)) (by omega) (by omega)
  omega
/-- the lead that the reference takes for a segment -/
theorem e_m {c m : St} {b k r : Nat} {n : Nat} {R : Int} (hk : k < r) (hr : r ≤ 42) (h30 : m 0 30 = nI r) (hS : k + 1 < r → SgR n c m b R (k + 1)) (hnl : c (b + 5) (k * 16 + 15) = if k + 1 < r ∧ c (b + 5) ((k + 1) * 16 + 10) = 1 then m 27 (k + 1) else 0) (J : Int32 → Option St) :
    (Jn (fun (_ : Unit) => J (0 : Int32)) fun J15 => if (m 0 30 : Int32) ≤ (nI k + (1 : Int32)) then (J15 ()) else (
  Gd (Ix (nI k + (1 : Int32)) 42) <|
  if ((m 17 (Int32.toNatClampNeg (nI k + (1 : Int32)))) : Int32) = nI k then (
  Gd (Ix (nI k + (1 : Int32)) 42) <|
  J (m 27 (Int32.toNatClampNeg (nI k + (1 : Int32))))
  ) else (J15 ()))) = J (c (b + 5) (k * 16 + 15)) := by
  rw [Jn_e, h30, nI_1]
  by_cases h : k + 1 < r
  · have g : Ix (nI (k + 1)) 42 := Ix_n (by omega) (by decide)
    rw [if_neg (nI_ge h (by omega)), Gd_t g]
    simp only [nI_clamp (show k + 1 < 2 ^ 31 by omega)]
    rcases (hS h).lnk with y | y
    · rw [if_pos (by rw [y.2.2.1, Nat.add_sub_cancel]), Gd_t g, hnl, if_pos ⟨h, y.1⟩]
    · rw [if_neg (by rw [y.2]; intro q; have := nI_pos' (n := k) (by omega); rw [← q] at this; revert this; decide), hnl, if_neg (fun q => by rw [y.1] at q; exact absurd q.2 (by decide))]
  · rw [if_pos (nI_le (by omega) (by omega)), hnl, if_neg (fun q => h q.1)]
def SF3 (c m : St) (b n : Nat) (R : Int) (k g : Nat) : Prop :=
  (SgR n c m b R k) ∧
  (TgR c m b k) ∧
  (NL c m b k) ∧
  (m 7 k = nI g) ∧
  (g < 21)
theorem SF3.sg {c m : St} {b n : Nat} {R : Int} {k g : Nat} (h : SF3 c m b n R k g) : SgR n c m b R k := h.1
theorem SF3.tg {c m : St} {b n : Nat} {R : Int} {k g : Nat} (h : SF3 c m b n R k g) : TgR c m b k := h.2.1
theorem SF3.nl {c m : St} {b n : Nat} {R : Int} {k g : Nat} (h : SF3 c m b n R k g) : NL c m b k := h.2.2.1
theorem SF3.gm {c m : St} {b n : Nat} {R : Int} {k g : Nat} (h : SF3 c m b n R k g) : m 7 k = nI g := h.2.2.2.1
theorem SF3.gn {c m : St} {b n : Nat} {R : Int} {k g : Nat} (h : SF3 c m b n R k g) : g < 21 := h.2.2.2.2

theorem PS.sf {c m c' m' : St} {b p p' g g' n k : Nat} {R : Int} (h : PS c m c' m' b R p p' g) (hS : SF3 c m b n R k g') : SF3 c' m' b n R k g' :=
  ⟨h.sg hS.sg, h.tg hS.tg, h.nl hS.nl, by rw [h.fm 7 (by decide) (by decide)]; exact hS.gm, hS.gn⟩
/-- flown by, or no turn -/
theorem by_lock {c m : St} {b q n p g k : Nat} {R : Int} (hI : PI b q) (hR : R ≤ 5940000) (hD : Dm c) (hp : PcR c m b R p) (hx : XY c m b R) (h126 : p + 1 < 126) (hk : k < 42) (hS : SF3 c m b n R k g) (h2 : ¬ m 24 k = 2) :
    ∃ c' m' p', f_Pc_drawSegment c (b + 6) (nI k) = some c' ∧ (Jn (fun (σ6 : St) =>
  Gd (Ix (nI k) 42) <|
  Gd (Ix (nI k) 42) <|
  Gd (Ix (nI k) 42) <|
  Option.bind (m_before (σ6 8 k) (σ6 10 k) (c (b + 5) (k * 16 + 15)) (m 12 k)) fun x8 =>
  Gd (Ix (nI k) 42) <|
  Gd (Ix (nI k) 42) <|
  Option.bind (m_before (σ6 9 k) (σ6 11 k) (c (b + 5) (k * 16 + 15)) (m 12 k)) fun x9 =>
  Option.bind (m_piece σ6 (m 7 k) (0 : Int32) ((m 12 k - m 27 k) - c (b + 5) (k * 16 + 15)) (σ6 13 k) x8 x9) fun x10 =>
  some x10
  ) fun J7 =>
  if ((m 24 k) : Int32) = (1 : Int32) then (
  Gd (Ix (nI k) 42) <|
  Gd (Ix (nI k) 42) <|
  Gd (Ix (nI k) 42) <|
  Gd (Ix (nI k) 42) <|
  Option.bind (m_before (m 10 k) (m 8 k) (m 27 k) (m 12 k)) fun x11 =>
  Gd (Ix (nI k) 42) <|
  Gd (Ix (nI k) 42) <|
  Option.bind (m_before (m 11 k) (m 9 k) (m 27 k) (m 12 k)) fun x12 =>
  Option.bind (m_piece m (m 7 k) (1 : Int32) (m 28 k) (m 13 k) x11 x12) fun x13 =>
  J7 x13
  ) else (
  J7 m
  )) = some m' ∧ p' ≤ p + 2 ∧ PS c m c' m' b R p p' g ∧ Dm c' := by
  have g42 : Ix (nI k) 42 := Ix_n hk (by decide)
  obtain ⟨l, l1, l2, lc, lm, -⟩ := hS.sg.len
  have el : (nI l).toInt = (l : Int) := nI_toInt (by omega)
  have h0 := hS.sg.nbs.1
  have lb := hS.tg.lb
  unfold f_Pc_drawSegment
  rw [rc_b63 hI, bd_e (sgg hI hD hk (by decide)), hS.tg.t1, if_neg h2, bd_e (sgg hI hD hk (by decide)), hS.tg.t4, Jn_e, Jn_e]
  by_cases h1 : m 24 k = 1
  · have hnb : Nb (R + 400) (bf (m 10 k) (m 8 k) (m 27 k) (m 12 k)) (bf (m 11 k) (m 9 k) (m 27 k) (m 12 k)) := (bf_nb (by omega) hS.sg.nbt hS.sg.nbs (by rw [lm, el]; omega) lb.1 (by rw [lm, el]; omega)).le (by omega)
    obtain ⟨c1, m1, p1, q1, q2, q3, q4, -, -, q5⟩ := arc_lock hI hD hp hx (by omega) hk hS.sg hS.tg (by rw [h1]; decide) hS.gm hnb
    have hS1 := q4.sf hS
    obtain ⟨c2, m2, p2, w1, w2, w3, w4, w5⟩ := rest_lock (B := m 27 k) hI hR q5 q4.pr q4.xy (by omega) hk hS1.sg hS1.nl hS1.gm lb.1 (by omega)
    refine ⟨c2, m2, p2, ?_, ?_, by omega, q4.trans w4, w5⟩
    · rw [if_pos h1]
      unfold f_Pc_onSegmentX f_Pc_onSegmentY
      rw [rc_b63 hI, bd_e (sgg hI hD hk (by decide)), bd_e (sgg hI hD hk (by decide)), bd_e (sgg hI hD hk (by decide)), hS.sg.sx, hS.sg.tx, bd_e (bf_c _ _ _ _), bd_e (sgg hI hD hk (by decide)), bd_e (sgg hI hD hk (by decide)), bd_e (sgg hI hD hk (by decide)), hS.sg.sy, hS.sg.ty, bd_e (bf_c _ _ _ _), bd_e rfl, bd_e rfl, lc, ← lm, bd_e q1]
      exact bd_e w1
    · rw [if_pos h1, Gd_t g42, Gd_t g42, Gd_t g42, Gd_t g42, bd_e (bf_m _ _ _ _), Gd_t g42, Gd_t g42, bd_e (bf_m _ _ _ _), hS.gm, bd_e q2]
      rw [q4.fm 12 (by decide) (by decide), q4.fm 13 (by decide) (by decide), q4.fm 8 (by decide) (by decide), q4.fm 9 (by decide) (by decide), q4.fm 10 (by decide) (by decide), q4.fm 11 (by decide) (by decide), q4.fc _ (by omega) (by omega)] at w2
      dsimp only
      rw [Gd_t g42, Gd_t g42, Gd_t g42, bd_e (bf_m _ _ _ _), Gd_t g42, Gd_t g42, bd_e (bf_m _ _ _ _), q4.fm 13 (by decide) (by decide), q4.fm 8 (by decide) (by decide), q4.fm 9 (by decide) (by decide), q4.fm 10 (by decide) (by decide), q4.fm 11 (by decide) (by decide)]
      exact bd_e w2
  · obtain ⟨c2, m2, p2, w1, w2, w3, w4, w5⟩ := rest_lock (B := m 27 k) hI hR hD hp hx (by omega) hk hS.sg hS.nl hS.gm lb.1 (by omega)
    refine ⟨c2, m2, p2, ?_, ?_, by omega, w4, w5⟩
    · rw [if_neg h1]
      exact bd_e w1
    · rw [if_neg h1]
      dsimp only
      rw [Gd_t g42, Gd_t g42, Gd_t g42, bd_e (bf_m _ _ _ _), Gd_t g42, Gd_t g42, bd_e (bf_m _ _ _ _), hS.gm]
      exact bd_e w2
