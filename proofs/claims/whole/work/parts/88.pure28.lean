/-! holding patterns; a leg's totals -/

theorem rad_L {a : Int32} (h1 : 100 ≤ a.toInt) (h2 : a.toInt ≤ 500) {X : Int64} (eX : X = if (1 : Int64) ≤ (a.toInt64 * a.toInt64) / (3200 : Int64) then (a.toInt64 * a.toInt64) / (3200 : Int64) else 1) : X.toInt = (rad a).toInt ∧ 1 ≤ (rad a).toInt ∧ (rad a).toInt ≤ 152 := by
  have rb := rad_b (g := a) (by omega) (by omega)
  have rb2 := rad_b2 (g := a) (by omega) (by omega)
  have mm := mulb (a := a.toInt) (b := a.toInt) (A := 500) (B := 500) (by omega) h2 (by omega) h2
  have p0 := sqn a.toInt
  have m2 := sq_le (a := 100) (b := a.toInt) (by decide) h1
  have k32L : (3200 : Int64).toInt = 3200 := by decide
  have k32 : (3200 : Int32).toInt = 3200 := by decide
  have k1L : (1 : Int64).toInt = 1 := by decide
  have k1 : (1 : Int32).toInt = 1 := by decide
  have e2 : ((a.toInt64 * a.toInt64) / (3200 : Int64)).toInt = a.toInt * a.toInt / 3200 := by
    rw [tL_div k32L (by decide), tL_mul (by rw [tw]; omega) (by rw [tw]; omega), tw, td_pos p0]
  have e1 : ((a * a) / (3200 : Int32)).toInt = a.toInt * a.toInt / 3200 := by rw [tI_div k32 (by decide), tI_mul (by omega) (by omega), td_pos p0]
  refine ⟨?_, rb.1, rb2⟩
  rw [eX, if_pos (Int64.le_iff_toInt_le.mpr (by rw [e2]; omega)), e2]
  unfold rad
  unfold imax
  by_cases c1 : (1 : Int32) < (a * a) / (3200 : Int32)
  · rw [if_pos c1, e1]
  · have : ¬ (1 : Int32).toInt < ((a * a) / (3200 : Int32)).toInt := fun q => c1 (Int32.lt_iff_toInt_lt.mpr q)
    rw [if_neg c1, k1]
    omega
/-- an arc's length, from a long radius -/
theorem arc_L {r : Int32} {X : Int64} {d : Nat} {D : Int64} (eX : X.toInt = r.toInt) (h1 : 1 ≤ r.toInt) (h2 : r.toInt ≤ 152) (hd : d ≤ 24) (eD : D.toInt = (d : Int)) : ((X * D) * (262 : Int64) / (1000 : Int64)).toInt = (((r * nI d) * (262 : Int32)) / (1000 : Int32)).toInt ∧ 0 ≤ (((r * nI d) * (262 : Int32)) / (1000 : Int32)).toInt ∧ (((r * nI d) * (262 : Int32)) / (1000 : Int32)).toInt ≤ 1000 := by
  have mm := mulb (a := r.toInt) (b := (d : Int)) (A := 152) (B := 24) (by omega) h2 (by omega) (by omega)
  have p0 : 0 ≤ r.toInt * d := Int.mul_nonneg (by omega) (by omega)
  have k2 : (262 : Int64).toInt = 262 := by decide
  have e := (arc_e (r := r) (d := d) (by omega) (by omega) hd).2
  have e3 : (X * D).toInt = r.toInt * d := by rw [tL_mul (by rw [eX, eD]; omega) (by rw [eX, eD]; omega), eX, eD]
  have e4 : ((X * D) * (262 : Int64) / (1000 : Int64)).toInt = r.toInt * d * 262 / 1000 := by rw [tL_div k1000L (by decide), tL_mul (by rw [e3, k2]; omega) (by rw [e3, k2]; omega), e3, k2, td_pos (by omega)]
  rw [e4, e]
  exact ⟨rfl, by omega, by omega⟩
theorem pat_lock {c m : St} {b q P n p i : Nat} {f : Nat → Nat} {R0 R : Int} (hI : PI b q) (hR14 : 14200 ≤ R) (hC : CX c m b q P R0 R n f) (hi : i < n) (hp : PcR c m b R p) (hx : XY c m b R) (h126 : p + 2 ≤ 126) (kc : c (q + 2) (i * 14 + 0) = nI 7) (km : m 1 (P + 3 + 14 * i + 0) = nI 7) :
    ∃ c' m' p', f_Pc_drawPattern c (b + 6) (nI i) = some c' ∧ m_laysPattern m (nI P) (nI i) = some m' ∧ p' ≤ p + 2 ∧ PS c m c' m' b R p p' i := by
  have hlt := hI.lt
  have hn := hC.ph.P.le
  have hi21 : i < 21 := by omega
  have hPl := hC.ph.P.Pl
  have hD := hC.ph.D
  have hL := hC.ph.P.leg i hi
  obtain ⟨v, v23, vc, vm⟩ := hL.crs
  obtain ⟨s, s200, sc, sm⟩ := hL.sid
  obtain ⟨w, w1, wc, wm⟩ := hL.rgt
  obtain ⟨ci, ci9, cic, cim⟩ := hL.cir
  obtain ⟨L, La, Lb, Lc, Lm⟩ := hL.lim
  obtain ⟨e, e2, ec, em⟩ := (hC.ph.lg i hi).h7 km
  have hxy := pxy (b := b) hPl hi21 hL kc (by decide) (Or.inl (Or.inr rfl))
  have hnb := pnb hL kc (by decide) (Or.inr rfl)
  have h5 := hC.ph.S.2.2.2.2.1
  have eL : (nI L).toInt = (L : Int) := nI_toInt (by omega)
  have es : (nI s).toInt = (s : Int) := nI_toInt (by omega)
  have eci : (nI ci).toInt = (ci : Int) := nI_toInt (by omega)
  obtain ⟨a, ea⟩ : ∃ a, a = imin (c 1 5) (nI L) := ⟨_, rfl⟩
  have hab : 100 ≤ a.toInt ∧ a.toInt ≤ 500 := by
    have hm := imin_b (a := c 1 5) (b := nI L)
    rw [ea]
    rcases hm.2.2 with q | q <;> rw [q] at hm ⊢ <;> omega
  have hrl := fun X => rad_L (a := a) (X := X) hab.1 hab.2
  have rr := (hrl _ rfl).2
  obtain ⟨X, eX⟩ : ∃ X : Int64, X = if (1 : Int64) ≤ (a.toInt64 * a.toInt64) / (3200 : Int64) then (a.toInt64 * a.toInt64) / (3200 : Int64) else 1 := ⟨_, rfl⟩
  have eX' := (hrl X eX).1
  have a14 := arc_L (d := 14) (D := (14 : Int64)) eX' rr.1 rr.2 (by decide) (by decide)
  have a18 := arc_L (d := 18) (D := (18 : Int64)) eX' rr.1 rr.2 (by decide) (by decide)
  have a24 := arc_L (d := 24) (D := (24 : Int64)) eX' rr.1 rr.2 (by decide) (by decide)
  have k2 : (2 : Int32).toInt = 2 := by decide
  have k2L : (2 : Int64).toInt = 2 := by decide
  -- the entry
  have ent : ∀ (A : Int32) (B : Int64), B.toInt = A.toInt → 0 ≤ A.toInt → A.toInt ≤ 1000 → Int64.toInt32 ((nI s).toInt64 + B) = nI s + A ∧ ∃ l : Nat, l ≤ 5965232 ∧ nI s + A = nI l := fun A B h1 h2 h3 => by
    have q1 : (nI s + A).toInt = (s : Int) + A.toInt := by rw [tI_add (by rw [es]; omega) (by rw [es]; omega), es]
    have q2 : ((nI s).toInt64 + B).toInt = (s : Int) + A.toInt := by rw [tL_add (by rw [tw, es, h1]; omega) (by rw [tw, es, h1]; omega), tw, es, h1]
    exact ⟨i2 (by rw [tn (by rw [q2]; omega) (by rw [q2]; omega), q2, q1]), ((s : Int) + A.toInt).toNat, by omega, i2 (by rw [q1, nI_toInt (by omega)]; omega)⟩
  have cir : Int64.toInt32 ((nI ci).toInt64 * (((2 : Int64) * (nI s).toInt64) + (((X * (24 : Int64)) * (262 : Int64)) / (1000 : Int64)))) = nI ci * (((2 : Int32) * nI s) + (((rad a * nI 24) * (262 : Int32)) / (1000 : Int32))) ∧ ∃ l : Nat, l ≤ 5965232 ∧ nI ci * (((2 : Int32) * nI s) + (((rad a * nI 24) * (262 : Int32)) / (1000 : Int32))) = nI l := by
    have q1 : ((2 : Int32) * nI s).toInt = 2 * (s : Int) := by rw [tI_mul (by rw [k2, es]; omega) (by rw [k2, es]; omega), k2, es]
    have q1L : ((2 : Int64) * (nI s).toInt64).toInt = 2 * (s : Int) := by rw [tL_mul (by rw [k2L, tw, es]; omega) (by rw [k2L, tw, es]; omega), k2L, tw, es]
    have q2 := tI_add (a := (2 : Int32) * nI s) (b := ((rad a * nI 24) * (262 : Int32)) / (1000 : Int32)) (by rw [q1]; omega) (by rw [q1]; omega)
    have q2L := tL_add (a := (2 : Int64) * (nI s).toInt64) (b := ((X * (24 : Int64)) * (262 : Int64)) / (1000 : Int64)) (by rw [q1L, a24.1]; omega) (by rw [q1L, a24.1]; omega)
    rw [q1] at q2
    rw [q1L, a24.1] at q2L
    generalize (((rad a * nI 24) * (262 : Int32)) / (1000 : Int32)) = A at *
    have mm := mulb (a := (ci : Int)) (b := 2 * (s : Int) + A.toInt) (A := 9) (B := 1400) (by omega) (by omega) (by omega) (by omega)
    have p0 : 0 ≤ (ci : Int) * (2 * (s : Int) + A.toInt) := Int.mul_nonneg (by omega) (by omega)
    have q3 := tI_mul (a := nI ci) (b := (2 : Int32) * nI s + A) (by rw [eci, q2]; omega) (by rw [eci, q2]; omega)
    have q3L := tL_mul (a := (nI ci).toInt64) (b := ((2 : Int64) * (nI s).toInt64) + (((X * (24 : Int64)) * (262 : Int64)) / (1000 : Int64))) (by rw [tw, eci, q2L]; omega) (by rw [tw, eci, q2L]; omega)
    rw [eci, q2] at q3
    rw [tw, eci, q2L] at q3L
    exact ⟨i2 (by rw [tn (by rw [q3L]; omega) (by rw [q3L]; omega), q3L, q3]), ((ci : Int) * (2 * (s : Int) + A.toInt)).toNat, by omega, i2 (by rw [q3, nI_toInt (by omega)]; omega)⟩
  obtain ⟨E, eE, hE⟩ : ∃ E : Int32, E = (if e = 0 then (0 : Int32) else nI s + (((rad a * (if e = 1 then nI 14 else nI 18)) * (262 : Int32)) / (1000 : Int32))) ∧ (0 < E → ∃ l : Nat, l ≤ 5965232 ∧ E = nI l) := by
    refine ⟨_, rfl, fun q => ?_⟩
    by_cases h0 : e = 0
    · rw [if_pos h0] at q; exact absurd q (by decide)
    · rw [if_neg h0]
      by_cases h1 : e = 1
      · rw [if_pos h1]; exact (ent _ _ a14.1 a14.2.1 a14.2.2).2
      · rw [if_neg h1]; exact (ent _ _ a18.1 a18.2.1 a18.2.2).2
  obtain ⟨c1, m1, p1, q1, q2, q3, q4, -, -, q5⟩ := piece_lock (g := i) (v := v) (kd := 2) (L := E) hI hD hp hx (by omega) (by omega) hE (hnb.le (show (14143 : Int) ≤ R + 400 by omega))
  obtain ⟨c2, m2, p2, w1', w2, w3, w4, -, -, w5⟩ := piece_lock (g := i) (v := v) (kd := 2) (L := nI ci * (((2 : Int32) * nI s) + (((rad a * nI 24) * (262 : Int32)) / (1000 : Int32)))) hI q5 q4.pr q4.xy (by omega) (by omega) (fun _ => cir.2) (hnb.le (show (14143 : Int) ≤ R + 400 by omega))
  refine ⟨c2, m2, p2, ?_, ?_, by omega, q4.trans w4⟩
  · unfold f_Pc_drawPattern f_Cm_arcLength
    rw [rc_b60 hI, rc_q0 hI, rc_b61 hI, rc_b62 hI, bd_e (pg hI hD hi21 (by decide)), sc, bd_e (pg hI hD hi21 (by decide)), Lc, bd_e (as_c c _), ← ea, bd_e (rad_c _), bd_e (lgg hI hD hi21 (by decide)), ec]
    refine (Jn_x E (fun J => ?_)).trans ?_
    · rw [eE]
      by_cases h0 : e = 0
      · rw [if_pos (show nI e = 0 by rw [h0]; rfl), if_pos h0]
      · rw [if_neg (nI_ne0 (by omega) (by omega)), if_neg h0, Jn_if, bd_e rfl, Lt_e]
        by_cases h1 : e = 1
        · rw [if_pos ((nIl 1 (by omega) (by omega)).mpr h1), if_pos h1]; rfl
        · rw [if_neg (fun q => h1 ((nIl 1 (by omega) (by omega)).mp q)), if_neg h1]; rfl
    · rw [bd_e (pg hI hD hi21 (by decide)), cic, bd_e rfl, Lt_e, bd_e (pg hI hD hi21 (by decide)), vc, bd_e (pg hI hD hi21 (by decide)), bd_e (pg hI hD hi21 (by decide)), bd_e q1]
      exact bd_e w1'
  · have hof : m_of m (nI P) (nI i) (11 : Int32) = some (nI L) := by rw [mof hPl hi21 (by decide), Lm]
    have heo : m_entryOf m (nI P) (nI i) = some (nI e) := by
      unfold m_entryOf
      rw [Gd_t (Ix_n hi21 (by decide)), bd_e (mof hPl hi21 (by decide)), bd_e (mof hPl hi21 (by decide)), Jn_if, nI_clamp (by omega)]
      have : (if m 1 (P + 3 + 14 * i + 4) = (1 : Int32) then (1 : Int32) else 0) = m 1 (P + 3 + 14 * i + 4) := by
        rw [wm]
        rcases i01 w1 with q | q <;> rw [q] <;> decide
      rw [this, bd_e em]
    unfold m_laysPattern
    rw [bd_e (as_m hC.ph.S hof), ← ea, Lt_e, Lt_e, Jn_if, ← eX, bd_e (mof hPl hi21 (by decide)), sm, bd_e heo]
    refine (Jn_x E (fun J => ?_)).trans ?_
    · rw [eE]
      by_cases h0 : e = 0
      · rw [if_pos (show nI e = 0 by rw [h0]; rfl), if_pos h0]
      · rw [if_neg (nI_ne0 (by omega) (by omega)), if_neg h0, Jn_if]
        by_cases h1 : e = 1
        · rw [if_pos ((nIl 1 (by omega) (by omega)).mpr h1), if_pos h1, (ent _ _ a14.1 a14.2.1 a14.2.2).1]
        · rw [if_neg (fun q => h1 ((nIl 1 (by omega) (by omega)).mp q)), if_neg h1, (ent _ _ a18.1 a18.2.1 a18.2.2).1]
    · rw [bd_e (mof hPl hi21 (by decide)), vm, bd_e hxy.1, bd_e hxy.2, bd_e q2, bd_e (mof hPl hi21 (by decide)), q4.fm 1 (by decide) (by decide), cim, cir.1]
      exact bd_e w2
