/-! a segment that is flown over: numbers -/

theorem Int32_cancel {s o : Int32} (h : (s + o).toInt = s.toInt + o.toInt) (hb : -10000000 ≤ o.toInt ∧ o.toInt ≤ 10000000) : (s + o) - s = o := i2 (by rw [tI_sub (by omega) (by omega), h]; omega)
/-- where a path regains its segment, in ints and in longs -/
theorem reg_e {x y a b M : Int32} (hx : -310 ≤ x.toInt ∧ x.toInt ≤ 310) (hy : -310 ≤ y.toInt ∧ y.toInt ≤ 310) (ha : -1000 ≤ a.toInt ∧ a.toInt ≤ 1000) (hb : -1000 ≤ b.toInt ∧ b.toInt ≤ 1000) (hM : 0 ≤ M.toInt) {X Y : Int64} (eX : X.toInt = x.toInt) (eY : Y.toInt = y.toInt) {j : Int32} (ej : j = imin (imax (((x * a) + (y * b)) / (1000 : Int32) + (2 : Int32) * iabs (((x * b) - (y * a)) / (1000 : Int32))) (0 : Int32)) M)
    {Q J K : Int64} (eQ : Q = if (0 : Int64) ≤ (X * b.toInt64) - (Y * a.toInt64) then (X * b.toInt64) - (Y * a.toInt64) else -((X * b.toInt64) - (Y * a.toInt64))) (eJ : J = if (0 : Int64) ≤ ((X * a.toInt64) + (Y * b.toInt64)) / (1000 : Int64) + (2 : Int64) * (Q / (1000 : Int64)) then ((X * a.toInt64) + (Y * b.toInt64)) / (1000 : Int64) + (2 : Int64) * (Q / (1000 : Int64)) else 0) (eK : K = if J ≤ M.toInt64 then J else M.toInt64) :
    Int64.toInt32 K = j ∧ 0 ≤ j.toInt ∧ j.toInt ≤ M.toInt := by
  have m1 := mulb (a := x.toInt) (b := a.toInt) (A := 310) (B := 1000) hx.1 hx.2 ha.1 ha.2
  have m2 := mulb (a := y.toInt) (b := b.toInt) (A := 310) (B := 1000) hy.1 hy.2 hb.1 hb.2
  have m3 := mulb (a := x.toInt) (b := b.toInt) (A := 310) (B := 1000) hx.1 hx.2 hb.1 hb.2
  have m4 := mulb (a := y.toInt) (b := a.toInt) (A := 310) (B := 1000) hy.1 hy.2 ha.1 ha.2
  have M0 := i32_rng M
  have k2 : (2 : Int32).toInt = 2 := by decide
  have k2L : (2 : Int64).toInt = 2 := by decide
  have k0 : (0 : Int32).toInt = 0 := by decide
  have k0L : (0 : Int64).toInt = 0 := by decide
  have i1 : (x * a).toInt = x.toInt * a.toInt := tI_mul (by omega) (by omega)
  have i2' : (y * b).toInt = y.toInt * b.toInt := tI_mul (by omega) (by omega)
  have i3 : (x * b).toInt = x.toInt * b.toInt := tI_mul (by omega) (by omega)
  have i4 : (y * a).toInt = y.toInt * a.toInt := tI_mul (by omega) (by omega)
  have L1 : (X * a.toInt64).toInt = x.toInt * a.toInt := by rw [tL_mul (by rw [tw, eX]; omega) (by rw [tw, eX]; omega), tw, eX]
  have L2 : (Y * b.toInt64).toInt = y.toInt * b.toInt := by rw [tL_mul (by rw [tw, eY]; omega) (by rw [tw, eY]; omega), tw, eY]
  have L3 : (X * b.toInt64).toInt = x.toInt * b.toInt := by rw [tL_mul (by rw [tw, eX]; omega) (by rw [tw, eX]; omega), tw, eX]
  have L4 : (Y * a.toInt64).toInt = y.toInt * a.toInt := by rw [tL_mul (by rw [tw, eY]; omega) (by rw [tw, eY]; omega), tw, eY]
  generalize x.toInt * a.toInt = A1 at *
  generalize y.toInt * b.toInt = A2 at *
  generalize x.toInt * b.toInt = A3 at *
  generalize y.toInt * a.toInt = A4 at *
  have p1 : (((x * a) + (y * b)) / (1000 : Int32)).toInt = (A1 + A2).tdiv 1000 := by rw [tI_div k1000 (by decide), tI_add (by omega) (by omega), i1, i2']
  have p2 : (((x * b) - (y * a)) / (1000 : Int32)).toInt = (A3 - A4).tdiv 1000 := by rw [tI_div k1000 (by decide), tI_sub (by omega) (by omega), i3, i4]
  have p1L : (((X * a.toInt64) + (Y * b.toInt64)) / (1000 : Int64)).toInt = (A1 + A2).tdiv 1000 := by rw [tL_div k1000L (by decide), tL_add (by omega) (by omega), L1, L2]
  have dL : ((X * b.toInt64) - (Y * a.toInt64)).toInt = A3 - A4 := by rw [tL_sub (by omega) (by omega), L3, L4]
  have t1 : -620 ≤ (A1 + A2).tdiv 1000 ∧ (A1 + A2).tdiv 1000 ≤ 620 := by
    rcases Int.lt_or_le (A1 + A2) 0 with h | h
    · rw [td_neg h]; omega
    · rw [td_pos h]; omega
  have t2 : -620 ≤ (A3 - A4).tdiv 1000 ∧ (A3 - A4).tdiv 1000 ≤ 620 := by
    rcases Int.lt_or_le (A3 - A4) 0 with h | h
    · rw [td_neg h]; omega
    · rw [td_pos h]; omega
  have ab : (iabs (((x * b) - (y * a)) / (1000 : Int32))).toInt = (Q / (1000 : Int64)).toInt ∧ 0 ≤ (Q / (1000 : Int64)).toInt ∧ (Q / (1000 : Int64)).toInt ≤ 620 := by
    rw [tL_div k1000L (by decide), eQ]
    unfold iabs
    rcases Int.lt_or_le (A3 - A4) 0 with h | h
    · have c2 : ¬ (0 : Int64) ≤ (X * b.toInt64) - (Y * a.toInt64) := fun q => by have := Int64.le_iff_toInt_le.mp q; omega
      have nL : (-((X * b.toInt64) - (Y * a.toInt64))).toInt = -(A3 - A4) := by rw [Int64.toInt_neg, dL, bm64 (by omega) (by omega)]
      rw [if_neg c2, nL, td_pos (by omega)]
      rw [td_neg h] at p2 t2
      by_cases c1 : (0 : Int32) ≤ ((x * b) - (y * a)) / (1000 : Int32)
      · have := Int32.le_iff_toInt_le.mp c1
        rw [if_pos c1, p2]
        omega
      · rw [if_neg c1, tI_sub (by omega) (by omega), p2]
        omega
    · have c2 : (0 : Int64) ≤ (X * b.toInt64) - (Y * a.toInt64) := Int64.le_iff_toInt_le.mpr (by omega)
      rw [td_pos h] at p2 t2
      have c1 : (0 : Int32) ≤ ((x * b) - (y * a)) / (1000 : Int32) := Int32.le_iff_toInt_le.mpr (by omega)
      rw [if_pos c2, dL, td_pos h, if_pos c1, p2]
      omega
  have s1 : (((x * a) + (y * b)) / (1000 : Int32) + (2 : Int32) * iabs (((x * b) - (y * a)) / (1000 : Int32))).toInt = (A1 + A2).tdiv 1000 + 2 * (Q / (1000 : Int64)).toInt := by
    have e : ((2 : Int32) * iabs (((x * b) - (y * a)) / (1000 : Int32))).toInt = 2 * (Q / (1000 : Int64)).toInt := by rw [tI_mul (by rw [k2, ab.1]; omega) (by rw [k2, ab.1]; omega), k2, ab.1]
    rw [tI_add (by rw [e]; omega) (by rw [e]; omega), e, p1]
  have s2 : (((X * a.toInt64) + (Y * b.toInt64)) / (1000 : Int64) + (2 : Int64) * (Q / (1000 : Int64))).toInt = (A1 + A2).tdiv 1000 + 2 * (Q / (1000 : Int64)).toInt := by
    have e : ((2 : Int64) * (Q / (1000 : Int64))).toInt = 2 * (Q / (1000 : Int64)).toInt := by rw [tL_mul (by rw [k2L]; omega) (by rw [k2L]; omega), k2L]
    rw [tL_add (by rw [e]; omega) (by rw [e]; omega), e, p1L]
  generalize (A1 + A2).tdiv 1000 + 2 * (Q / (1000 : Int64)).toInt = Z at *
  generalize (((x * a) + (y * b)) / (1000 : Int32) + (2 : Int32) * iabs (((x * b) - (y * a)) / (1000 : Int32))) = U at *
  generalize (((X * a.toInt64) + (Y * b.toInt64)) / (1000 : Int64) + (2 : Int64) * (Q / (1000 : Int64))) = V at *
  have hj : J.toInt = (imax U 0).toInt ∧ 0 ≤ J.toInt := by
    rw [eJ]
    unfold imax
    by_cases c1 : (0 : Int64) ≤ V
    · have := Int64.le_iff_toInt_le.mp c1
      rw [if_pos c1, if_neg (fun q => by have := Int32.lt_iff_toInt_lt.mp q; omega)]
      omega
    · have : ¬ (0 : Int64).toInt ≤ V.toInt := fun q => c1 (Int64.le_iff_toInt_le.mpr q)
      rw [if_neg c1, if_pos (Int32.lt_iff_toInt_lt.mpr (by omega))]
      omega
  generalize imax U 0 = U2 at *
  have hU := i32_rng U2
  have hk : K.toInt = j.toInt ∧ 0 ≤ j.toInt ∧ j.toInt ≤ M.toInt := by
    rw [eK, ej]
    unfold imin
    by_cases c1 : J ≤ M.toInt64
    · have h1 := Int64.le_iff_toInt_le.mp c1
      rw [tw] at h1
      rw [if_pos c1, if_neg (fun q => by have := Int32.lt_iff_toInt_lt.mp q; omega)]
      omega
    · have h1 : ¬ J.toInt ≤ M.toInt64.toInt := fun q => c1 (Int64.le_iff_toInt_le.mpr q)
      rw [tw] at h1
      rw [if_neg c1, if_pos (Int32.lt_iff_toInt_lt.mpr (by omega)), tw]
      omega
  have hjr := i32_rng j
  exact ⟨i2 (by rw [tn (by omega) (by omega)]; exact hk.1), hk.2⟩
theorem bf_nb0 {a a' b b' s : Int32} {d : Nat} {W : Int} (hW : W ≤ 20000000) (ha : Nb W a a') (hb : Nb W b b') (hs : 0 ≤ s.toInt) (hd : d ≤ 20000000) : Nb (W + 2) (bf a b s (nI d)) (bf a' b' s (nI d)) := by
  have ed : (nI d).toInt = (d : Int) := nI_toInt (by omega)
  by_cases h : d = 0
  · subst h
    unfold bf
    rw [if_pos (by decide), if_pos (by decide)]
    exact hb.le (by omega)
  · exact bf_nb hW ha hb (by omega) hs (by omega)
/-- the number of a distance, by the squares -/
theorem dist_d {a b x y : Int32} {R S D : Int} (h1 : Nb R a b) (h2 : Nb S x y) (hR : R ≤ 6000000) (hS : S ≤ 6000000) (hD : 0 ≤ D) (hd : dsq a b x y ≤ D * D) : ∃ d : Nat, m_distance a b x y = some (nI d) ∧ f_Cm_distance a b x y = some (nI d) ∧ (d : Int) ≤ D := by
  obtain ⟨d, e1, e2, e3, e4, e5⟩ := dist_v (h1.big hR).1 (h1.big hR).2 (h2.big hS).1 (h2.big hS).2
  refine ⟨d, e1, e2, ?_⟩
  unfold dsq at hd
  have := ab_sq (a := (d : Int)) (R := D) hD (by omega)
  omega
theorem dsq_tri {a b x y u v : Int32} {D E : Int} (hD : 0 ≤ D) (hE : 0 ≤ E) (h1 : dsq a b x y ≤ D * D) (h2 : dsq x y u v ≤ E * E) : dsq a b u v ≤ (D + E) * (D + E) := by
  unfold dsq at *
  have t := tri (x := x.toInt - a.toInt) (y := y.toInt - b.toInt) (u := u.toInt - x.toInt) (v := v.toInt - y.toInt) hD hE h1 h2
  rw [show x.toInt - a.toInt + (u.toInt - x.toInt) = u.toInt - a.toInt by omega, show y.toInt - b.toInt + (v.toInt - y.toInt) = v.toInt - b.toInt by omega] at t
  exact t
