/-! settings, speeds, radii: ints on one side, longs on the other -/
theorem tI_mul {a b : Int32} (h1 : -2147483648 ≤ a.toInt * b.toInt) (h2 : a.toInt * b.toInt < 2147483648) : (a * b).toInt = a.toInt * b.toInt := by rw [Int32.toInt_mul, bm32 h1 h2]
theorem tI_add {a b : Int32} (h1 : -2147483648 ≤ a.toInt + b.toInt) (h2 : a.toInt + b.toInt < 2147483648) : (a + b).toInt = a.toInt + b.toInt := by rw [Int32.toInt_add, bm32 h1 h2]
theorem tI_sub {a b : Int32} (h1 : -2147483648 ≤ a.toInt - b.toInt) (h2 : a.toInt - b.toInt < 2147483648) : (a - b).toInt = a.toInt - b.toInt := by rw [Int32.toInt_sub, bm32 h1 h2]
theorem tL_mul {a b : Int64} (h1 : -9223372036854775808 ≤ a.toInt * b.toInt) (h2 : a.toInt * b.toInt < 9223372036854775808) : (a * b).toInt = a.toInt * b.toInt := by rw [Int64.toInt_mul, bm64 h1 h2]
theorem tL_add {a b : Int64} (h1 : -9223372036854775808 ≤ a.toInt + b.toInt) (h2 : a.toInt + b.toInt < 9223372036854775808) : (a + b).toInt = a.toInt + b.toInt := by rw [Int64.toInt_add, bm64 h1 h2]
theorem tL_sub {a b : Int64} (h1 : -9223372036854775808 ≤ a.toInt - b.toInt) (h2 : a.toInt - b.toInt < 9223372036854775808) : (a - b).toInt = a.toInt - b.toInt := by rw [Int64.toInt_sub, bm64 h1 h2]
theorem tI_div {a b : Int32} {n : Int} (hb : b.toInt = n) (h : n ≠ -1) : (a / b).toInt = a.toInt.tdiv n := by
  have hne : b ≠ -1 := fun q => h (by rw [← hb, q]; decide)
  rw [Int32.toInt_div_of_ne_right _ _ hne, hb]
theorem tL_div {a b : Int64} {n : Int} (hb : b.toInt = n) (h : n ≠ -1) : (a / b).toInt = a.toInt.tdiv n := by
  have hne : b ≠ -1 := fun q => h (by rw [← hb, q]; decide)
  rw [Int64.toInt_div_of_ne_right _ _ hne, hb]
theorem tw (a : Int32) : a.toInt64.toInt = a.toInt := Int32.toInt_toInt64 a
theorem tn {a : Int64} (h1 : -2147483648 ≤ a.toInt) (h2 : a.toInt < 2147483648) : a.toInt32.toInt = a.toInt := by rw [Int64.toInt_toInt32, bm32 h1 h2]
/-- a quotient is no larger than what was divided -/
theorem tdb {x d B : Int} (hd : 0 < d) (h1 : -B ≤ x) (h2 : x ≤ B) : -B ≤ x.tdiv d ∧ x.tdiv d ≤ B := by
  rcases Int.lt_or_le x 0 with h | h
  · rw [td_neg h]
    have a1 : 0 ≤ (-x) / d := Int.ediv_nonneg (by omega) (by omega)
    have a2 : (-x) / d ≤ -x := Int.ediv_le_self _ (by omega)
    omega
  · rw [td_pos h]
    have a1 : 0 ≤ x / d := Int.ediv_nonneg h (by omega)
    have a2 : x / d ≤ x := Int.ediv_le_self _ h
    omega
/-- the settings are the same on both sides, and in their bounds -/
def SetR (c m : St) : Prop :=
  True ∧ (c 1 2 = m 0 8 ∧ -99 ≤ (c 1 2).toInt ∧ (c 1 2).toInt ≤ 99) ∧ (c 1 3 = m 0 9 ∧ -99 ≤ (c 1 3).toInt ∧ (c 1 3).toInt ≤ 99) ∧ (c 1 4 = m 0 10 ∧ 10 ≤ (c 1 4).toInt ∧ (c 1 4).toInt ≤ 450) ∧ (c 1 5 = m 0 11 ∧ 100 ≤ (c 1 5).toInt ∧ (c 1 5).toInt ≤ 500) ∧
  (c 1 6 = m 0 12 ∧ 100 ≤ (c 1 6).toInt ∧ (c 1 6).toInt ≤ 900) ∧ (c 1 7 = m 0 13 ∧ 100 ≤ (c 1 7).toInt ∧ (c 1 7).toInt ≤ 900) ∧ (c 1 8 = m 0 14 ∧ 100 ≤ (c 1 8).toInt ∧ (c 1 8).toInt ≤ 900) ∧ (c 1 9 = m 0 15 ∧ 0 ≤ (c 1 9).toInt ∧ (c 1 9).toInt ≤ 450) ∧ (c 1 10 = m 0 16 ∧ 0 ≤ (c 1 10).toInt ∧ (c 1 10).toInt ≤ 450)
theorem imin_b {a b : Int32} : (imin a b).toInt ≤ a.toInt ∧ (imin a b).toInt ≤ b.toInt ∧ (imin a b = a ∨ imin a b = b) := by
  unfold imin
  by_cases h : b < a
  · rw [if_pos h]
    have := Int32.lt_iff_toInt_lt.mp h
    exact ⟨by omega, Int.le_refl _, Or.inr rfl⟩
  · rw [if_neg h]
    have := Int32.le_iff_toInt_le.mp (Int32.not_lt.mp h)
    exact ⟨Int.le_refl _, this, Or.inl rfl⟩
theorem imax_b {a b : Int32} : a.toInt ≤ (imax a b).toInt ∧ b.toInt ≤ (imax a b).toInt ∧ (imax a b = a ∨ imax a b = b) := by
  unfold imax
  by_cases h : a < b
  · rw [if_pos h]
    have := Int32.lt_iff_toInt_lt.mp h
    exact ⟨by omega, Int.le_refl _, Or.inr rfl⟩
  · rw [if_neg h]
    have := Int32.le_iff_toInt_le.mp (Int32.not_lt.mp h)
    exact ⟨Int.le_refl _, this, Or.inl rfl⟩
theorem k1000 : (1000 : Int32).toInt = 1000 := by decide
theorem k1000L : (1000 : Int64).toInt = 1000 := by decide
/-- the wind along a course, and a ground speed -/
def wnd (c : St) (k : Int32) : Int32 := ((c 1 2 * sn k) + (c 1 3 * sn (k + (6 : Int32)))) / (1000 : Int32)
def gsp (c : St) (lim k : Int32) : Int32 := imax (50 : Int32) (imin (c 1 5) lim + wnd c k)
theorem wnd_b {c m : St} (hS : SetR c m) (k : Int32) : (wnd c k).toInt = ((c 1 2).toInt * (sn k).toInt + (c 1 3).toInt * (sn (k + (6 : Int32))).toInt).tdiv 1000 ∧ -198 ≤ (wnd c k).toInt ∧ (wnd c k).toInt ≤ 198 := by
  obtain ⟨-, h2, h3, -⟩ := hS
  have s1 := sn_b k
  have s2 := sn_b (k + (6 : Int32))
  have m1 := mulb (a := (c 1 2).toInt) (b := (sn k).toInt) (A := 99) (B := 1000) h2.2.1 h2.2.2 s1.1 s1.2
  have m2 := mulb (a := (c 1 3).toInt) (b := (sn (k + (6 : Int32))).toInt) (A := 99) (B := 1000) h3.2.1 h3.2.2 s2.1 s2.2
  have e : (wnd c k).toInt = ((c 1 2).toInt * (sn k).toInt + (c 1 3).toInt * (sn (k + (6 : Int32))).toInt).tdiv 1000 := by
    unfold wnd
    rw [tI_div k1000 (by decide), tI_add (by rw [tI_mul (by omega) (by omega), tI_mul (by omega) (by omega)]; omega) (by rw [tI_mul (by omega) (by omega), tI_mul (by omega) (by omega)]; omega), tI_mul (by omega) (by omega), tI_mul (by omega) (by omega)]
  refine ⟨e, ?_⟩
  rw [e]
  generalize (c 1 2).toInt * (sn k).toInt = u at *
  generalize (c 1 3).toInt * (sn (k + (6 : Int32))).toInt = v at *
  rcases Int.lt_or_le (u + v) 0 with h | h
  · rw [td_neg h]
    omega
  · rw [td_pos h]
    omega
theorem gs_c (c : St) (lim k : Int32) : f_Sg_groundSpeed c 1 lim k = some (gsp c lim k) := by
  unfold f_Sg_groundSpeed f_Sg_airSpeed
  rw [bd_e (east_e c k), bd_e (north_e c k), Lt_e]
  rfl
theorem as_c (c : St) (lim : Int32) : f_Sg_airSpeed c 1 lim = some (imin (c 1 5) lim) := rfl
theorem as_m {c m : St} (hS : SetR c m) {P i lim : Int32} (hof : m_of m P i (11 : Int32) = some lim) : m_airspeed m P i = some (imin (c 1 5) lim) := by
  unfold m_airspeed
  rw [bd_e hof, hS.2.2.2.2.1.1, bd_e (lesser_e _ _)]
theorem gs_m {c m : St} (hK : RefK m) (hS : SetR c m) {P i lim : Int32} (k : Int32) (hof : m_of m P i (11 : Int32) = some lim) (hl : 0 ≤ lim.toInt) : m_groundSpeed m P i k = some (gsp c lim k) := by
  unfold m_groundSpeed
  rw [bd_e (sx_e hK k), bd_e (sy_e hK k), Lt_e, bd_e (as_m hS hof), bd_e (greater_e _ _)]
  unfold gsp
  congr 2
  have hw := wnd_b hS k
  have h5 := hS.2.2.2.2.1
  have hm := imin_b (a := c 1 5) (b := lim)
  have hm0 : 0 ≤ (imin (c 1 5) lim).toInt := by
    rcases hm.2.2 with e | e
    · rw [e]; omega
    · rw [e]; omega
  have s1 := sn_b k
  have s2 := sn_b (k + (6 : Int32))
  have h2 := hS.2.1
  have h3 := hS.2.2.1
  have m1 := mulb (a := (c 1 2).toInt) (b := (sn k).toInt) (A := 99) (B := 1000) h2.2.1 h2.2.2 s1.1 s1.2
  have m2 := mulb (a := (c 1 3).toInt) (b := (sn (k + (6 : Int32))).toInt) (A := 99) (B := 1000) h3.2.1 h3.2.2 s2.1 s2.2
  have q1 : ((m 0 8).toInt64 * (sn k).toInt64).toInt = (c 1 2).toInt * (sn k).toInt := by
    rw [tL_mul (by rw [tw, tw, ← h2.1]; omega) (by rw [tw, tw, ← h2.1]; omega), tw, tw, h2.1]
  have q2 : ((m 0 9).toInt64 * (sn (k + (6 : Int32))).toInt64).toInt = (c 1 3).toInt * (sn (k + (6 : Int32))).toInt := by
    rw [tL_mul (by rw [tw, tw, ← h3.1]; omega) (by rw [tw, tw, ← h3.1]; omega), tw, tw, h3.1]
  have q3 : (((m 0 8).toInt64 * (sn k).toInt64 + (m 0 9).toInt64 * (sn (k + (6 : Int32))).toInt64) / (1000 : Int64)).toInt = (wnd c k).toInt := by
    rw [tL_div k1000L (by decide), tL_add (by rw [q1, q2]; omega) (by rw [q1, q2]; omega), q1, q2, hw.1]
  have q4 : ((imin (c 1 5) lim).toInt64 + ((m 0 8).toInt64 * (sn k).toInt64 + (m 0 9).toInt64 * (sn (k + (6 : Int32))).toInt64) / (1000 : Int64)).toInt = (imin (c 1 5) lim).toInt + (wnd c k).toInt := by
    rw [tL_add (by rw [tw, q3]; omega) (by rw [tw, q3]; omega), tw, q3]
  apply i2
  rw [tn (by rw [q4]; omega) (by rw [q4]; omega), q4, tI_add (by omega) (by omega)]
theorem gsp_b {c m : St} (hS : SetR c m) {lim : Int32} (hl : 0 ≤ lim.toInt) (k : Int32) : 50 ≤ (gsp c lim k).toInt ∧ (gsp c lim k).toInt ≤ 698 := by
  have hw := wnd_b hS k
  have h5 := hS.2.2.2.2.1
  have hm := imin_b (a := c 1 5) (b := lim)
  have hm0 : 0 ≤ (imin (c 1 5) lim).toInt := by
    rcases hm.2.2 with e | e
    · rw [e]; omega
    · rw [e]; omega
  have k50 : (50 : Int32).toInt = 50 := by decide
  have hx := imax_b (a := (50 : Int32)) (b := imin (c 1 5) lim + wnd c k)
  have hs : (imin (c 1 5) lim + wnd c k).toInt = (imin (c 1 5) lim).toInt + (wnd c k).toInt := tI_add (by omega) (by omega)
  unfold gsp
  rcases hx.2.2 with e | e
  · rw [e, k50]; omega
  · refine ⟨by omega, ?_⟩
    rw [e, hs]
    omega
/-- a turn's radius -/
def rad (g : Int32) : Int32 := imax (1 : Int32) ((g * g) / (3200 : Int32))
theorem rad_c (g : Int32) : f_Cm_turnRadiusAt g = some (rad g) := rfl
theorem rad_b {g : Int32} (h1 : 0 ≤ g.toInt) (h2 : g.toInt ≤ 999) : 1 ≤ (rad g).toInt ∧ (rad g).toInt ≤ 311 ∧ imax (1 : Int32) (Int64.toInt32 ((g.toInt64 * g.toInt64) / (3200 : Int64))) = rad g := by
  have mm := mulb (a := g.toInt) (b := g.toInt) (A := 999) (B := 999) (by omega) h2 (by omega) h2
  have p0 := sqn g.toInt
  have k32 : (3200 : Int32).toInt = 3200 := by decide
  have k32L : (3200 : Int64).toInt = 3200 := by decide
  have k1 : (1 : Int32).toInt = 1 := by decide
  have e1 : ((g * g) / (3200 : Int32)).toInt = g.toInt * g.toInt / 3200 := by rw [tI_div k32 (by decide), tI_mul (by omega) (by omega), td_pos p0]
  have e2 : ((g.toInt64 * g.toInt64) / (3200 : Int64)).toInt = g.toInt * g.toInt / 3200 := by
    rw [tL_div k32L (by decide), tL_mul (by rw [tw]; omega) (by rw [tw]; omega), tw, td_pos p0]
  have e3 : Int64.toInt32 ((g.toInt64 * g.toInt64) / (3200 : Int64)) = (g * g) / (3200 : Int32) := by
    apply i2
    rw [tn (by rw [e2]; omega) (by rw [e2]; omega), e2, e1]
  refine ⟨?_, ?_, by rw [e3]; rfl⟩
  · have := (imax_b (a := (1 : Int32)) (b := (g * g) / (3200 : Int32))).1
    unfold rad
    omega
  · unfold rad
    rcases (imax_b (a := (1 : Int32)) (b := (g * g) / (3200 : Int32))).2.2 with e | e
    · rw [e]; omega
    · rw [e, e1]; omega
