/-! the distance: two ways to the same root -/
theorem sqn (x : Int) : 0 ≤ x * x := by
  rcases Int.le_total 0 x with h | h
  · exact Int.mul_nonneg h h
  · exact Int.mul_nonneg_of_nonpos_of_nonpos h h
theorem shr1 {y : Nat} (h : y < 2 ^ 61) : lN (2 * y) >>> (Int32.toInt64 (1 : Int32) &&& 63) = lN y := by
  apply Int64.toInt_inj.mp
  have e : (Int32.toInt64 (1 : Int32) &&& 63 : Int64) = 1 := by decide
  rw [e, pk_lT (by omega)]
  have hs : (lN (2 * y) >>> (1 : Int64)).toInt = (lN (2 * y)).toInt >>> 1 := by
    show (BitVec.sshiftRight' (lN (2 * y)).toBitVec ((1 : Int64).toBitVec.smod 64)).toInt = _
    rw [BitVec.toInt_sshiftRight']
    rfl
  rw [hs, pk_lT (by omega), Int.shiftRight_eq_div_pow]
  omega
theorem dg (k : Nat) (h : k ≤ 29) : lN (4 ^ (k + 1)) >>> (Int32.toInt64 (2 : Int32) &&& 63) = lN (4 ^ k) := (by decide +kernel : ∀ k, k ≤ 29 → lN (4 ^ (k + 1)) >>> (Int32.toInt64 (2 : Int32) &&& 63) = lN (4 ^ k)) k h
theorem dg0 : lN (4 ^ 0) >>> (Int32.toInt64 (2 : Int32) &&& 63) = lN 0 := by decide +kernel
theorem bt (k : Nat) (h : k ≤ 30) : (1 : Int64) <<< (Int32.toInt64 (nI k) &&& 63) = lN (2 ^ k) := (by decide +kernel : ∀ k, k ≤ 30 → (1 : Int64) <<< (Int32.toInt64 (nI k) &&& 63) = lN (2 ^ k)) k h
theorem p4 (k : Nat) : 4 ^ k = 2 ^ k * 2 ^ k := by
  rw [← Nat.mul_pow]
theorem root_lock (n : Nat) (hn : n < 2 ^ 61) : ∀ (k : Nat), k ≤ 31 → ∀ (f g : Nat), k < f → k < g → ∀ R : Nat, R * R ≤ n → R + 2 ^ k ≤ 2 ^ 31 →
    lp (lb_m_distance_34 (lN n) (fun x => some (Int64.toInt32 x))) f (lN R, nI k - 1) = lp (lb_f_Cm_root_10 (fun x => some (Int64.toInt32 x))) g (lN (n - R * R), lN (R * 2 ^ k), if k = 0 then lN 0 else lN (4 ^ (k - 1))) := by
  intro k
  induction k with
  | zero =>
    intro _ f g hf hg R h1 h2
    rw [lp_s hf, lp_s hg]
    unfold lb_m_distance_34 lb_f_Cm_root_10
    rw [if_pos (show nI 0 - 1 < 0 by decide), if_pos (show (if (0 : Nat) = 0 then lN 0 else lN (4 ^ (0 - 1))) ≤ (0 : Int64) by decide)]
    simp
  | succ k ih =>
    intro hk f g hf hg R h1 h2
    have hk1 : nI (k + 1) - 1 = nI k := nI_pred k
    have pk0 : 0 < 2 ^ k := Nat.two_pow_pos k
    have ps : 2 ^ (k + 1) = 2 * 2 ^ k := by rw [Nat.pow_succ]; omega
    have pk31 : 2 ^ k ≤ 2 ^ 30 := Nat.pow_le_pow_right (by decide) (by omega)
    have e4 := p4 k
    have hRk : R + 2 ^ k ≤ 2 ^ 31 := by omega
    have hsq : (R + 2 ^ k) * (R + 2 ^ k) ≤ 2 ^ 31 * 2 ^ 31 := Nat.mul_le_mul hRk hRk
    have ex : (R + 2 ^ k) * (R + 2 ^ k) = R * R + R * (2 * 2 ^ k) + 4 ^ k := by
      rw [e4, Nat.add_mul, Nat.mul_add, Nat.mul_add, Nat.mul_comm (2 ^ k) R, Nat.mul_left_comm R 2]
      omega
    rw [lp_s (show 0 < f by omega), lp_s (show 0 < g by omega), hk1]
    unfold lb_m_distance_34 lb_f_Cm_root_10
    have c1 : ¬ nI k < 0 := nI_pos (by omega)
    have c2 : ¬ (if k + 1 = 0 then lN 0 else lN (4 ^ (k + 1 - 1))) ≤ (0 : Int64) := by
      rw [if_neg (by omega)]
      intro h
      have h4 : 0 < 4 ^ k := Nat.pow_pos (by decide)
      have := (pk_lLE (a := 4 ^ (k + 1 - 1)) (b := 0) (by rw [Nat.add_sub_cancel]; omega) (by decide)).mp h
      rw [Nat.add_sub_cancel] at this
      omega
    simp only [Lt_e, Jn_e]
    rw [if_neg c1, if_neg c2, bt k (by omega), lN_add, lN_mul, if_neg (show ¬ k + 1 = 0 by omega), Nat.add_sub_cancel, lN_add, ps]
    have hpr : nI k + (-1) = nI k - 1 := by
      rw [Int32.sub_eq_add_neg]
    have hdig : lN (4 ^ k) >>> (Int32.toInt64 (2 : Int32) &&& 63) = if k = 0 then lN 0 else lN (4 ^ (k - 1)) := by
      cases k with
      | zero => exact dg0
      | succ k => exact dg k (by omega)
    have hres : lN (R * (2 * 2 ^ k)) >>> (Int32.toInt64 (1 : Int32) &&& 63) = lN (R * 2 ^ k) := by
      have e : R * (2 * 2 ^ k) = 2 * (R * 2 ^ k) := by rw [Nat.mul_left_comm]
      rw [e]
      have hj : 0 < 2 ^ k * 2 ^ k := Nat.mul_pos pk0 pk0
      exact shr1 (by omega)
    by_cases hc : n < (R + 2 ^ k) * (R + 2 ^ k)
    · rw [if_pos ((pk_lLT (by omega) (by omega)).mpr hc), if_pos ((pk_lLT (by omega) (by omega)).mpr (by omega)), hpr, hdig, hres]
      exact ih (by omega) (f - 1) (g - 1) (by omega) (by omega) R h1 hRk
    · rw [if_neg (fun h => hc ((pk_lLT (by omega) (by omega)).mp h)), if_neg (fun h => hc (by have := (pk_lLT (by omega) (by omega)).mp h; omega)), hpr, hdig, hres, lN_sub (by omega), lN_add]
      have e5 : n - R * R - (R * (2 * 2 ^ k) + 4 ^ k) = n - (R + 2 ^ k) * (R + 2 ^ k) := by omega
      have e6 : R * 2 ^ k + 4 ^ k = (R + 2 ^ k) * 2 ^ k := by rw [e4, Nat.add_mul]
      rw [e5, e6]
      exact ih (by omega) (f - 1) (g - 1) (by omega) (by omega) (R + 2 ^ k) (by omega) (by omega)
/-- within a billion or so the class's distance is the reference's -/
theorem distance_e {a b x y : Int32} (h1 : -268435456 ≤ a.toInt ∧ a.toInt ≤ 268435456) (h2 : -268435456 ≤ b.toInt ∧ b.toInt ≤ 268435456) (h3 : -268435456 ≤ x.toInt ∧ x.toInt ≤ 268435456) (h4 : -268435456 ≤ y.toInt ∧ y.toInt ≤ 268435456) : m_distance a b x y = f_Cm_distance a b x y := by
  unfold m_distance f_Cm_distance f_Cm_root
  simp only [Lt_e, Jn_e]
  have dx : (x.toInt64 - a.toInt64).toInt = x.toInt - a.toInt := by rw [Int64.toInt_sub, Int32.toInt_toInt64, Int32.toInt_toInt64, bm64 (by omega) (by omega)]
  have dy : (y.toInt64 - b.toInt64).toInt = y.toInt - b.toInt := by rw [Int64.toInt_sub, Int32.toInt_toInt64, Int32.toInt_toInt64, bm64 (by omega) (by omega)]
  have mx := mulb (a := x.toInt - a.toInt) (b := x.toInt - a.toInt) (A := 536870912) (B := 536870912) (by omega) (by omega) (by omega) (by omega)
  have my := mulb (a := y.toInt - b.toInt) (b := y.toInt - b.toInt) (A := 536870912) (B := 536870912) (by omega) (by omega) (by omega) (by omega)
  have px : 0 ≤ (x.toInt - a.toInt) * (x.toInt - a.toInt) := sqn _
  have py : 0 ≤ (y.toInt - b.toInt) * (y.toInt - b.toInt) := sqn _
  have hs : ((x.toInt64 - a.toInt64) * (x.toInt64 - a.toInt64) + (y.toInt64 - b.toInt64) * (y.toInt64 - b.toInt64)).toInt = (x.toInt - a.toInt) * (x.toInt - a.toInt) + (y.toInt - b.toInt) * (y.toInt - b.toInt) := by
    rw [Int64.toInt_add, Int64.toInt_mul, Int64.toInt_mul, dx, dy, bm64 (x := (x.toInt - a.toInt) * (x.toInt - a.toInt)) (by omega) (by omega), bm64 (x := (y.toInt - b.toInt) * (y.toInt - b.toInt)) (by omega) (by omega), bm64 (by omega) (by omega)]
  generalize (x.toInt64 - a.toInt64) * (x.toInt64 - a.toInt64) + (y.toInt64 - b.toInt64) * (y.toInt64 - b.toInt64) = s at hs
  obtain ⟨n, hn, e⟩ : ∃ n : Nat, n < 2 ^ 61 ∧ s = lN n := by
    refine ⟨s.toInt.toNat, by omega, Int64.toInt_inj.mp ?_⟩
    rw [pk_lT (by omega)]
    omega
  have hl := root_lock n hn 31 (by decide) 4000 4000 (by decide) (by decide) 0 (by omega) (by decide)
  rw [e]
  have e0 : lN (n - 0 * 0) = lN n := by simp
  have e1 : lN (0 * 2 ^ 31) = (0 : Int64) := by decide
  have e2 : (if (31 : Nat) = 0 then (0 : Int64) else lN (4 ^ (31 - 1))) = (1152921504606846976 : Int64) := by decide
  have e3 : nI 31 - 1 = (30 : Int32) := by decide
  rw [e0, e1, e2, e3] at hl
  rw [hl]
  cases lp (lb_f_Cm_root_10 fun x => some x.toInt32) 4000 (lN n, (0 : Int64), (1152921504606846976 : Int64)) <;> rfl
