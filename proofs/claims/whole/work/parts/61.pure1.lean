/-! numbers: when no int or long overflows; courses, points, distances: the class's and the reference's helpers in closed form -/
theorem bm32 {x : Int} (h1 : -2147483648 ≤ x) (h2 : x < 2147483648) : x.bmod (2 ^ 32) = x := by
  show x.bmod 4294967296 = x
  unfold Int.bmod
  dsimp only
  split <;> omega
theorem bm64 {x : Int} (h1 : -9223372036854775808 ≤ x) (h2 : x < 9223372036854775808) : x.bmod (2 ^ 64) = x := by
  show x.bmod 18446744073709551616 = x
  unfold Int.bmod
  dsimp only
  split <;> omega
theorem td_pos {x d : Int} (h : 0 ≤ x) : x.tdiv d = x / d := Int.tdiv_eq_ediv_of_nonneg h
theorem td_neg {x d : Int} (h : x < 0) : x.tdiv d = -((-x) / d) := by
  have e : x = -(-x) := by omega
  rw [e, Int.neg_tdiv, Int.tdiv_eq_ediv_of_nonneg (by omega)]
  simp
theorem mulb {a b A B : Int} (h1 : -A ≤ a) (h2 : a ≤ A) (h3 : -B ≤ b) (h4 : b ≤ B) : -(A * B) ≤ a * b ∧ a * b ≤ A * B := by
  have ha : a.natAbs ≤ A.natAbs := by omega
  have hb : b.natAbs ≤ B.natAbs := by omega
  have hm : (a * b).natAbs ≤ (A * B).natAbs := by
    rw [Int.natAbs_mul, Int.natAbs_mul]
    exact Nat.mul_le_mul ha hb
  have hA : 0 ≤ A := by omega
  have hB : 0 ≤ B := by omega
  have hAB : 0 ≤ A * B := Int.mul_nonneg hA hB
  omega
theorem i2 {a b : Int32} (h : a.toInt = b.toInt) : a = b := Int32.toInt_inj.mp h
theorem i32_rng (a : Int32) : -2147483648 ≤ a.toInt ∧ a.toInt < 2147483648 := by
  have h1 := Int32.le_toInt a
  have h2 := Int32.toInt_lt a
  omega
/-- a course from 0 to 23 -/
def cr (p : Int32) : Int32 := ((p - p / (24 : Int32) * (24 : Int32)) + (24 : Int32)) - ((p - p / (24 : Int32) * (24 : Int32)) + (24 : Int32)) / (24 : Int32) * (24 : Int32)
theorem rmq_toInt (p : Int32) {d : Int32} {n : Int} (hd : d.toInt = n) (h0 : 0 < n) : (p - p / d * d).toInt = p.toInt.tmod n := by
  have hne : d ≠ -1 := fun h => by rw [h] at hd; have : (-1 : Int32).toInt = -1 := by decide
                                   omega
  have e1 : (p / d).toInt = p.toInt.tdiv n := by rw [Int32.toInt_div_of_ne_right _ _ hne, hd]
  have hr := i32_rng p
  have hm := Int.mul_tdiv_add_tmod p.toInt n
  have hb : -2147483648 ≤ p.toInt.tdiv n * n ∧ p.toInt.tdiv n * n < 2147483648 := by
    rw [Int.mul_comm]
    rcases Int.lt_or_le p.toInt 0 with h | h
    · have h1 : p.toInt.tmod n ≤ 0 := by
        have := Int.tmod_nonneg n (a := -p.toInt) (by omega)
        rw [Int.neg_tmod] at this
        omega
      have h2 : p.toInt.tdiv n ≤ 0 := by
        rw [td_neg h]
        have := Int.ediv_nonneg (a := -p.toInt) (b := n) (by omega) (by omega)
        omega
      have h3 : n * p.toInt.tdiv n ≤ 0 := Int.mul_nonpos_of_nonneg_of_nonpos (by omega) h2
      omega
    · have h1 := Int.tmod_nonneg n h
      have h2 : 0 ≤ p.toInt.tdiv n := by rw [td_pos h]; exact Int.ediv_nonneg h (by omega)
      have h3 : 0 ≤ n * p.toInt.tdiv n := Int.mul_nonneg (by omega) h2
      omega
  have e2 : (p / d * d).toInt = p.toInt.tdiv n * n := by rw [Int32.toInt_mul, e1, hd, bm32 hb.1 hb.2]
  have e3 : p.toInt - p.toInt.tdiv n * n = p.toInt.tmod n := by
    rw [Int.mul_comm (p.toInt.tdiv n) n]
    omega
  have hl : p.toInt.tmod n < n := Int.tmod_lt_of_pos _ h0
  have hl2 : -n < p.toInt.tmod n := by
    have := Int.tmod_lt_of_pos (-p.toInt) h0
    rw [Int.neg_tmod] at this
    omega
  have hdr := i32_rng d
  rw [Int32.toInt_sub, e2, e3, bm32 (by omega) (by omega)]
theorem cr_k (p : Int32) : ∃ k : Nat, k < 24 ∧ cr p = nI k := by
  have h24 : (24 : Int32).toInt = 24 := by decide
  have e1 := rmq_toInt p h24 (by decide)
  have hl : p.toInt.tmod 24 < 24 := Int.tmod_lt_of_pos _ (by decide)
  have hl2 : -24 < p.toInt.tmod 24 := by
    have := Int.tmod_lt_of_pos (-p.toInt) (show (0 : Int) < 24 by decide)
    rw [Int.neg_tmod] at this
    omega
  have e2 : ((p - p / (24 : Int32) * (24 : Int32)) + (24 : Int32)).toInt = p.toInt.tmod 24 + 24 := by
    rw [Int32.toInt_add, e1, h24, bm32 (by omega) (by omega)]
  have e3 := rmq_toInt ((p - p / (24 : Int32) * (24 : Int32)) + (24 : Int32)) h24 (by decide)
  rw [e2, Int.tmod_eq_emod_of_nonneg (by omega)] at e3
  refine ⟨((p.toInt.tmod 24 + 24) % 24).toNat, by omega, i2 ?_⟩
  rw [nI_toInt (by omega)]
  show (((p - p / (24 : Int32) * (24 : Int32)) + (24 : Int32)) - ((p - p / (24 : Int32) * (24 : Int32)) + (24 : Int32)) / (24 : Int32) * (24 : Int32)).toInt = _
  rw [e3]
  omega
theorem cr_ix (p : Int32) : Ix (cr p) 24 := by
  obtain ⟨k, hk, e⟩ := cr_k p
  rw [e]
  exact Ix_n hk (by decide)
/-- a thousand times the sine of a course -/
def sn (p : Int32) : Int32 := SINS.getD (cr p).toNatClampNeg 0
theorem sn_b (p : Int32) : -1000 ≤ (sn p).toInt ∧ (sn p).toInt ≤ 1000 := by
  obtain ⟨k, hk, e⟩ := cr_k p
  unfold sn
  rw [e, nI_clamp (by omega)]
  exact (by decide +kernel : ∀ k, k < 24 → -1000 ≤ (SINS.getD k 0).toInt ∧ (SINS.getD k 0).toInt ≤ 1000) k hk
theorem course_e (p : Int32) : f_Cm_course p = some (cr p) := rfl
theorem around_e (p : Int32) : m_around p = some (cr p) := rfl
theorem east_e (c : St) (p : Int32) : f_Cm_east c p = some (sn p) := Gd_t (cr_ix p)
theorem north_e (c : St) (p : Int32) : f_Cm_north c p = some (sn (p + (6 : Int32))) := Gd_t (cr_ix (p + (6 : Int32)))
/-- the reference's tables are as its constructor made them -/
def RefK (m : St) : Prop := (∀ k, k < 24 → m 5 k = SINS.getD k 0) ∧ (∀ k, k < 9 → m 6 k = LEDS.getD k 0) ∧ (∀ k, k < 16 → m 42 k = KNDS.getD k 0)
theorem sx_e {m : St} (h : RefK m) (p : Int32) : m_sx m p = some (sn p) := by
  obtain ⟨k, hk, e⟩ := cr_k p
  unfold m_sx sn
  rw [bd_e (around_e p), Gd_t (cr_ix p), e, nI_clamp (by omega), h.1 k hk]
theorem sy_e {m : St} (h : RefK m) (p : Int32) : m_sy m p = some (sn (p + (6 : Int32))) := sx_e h (p + (6 : Int32))
/-- a point ahead -/
def ah (x d s : Int32) : Int32 := Int64.toInt32 ((Int32.toInt64 x) + (((Int32.toInt64 d) * (Int32.toInt64 s)) / (1000 : Int64)))
theorem ahead_e (x d s : Int32) : m_ahead x d s = some (ah x d s) := rfl
theorem pointX_e (c : St) (x k d : Int32) : f_Cm_pointX c x k d = some (ah x d (sn k)) := by
  unfold f_Cm_pointX
  rw [bd_e (east_e c k)]
  rfl
theorem pointY_e (c : St) (x k d : Int32) : f_Cm_pointY c x k d = some (ah x d (sn (k + (6 : Int32)))) := by
  unfold f_Cm_pointY
  rw [bd_e (north_e c k)]
  rfl
theorem lesser_e (a b : Int32) : m_lesser a b = some (imin a b) := by
  unfold m_lesser imin
  rw [Jn_e]
  by_cases h : b < a
  · rw [if_pos (Int32.le_of_lt h), if_pos h]
  · by_cases h2 : b ≤ a
    · rw [if_pos h2, if_neg h]
      have e : a = b := Int32.le_antisymm (Int32.not_lt.mp h) h2
      rw [e]
    · rw [if_neg h2, if_neg h]
theorem greater_e (a b : Int32) : m_greater a b = some (imax a b) := by
  unfold m_greater imax
  rw [Jn_e]
  by_cases h : a < b
  · rw [if_pos (Int32.le_of_lt h), if_pos h]
  · by_cases h2 : a ≤ b
    · rw [if_pos h2, if_neg h]
      have e : a = b := Int32.le_antisymm h2 (Int32.not_lt.mp h)
      rw [e]
    · rw [if_neg h2, if_neg h]
def bi (b : Bool) : Int32 := bif b then 1 else 0
theorem within_e (v a b : Int32) : f_FL_within v a b = some (bi (decide (a ≤ v ∧ v ≤ b))) := by
  unfold f_FL_within
  rw [Jn_e, Jn_e]
  by_cases h1 : v < a
  · rw [if_pos h1, decide_eq_false (fun h => absurd h.1 (Int32.not_le.mpr h1))]
    rfl
  · by_cases h2 : b < v
    · rw [if_neg h1, if_pos h2, decide_eq_false (fun h => absurd h.2 (Int32.not_le.mpr h2))]
      rfl
    · rw [if_neg h1, if_neg h2, decide_eq_true ⟨Int32.not_lt.mp h1, Int32.not_lt.mp h2⟩]
      rfl
theorem in_e (v a b : Int64) : m_in v a b = some (bi (decide (a ≤ v ∧ v ≤ b))) := by
  unfold m_in
  rw [Jn_e, Jn_e]
  by_cases h1 : v < a
  · rw [if_pos h1, decide_eq_false (fun h => absurd h.1 (Int64.not_le.mpr h1))]
    rfl
  · by_cases h2 : b < v
    · rw [if_neg h1, if_pos h2, decide_eq_false (fun h => absurd h.2 (Int64.not_le.mpr h2))]
      rfl
    · rw [if_neg h1, if_neg h2, decide_eq_true ⟨Int64.not_lt.mp h1, Int64.not_lt.mp h2⟩]
      rfl
theorem l_le (a b : Int32) : (a.toInt64 ≤ b.toInt64) ↔ a ≤ b := by
  rw [Int64.le_iff_toInt_le, Int32.le_iff_toInt_le, Int32.toInt_toInt64, Int32.toInt_toInt64]
theorem before_e (a b s l : Int32) : m_before a b s l = f_Cm_before a b s l := rfl
theorem entry_e {a : Int32} (b r : Int32) (h : 0 ≤ a) : m_entry a b r = f_Cm_entry a b r := by
  unfold m_entry f_Cm_entry
  rw [if_pos h]
  rfl
theorem cbody_e {m : St} (h : RefK m) (c : St) (x1 x2 : Int64) (J : Int32 → Option Int32) : lb_m_courseTo_42 m x1 x2 J = lb_f_Cm_courseBetween_39 c x1 x2 J := by
  funext ih a
  unfold lb_m_courseTo_42 lb_f_Cm_courseBetween_39
  have hc : ((24 : Int32) ≤ a.2.2) ↔ ((23 : Int32) < a.2.2) := by
    rw [Int32.le_iff_toInt_le, Int32.lt_iff_toInt_lt]
    have h1 : (24 : Int32).toInt = 24 := by decide
    have h2 : (23 : Int32).toInt = 23 := by decide
    omega
  by_cases h1 : (23 : Int32) < a.2.2
  · rw [if_pos h1, if_pos (hc.mpr h1)]
  · rw [if_neg h1, if_neg (fun q => h1 (hc.mp q)), bd_e (sx_e h _), bd_e (sy_e h _), bd_e (east_e c _), bd_e (north_e c _)]
    simp only [Lt_e, Jn_e]
    split <;> rfl
theorem courseTo_e {m : St} (h : RefK m) (c : St) (a b x y : Int32) : m_courseTo m a b x y = f_Cm_courseBetween c a b x y := by
  unfold m_courseTo f_Cm_courseBetween
  simp only [Lt_e, Jn_e]
  rw [bd_e (sx_e h _), bd_e (sy_e h _), bd_e (east_e c _), bd_e (north_e c _), cbody_e h c]
