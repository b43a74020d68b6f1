/-! the plane's norm, distances and courses as numbers -/
theorem cs_id (x y u v : Int) : (x * x + y * y) * (u * u + v * v) = (x * u + y * v) * (x * u + y * v) + (x * v - y * u) * (x * v - y * u) := by grind
theorem sq_le {a b : Int} (h0 : 0 ≤ a) (h : a ≤ b) : a * a ≤ b * b := Int.mul_le_mul h h h0 (by omega)
theorem sq_lt {a b : Int} (h0 : 0 ≤ b) (h : a * a < b * b) : a < b := by
  rcases Int.lt_or_le a b with q | q
  · exact q
  · have := sq_le h0 q
    omega
theorem tri {x y u v R L : Int} (hR : 0 ≤ R) (hL : 0 ≤ L) (h1 : x * x + y * y ≤ R * R) (h2 : u * u + v * v ≤ L * L) : (x + u) * (x + u) + (y + v) * (y + v) ≤ (R + L) * (R + L) := by
  have hS : x * u + y * v ≤ R * L := by
    rcases Int.lt_or_le (R * L) (x * u + y * v) with q | q
    · have hRL : 0 ≤ R * L := Int.mul_nonneg hR hL
      have h3 : (R * L) * (R * L) < (x * u + y * v) * (x * u + y * v) := by
        have := sq_le (a := R * L + 1) (b := x * u + y * v) (by omega) (by omega)
        have e : (R * L + 1) * (R * L + 1) = (R * L) * (R * L) + 2 * (R * L) + 1 := by grind
        omega
      have h4 := cs_id x y u v
      have h5 := sqn (x * v - y * u)
      have h6 : (x * x + y * y) * (u * u + v * v) ≤ (R * R) * (L * L) := Int.mul_le_mul h1 h2 (by have := sqn u; have := sqn v; omega) (by have := sqn R; omega)
      have e : (R * R) * (L * L) = (R * L) * (R * L) := by grind
      omega
    · exact q
  have e1 : (x + u) * (x + u) + (y + v) * (y + v) = (x * x + y * y) + (u * u + v * v) + 2 * (x * u + y * v) := by grind
  have e2 : (R + L) * (R + L) = R * R + L * L + 2 * (R * L) := by grind
  omega
/-- a point within R of the middle -/
def Nb (R : Int) (x y : Int32) : Prop := 0 ≤ R ∧ x.toInt * x.toInt + y.toInt * y.toInt ≤ R * R
theorem Nb.le {R S : Int} {x y : Int32} (h : Nb R x y) (hs : R ≤ S) : Nb S x y := ⟨by have := h.1; omega, by have := sq_le h.1 hs; have := h.2; omega⟩
theorem ab_sq {a R : Int} (hR : 0 ≤ R) (h : a * a ≤ R * R) : -R ≤ a ∧ a ≤ R := by
  constructor
  · rcases Int.lt_or_le a (-R) with q | q
    · have := sq_le (a := R + 1) (b := -a) (by omega) (by omega)
      have e : (-a) * (-a) = a * a := by grind
      have e2 : (R + 1) * (R + 1) = R * R + 2 * R + 1 := by grind
      omega
    · exact q
  · rcases Int.lt_or_le R a with q | q
    · have := sq_le (a := R + 1) (b := a) (by omega) (by omega)
      have e2 : (R + 1) * (R + 1) = R * R + 2 * R + 1 := by grind
      omega
    · exact q
theorem Nb.ab {R : Int} {x y : Int32} (h : Nb R x y) : (-R ≤ x.toInt ∧ x.toInt ≤ R) ∧ (-R ≤ y.toInt ∧ y.toInt ≤ R) := by
  have h1 := sqn x.toInt
  have h2 := sqn y.toInt
  exact ⟨ab_sq h.1 (by have := h.2; omega), ab_sq h.1 (by have := h.2; omega)⟩
theorem Nb.big {R : Int} {x y : Int32} (h : Nb R x y) (hR : R ≤ 6000000) : (-268435456 ≤ x.toInt ∧ x.toInt ≤ 268435456) ∧ (-268435456 ≤ y.toInt ∧ y.toInt ≤ 268435456) := by
  have := h.ab
  omega
/-- the reference's root is the root -/
theorem root_v (n : Nat) (hn : n < 2 ^ 61) : ∀ (k : Nat), k ≤ 31 → ∀ (f : Nat), k < f → ∀ R : Nat, R * R ≤ n → n < (R + 2 ^ k) * (R + 2 ^ k) → R + 2 ^ k ≤ 2 ^ 31 →
    ∃ d : Nat, lp (lb_m_distance_34 (lN n) (fun x => some (Int64.toInt32 x))) f (lN R, nI k - 1) = some (nI d) ∧ d * d ≤ n ∧ n < (d + 1) * (d + 1) ∧ d < 2 ^ 31 := by
  intro k
  induction k with
  | zero =>
    intro _ f hf R h1 h2 h3
    rw [lp_s hf]
    unfold lb_m_distance_34
    rw [if_pos (show nI 0 - 1 < 0 by decide)]
    refine ⟨R, ?_, h1, h2, by omega⟩
    exact congrArg some (lN_i R)
  | succ k ih =>
    intro hk f hf R h1 h2 h3
    have hk1 : nI (k + 1) - 1 = nI k := nI_pred k
    have pk0 : 0 < 2 ^ k := Nat.two_pow_pos k
    have ps : 2 ^ (k + 1) = 2 * 2 ^ k := by rw [Nat.pow_succ]; omega
    have pk31 : 2 ^ k ≤ 2 ^ 30 := Nat.pow_le_pow_right (by decide) (by omega)
    have hRk : R + 2 ^ k ≤ 2 ^ 31 := by omega
    have hsq : (R + 2 ^ k) * (R + 2 ^ k) ≤ 2 ^ 31 * 2 ^ 31 := Nat.mul_le_mul hRk hRk
    rw [lp_s (show 0 < f by omega), hk1]
    unfold lb_m_distance_34
    have c1 : ¬ nI k < 0 := nI_pos (by omega)
    have hpr : nI k + (-1) = nI k - 1 := by
      rw [Int32.sub_eq_add_neg]
    simp only [Lt_e, Jn_e]
    rw [if_neg c1, bt k (by omega), lN_add, lN_mul]
    by_cases hc : n < (R + 2 ^ k) * (R + 2 ^ k)
    · rw [if_pos ((pk_lLT (by omega) (by omega)).mpr hc), hpr]
      exact ih (by omega) (f - 1) (by omega) R h1 hc hRk
    · rw [if_neg (fun h => hc ((pk_lLT (by omega) (by omega)).mp h)), hpr]
      exact ih (by omega) (f - 1) (by omega) (R + 2 ^ k) (by omega) (by rw [ps] at h2; rw [show R + 2 ^ k + 2 ^ k = R + 2 * 2 ^ k by omega]; exact h2) (by omega)
theorem dist_v {a b x y : Int32} (h1 : -268435456 ≤ a.toInt ∧ a.toInt ≤ 268435456) (h2 : -268435456 ≤ b.toInt ∧ b.toInt ≤ 268435456) (h3 : -268435456 ≤ x.toInt ∧ x.toInt ≤ 268435456) (h4 : -268435456 ≤ y.toInt ∧ y.toInt ≤ 268435456) :
    ∃ d : Nat, m_distance a b x y = some (nI d) ∧ f_Cm_distance a b x y = some (nI d) ∧ d < 2 ^ 31 ∧ (d : Int) * d ≤ (x.toInt - a.toInt) * (x.toInt - a.toInt) + (y.toInt - b.toInt) * (y.toInt - b.toInt) ∧ (x.toInt - a.toInt) * (x.toInt - a.toInt) + (y.toInt - b.toInt) * (y.toInt - b.toInt) < ((d : Int) + 1) * ((d : Int) + 1) := by
  have key : ∃ d : Nat, m_distance a b x y = some (nI d) ∧ d < 2 ^ 31 ∧ (d : Int) * d ≤ (x.toInt - a.toInt) * (x.toInt - a.toInt) + (y.toInt - b.toInt) * (y.toInt - b.toInt) ∧ (x.toInt - a.toInt) * (x.toInt - a.toInt) + (y.toInt - b.toInt) * (y.toInt - b.toInt) < ((d : Int) + 1) * ((d : Int) + 1) := by
    unfold m_distance
    simp only [Lt_e, Jn_e]
    have dx : (x.toInt64 - a.toInt64).toInt = x.toInt - a.toInt := by rw [Int64.toInt_sub, Int32.toInt_toInt64, Int32.toInt_toInt64, bm64 (by omega) (by omega)]
    have dy : (y.toInt64 - b.toInt64).toInt = y.toInt - b.toInt := by rw [Int64.toInt_sub, Int32.toInt_toInt64, Int32.toInt_toInt64, bm64 (by omega) (by omega)]
    have mx := mulb (a := x.toInt - a.toInt) (b := x.toInt - a.toInt) (A := 536870912) (B := 536870912) (by omega) (by omega) (by omega) (by omega)
    have my := mulb (a := y.toInt - b.toInt) (b := y.toInt - b.toInt) (A := 536870912) (B := 536870912) (by omega) (by omega) (by omega) (by omega)
    have px : 0 ≤ (x.toInt - a.toInt) * (x.toInt - a.toInt) := sqn _
    have py : 0 ≤ (y.toInt - b.toInt) * (y.toInt - b.toInt) := sqn _
    have hs : ((x.toInt64 - a.toInt64) * (x.toInt64 - a.toInt64) + (y.toInt64 - b.toInt64) * (y.toInt64 - b.toInt64)).toInt = (x.toInt - a.toInt) * (x.toInt - a.toInt) + (y.toInt - b.toInt) * (y.toInt - b.toInt) := by
      rw [Int64.toInt_add, Int64.toInt_mul, Int64.toInt_mul, dx, dy, bm64 (x := (x.toInt - a.toInt) * (x.toInt - a.toInt)) (by omega) (by omega), bm64 (x := (y.toInt - b.toInt) * (y.toInt - b.toInt)) (by omega) (by omega), bm64 (by omega) (by omega)]
    generalize (x.toInt64 - a.toInt64) * (x.toInt64 - a.toInt64) + (y.toInt64 - b.toInt64) * (y.toInt64 - b.toInt64) = s at hs
    obtain ⟨n, hn, e, en⟩ : ∃ n : Nat, n < 2 ^ 60 ∧ s = lN n ∧ (n : Int) = s.toInt := by
      refine ⟨s.toInt.toNat, by omega, Int64.toInt_inj.mp ?_, by omega⟩
      rw [pk_lT (by omega)]
      omega
    obtain ⟨d, e1, e2, e3, e4⟩ := root_v n (by omega) 31 (by decide) 4000 (by decide) 0 (by omega) (by omega) (by decide)
    have e3' : nI 31 - 1 = (30 : Int32) := by decide
    rw [e3'] at e1
    refine ⟨d, ?_, e4, ?_, ?_⟩
    · rw [e]
      exact e1
    · rw [← hs, ← en]
      exact_mod_cast e2
    · rw [← hs, ← en]
      exact_mod_cast e3
  obtain ⟨d, k1, k2⟩ := key
  exact ⟨d, k1, by rw [← distance_e h1 h2 h3 h4]; exact k1, k2⟩
theorem cr_v (c : St) (a b x y : Int32) : ∃ k : Nat, k < 24 ∧ f_Cm_courseBetween c a b x y = some (nI k) := by
  unfold f_Cm_courseBetween
  simp only [Lt_e, Jn_e]
  rw [bd_e (east_e c _), bd_e (north_e c _)]
  generalize (x.toInt64 - a.toInt64) = X
  generalize (y.toInt64 - b.toInt64) = Y
  have key : ∀ (d i n : Nat), i + d = 24 → d < n → ∀ (best : Int32) (most : Int64), (∃ k : Nat, k < 24 ∧ best = nI k) → ∃ k : Nat, k < 24 ∧ lp (lb_f_Cm_courseBetween_39 c X Y fun x1 => some x1) n (best, most, nI i) = some (nI k) := by
    intro d
    induction d with
    | zero =>
      intro i n hi hn best most ⟨k, hk, e⟩
      rw [lp_s hn]
      unfold lb_f_Cm_courseBetween_39
      rw [if_pos (show (23 : Int32) < nI i by rw [show i = 24 by omega]; decide)]
      exact ⟨k, hk, by rw [e]⟩
    | succ d ih =>
      intro i n hi hn best most hb
      rw [lp_s (by omega)]
      unfold lb_f_Cm_courseBetween_39
      rw [if_neg (show ¬ (23 : Int32) < nI i by exact nI_nlt (a := 23) (b := i) (by omega) (by omega)), bd_e (east_e c _), bd_e (north_e c _)]
      simp only [Lt_e, Jn_e]
      split
      · rw [nI_1]
        exact ih (i + 1) (n - 1) (by omega) (by omega) _ _ hb
      · rw [nI_1]
        exact ih (i + 1) (n - 1) (by omega) (by omega) _ _ ⟨i, by omega, rfl⟩
  exact key 23 1 4000 (by omega) (by omega) _ _ ⟨0, by decide, rfl⟩
