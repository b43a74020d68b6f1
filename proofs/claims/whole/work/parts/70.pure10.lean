/-! climbs, headings, interceptions -/
variable {N : Nat}

theorem hasLeg_c {c : St} {b q n k : Nat} (hI : PI b q) (hc : c q 1 = nI n) (hn : n < 1000) (hk : k < 1000) : f_Pl_hasLeg c q (nI k) = some (if k < n then 1 else 0) := by
  unfold f_Pl_hasLeg
  rw [Jn_e, Jn_e, if_neg (nI_pos (by omega)), hc]
  by_cases h : k < n
  · rw [if_neg (nI_ge h (by omega)), if_pos h]
    exact Gd_t (show (1 : Int32) &&& 1 = 1 by decide)
  · rw [if_pos (nI_le (by omega) (by omega)), if_neg h]
    exact Gd_t (show (0 : Int32) &&& 1 = 0 by decide)
theorem mid_ca {c m : St} {b q P r i v a t : Nat} {R B : Int} (hP : P ≤ 2376) (hI : PI b q) (hD : Dm c) (hK : RefK m) (hG : SetR c m) (hS : SR N c m b R r) (hN : IR N c m b R r) (hr : r < 42) (hi : i < 21) (hiN : i < N) (h14 : 14200 ≤ R) (hR : R ≤ 5940000) (hx : c (b + 3) 5 = m 0 42) (hy : c (b + 3) 6 = m 0 43) (hs : Nb B (m 0 42) (m 0 43)) (hBR : B + 2261 + 5 * ((a : Int) - t) ≤ R)
    (hv : v < 24) (hvc : c (q + 2) (i * 14 + 2) = nI v) (ha : a ≤ 450) (hac : c (q + 2) (i * 14 + 3) = nI a) (ham : m 1 (P + 3 + 14 * i + 3) = nI a) (ht : t ≤ 450) (htc : c (b + 3) 11 = nI t) (htm : m 0 41 = nI t) :
    ∃ l c' m' r', f_Tk_climbOnCourse c (b + 3) (nI i) = some c' ∧ Dm c' ∧ m_climbLength m (nI P) (nI i) = some l ∧ m_onCourse (mE m i (ah (m 0 42) l (sn (nI v))) (ah (m 0 43) l (sn (nI v + (6 : Int32))))) (nI i) l (nI v) = some m' ∧ MID N c m c' m' b R (B + 2261 + 5 * ((a : Int) - t)) r r' i := by
  have g6 := hG.2.2.2.2.2.1
  obtain ⟨l, l1, l2, l3, l4, l5⟩ := cl_lock (G := c 1 6) ha ht g6.2
  have gne : ¬ c 1 6 = 0 := fun e => by have := g6.2.1; rw [e] at this; exact absurd this (by decide)
  have gneL : ¬ (m 0 12).toInt64 = 0 := fun e => by
    have := tw (m 0 12)
    rw [e, ← g6.1] at this
    have h0 : (0 : Int64).toInt = 0 := by decide
    omega
  have z : ∀ x y k, mE m i x y 0 k = m 0 k := fun x y k => by rw [mE_o (by omega)]
  have hKE : ∀ x y, RefK (mE m i x y) := fun x y => hK.of (mE_o (by omega)) (mE_o (by omega)) (mE_o (by omega))
  obtain ⟨c1, m1, e1, e2, e3, e4, e5⟩ := on_lock (c := c) (m := mE m i (ah (m 0 42) (nI l) (sn (nI v))) (ah (m 0 43) (nI l) (sn (nI v + (6 : Int32))))) (g := i) (v := v) (l := l) (i := i) (B := B) hI hD (hKE _ _) hS.mE hN.mE hr hi hiN hv hvc (by omega) l2 h14 hR (by rw [z]; exact hx) (by rw [z]; exact hy) (by rw [z, z]; exact hs) (by omega)
  rw [z] at e4 e5
  have hD1 := e3.Dm hI hD
  have hb := ah_nb (l := l) (v := v) hs (by omega) l2 (by omega)
  refine ⟨nI l, eh c1 b i, m1, r + 1, ?_, Dm_eh hI hD1, ?_, e2, mid_end e3 (by omega) e4 e5 (hb.le (by omega))⟩
  · unfold f_Tk_climbOnCourse f_Sg_lengthFor
    rw [rc_b30 hI, rc_q0 hI, rc_b31 hI, bd_e (pg hI hD hi (by decide)), Lt_e, Jn_e, if_neg gne, Gd_t gne, hac, htc]
    show (f_Tk_runOn c (b + 3) (nI i) (imax (10 : Int32) (((nI a - nI t) * (1000 : Int32)) / c 1 6))).bind _ = _
    rw [l4, bd_e e1, bd_e (endHere_c hI hD1 hi)]
  · unfold m_climbLength
    rw [bd_e (mof hP hi (by decide)), Gd_t gneL, Lt_e, Jn_e, ham, htm, ← g6.1]
    by_cases h : (10 : Int64) ≤ ((Int32.toInt64 (nI a - nI t)) * (1000 : Int64)) / (Int32.toInt64 (c 1 6))
    · rw [if_pos h] at l5 ⊢
      rw [l5]
    · rw [if_neg h] at l5 ⊢
      rw [l5]
theorem mid_vm {c m : St} {b q r i v : Nat} {R B B' : Int} (hI : PI b q) (hD : Dm c) (hK : RefK m) (hS : SR N c m b R r) (hN : IR N c m b R r) (hr : r < 42) (hi : i < 21) (hiN : i < N) (h14 : 14200 ≤ R) (hR : R ≤ 5940000) (hx : c (b + 3) 5 = m 0 42) (hy : c (b + 3) 6 = m 0 43) (hs : Nb B (m 0 42) (m 0 43)) (hBR : B + 101 ≤ R)
    (hv : v < 24) (hvc : c (q + 2) (i * 14 + 2) = nI v) :
    ∃ c' m' r', f_Tk_runOn c (b + 3) (nI i) (nI 100) = some c' ∧ Dm c' ∧ m_onCourse m (nI i) (nI 100) (nI v) = some m' ∧ MID N c m c' m' b R B' r r' i := by
  obtain ⟨c1, m1, e1, e2, e3, e4, e5⟩ := on_lock (c := c) (m := m) (g := i) (v := v) (l := 100) (i := i) (B := B) hI hD hK hS hN hr hi hiN hv hvc (by omega) (by omega) h14 hR hx hy hs (by omega)
  exact ⟨c1, m1, r + 1, e1, e3.Dm hI hD, e2, mid_no e3 (by omega)⟩
/-- the interception, the same on both sides -/
theorem int_lock {c m : St} {b q P i v n : Nat} {R0 : Int} (hI : PI b q) (hD : Dm c) (hK : RefK m) (hP : PlanR c m q P R0 n) (hi : i < n) (hx : c (b + 3) 5 = m 0 42) (hy : c (b + 3) 6 = m 0 43) (hvc : c (q + 2) (i * 14 + 2) = nI v) (hvm : m 1 (P + 3 + 14 * i + 2) = nI v) :
    ∃ L : Nat, L ≤ 999 ∧ f_Tk_interception c (b + 3) (nI i) = some (nI L) ∧ m_laysIntercept m (nI P) (nI i) = Option.bind (m_onCourse (if L = 0 then m else mE m i (ah (m 0 42) (nI L) (sn (nI v))) (ah (m 0 43) (nI L) (sn (nI v + (6 : Int32))))) (nI i) (nI (if L = 0 then 100 else L)) (nI v)) some := by
  have hn := hP.le
  have hPl := hP.Pl
  have ei : nI i + (1 : Int32) = nI (i + 1) := nI_1 i
  unfold f_Tk_interception m_laysIntercept
  simp only [Lt_e, Jn_e, rc_b30 hI, rc_q0 hI]
  rw [ei, bd_e (hasLeg_c hI hP.cc (by omega) (by omega)), bd_e (mof hPl (show i < 21 by omega) (by decide)), hvm, bd_e (mcount hPl), hP.cm]
  by_cases h1 : i + 1 < n
  · have hL := hP.leg (i + 1) h1
    obtain ⟨k, k9, kc, km, kf, -, -⟩ := hL.kd
    have hi1 : i + 1 < 21 := by omega
    rw [if_pos h1, if_neg (by decide), if_neg (nI_ge h1 (by omega)), bd_e (kd_c hI hD hi1), bd_e (mof hPl hi1 (by decide)), kc, km]
    by_cases h3 : nI k = (3 : Int32)
    · have k3 : k = 3 := (nI_eq (a := k) (b := 3) (by omega) (by omega)).mp h3
      obtain ⟨gv, g1, gc, gm⟩ := hL.gap
      rw [if_pos h3, if_pos h3, bd_e (pg hI hD hi1 (by decide)), bd_e (mof hPl hi1 (by decide)), gc, gm]
      by_cases hg : gv = 1
      · subst hg
        rw [if_pos (show nI 1 = (1 : Int32) from rfl), if_neg (show ¬ nI 1 = (0 : Int32) by decide), if_pos trivial, if_pos trivial, if_pos trivial]
        exact ⟨0, by decide, rfl, rfl⟩
      · have hg0 : gv = 0 := by omega
        subst hg0
        obtain ⟨w, w23, wc, wm⟩ := hL.crs
        have hp := pxy (b := b) hPl hi1 hL kc k9 (Or.inl (Or.inl (by omega)))
        rw [if_neg (show ¬ nI 0 = (1 : Int32) by decide), if_pos (show nI 0 = (0 : Int32) from rfl), if_neg (show ¬ (1 : Int32) = 0 by decide), bd_e (pg hI hD (show i < 21 by omega) (by decide)), bd_e (pg hI hD hi1 (by decide)), hvc, wc, bd_e (east_e c _), bd_e (north_e c _), bd_e (east_e c _), bd_e (north_e c _), bd_e (pg hI hD hi1 (by decide)), bd_e (pg hI hD hi1 (by decide)), bd_e hp.1, bd_e hp.2, bd_e (mof hPl hi1 (by decide)), wm, bd_e (sx_e hK _), bd_e (sy_e hK _), bd_e (sy_e hK _), bd_e (sx_e hK _), hx, hy]
        generalize (sn (nI v)).toInt64 * (sn (nI w + (6 : Int32))).toInt64 - (sn (nI v + (6 : Int32))).toInt64 * (sn (nI w)).toInt64 = X
        by_cases hX : X = 0
        · rw [if_pos hX, if_pos hX, if_pos trivial, if_pos trivial]
          refine ⟨0, by decide, rfl, ?_⟩
          rw [bd_e (in_e _ _ _), if_pos (show bi (decide ((1 : Int64) ≤ 0 ∧ (0 : Int64) ≤ 999)) = 0 by decide)]
          rfl
        · rw [if_neg hX, if_neg hX, Gd_t hX, Gd_t hX, if_neg (show ¬ (1 : Int32) = 0 by decide), bd_e (sy_e hK _), bd_e (sx_e hK _), Gd_t hX, if_neg (show ¬ (1 : Int32) = 0 by decide), bd_e (sx_e hK _), bd_e (sy_e hK _), Gd_t hX, bd_e (in_e _ _ _)]
          generalize (((c (q + 2) ((i + 1) * 14 + 7)).toInt64 - (m 0 42).toInt64) * (sn (nI w + (6 : Int32))).toInt64 - ((c (q + 2) ((i + 1) * 14 + 8)).toInt64 - (m 0 43).toInt64) * (sn (nI w)).toInt64) * (1000 : Int64) / X = T
          generalize (((c (q + 2) ((i + 1) * 14 + 8)).toInt64 - (m 0 43).toInt64) * (sn (nI v)).toInt64 - ((c (q + 2) ((i + 1) * 14 + 7)).toInt64 - (m 0 42).toInt64) * (sn (nI v + (6 : Int32))).toInt64) * (1000 : Int64) / X = S
          have hno : ∀ y : Int64, ∃ L : Nat, L ≤ 999 ∧ some (0 : Int32) = some (nI L) ∧ Option.bind (m_onCourse m (nI i) (100 : Int32) (nI v)) (fun x13 => some x13) = Option.bind (m_onCourse (if L = 0 then m else mE m i (ah (m 0 42) (nI L) (sn (nI v))) (ah (m 0 43) (nI L) (sn (nI v + (6 : Int32))))) (nI i) (nI (if L = 0 then 100 else L)) (nI v)) some := fun y => ⟨0, by decide, rfl, rfl⟩
          by_cases t1 : T < 1
          · rw [if_pos t1, decide_eq_false (fun h => absurd h.1 (Int64.not_le.mpr t1)), if_pos (show bi false = 0 from rfl), if_pos trivial, if_pos trivial]
            exact hno T
          · by_cases t2 : (999 : Int64) < T
            · rw [if_neg t1, if_pos t2, decide_eq_false (fun h => absurd h.2 (Int64.not_le.mpr t2)), if_pos (show bi false = 0 from rfl), if_pos trivial, if_pos trivial]
              exact hno T
            · rw [if_neg t1, if_neg t2, decide_eq_true ⟨Int64.not_lt.mp t1, Int64.not_lt.mp t2⟩, if_neg (show ¬ bi true = 0 by decide)]
              by_cases s1 : S < 0
              · rw [if_pos s1, if_pos s1, if_pos trivial, if_pos trivial]
                exact hno T
              · rw [if_neg s1, if_neg s1, if_neg (show ¬ (1 : Int32) = 0 by decide), if_neg (show ¬ (1 : Int32) = 0 by decide)]
                have a1 := Int64.le_iff_toInt_le.mp (Int64.not_lt.mp t1)
                have a2 := Int64.le_iff_toInt_le.mp (Int64.not_lt.mp t2)
                have c1 : (1 : Int64).toInt = 1 := by decide
                have c2 : (999 : Int64).toInt = 999 := by decide
                have eL : Int64.toInt32 T = nI T.toInt.toNat := by
                  apply i2
                  rw [tn (by omega) (by omega), nI_toInt (by omega)]
                  omega
                have hL0 : ¬ T.toInt.toNat = 0 := by omega
                refine ⟨T.toInt.toNat, by omega, by rw [eL], ?_⟩
                rw [if_neg hL0, if_neg hL0, bd_e (sx_e hK _), bd_e (ahead_e _ _ _), bd_e (sy_e hK _), bd_e (ahead_e _ _ _), bd_e (ends_m (by omega)), eL]
    · rw [if_neg h3, if_neg h3, if_pos trivial, if_pos trivial, if_pos trivial]
      exact ⟨0, by decide, rfl, rfl⟩
  · rw [if_neg h1, if_pos rfl, if_pos (nI_le (by omega) (by omega)), if_pos trivial, if_pos trivial, if_pos trivial]
    exact ⟨0, by decide, rfl, rfl⟩
theorem mid_ci {c m : St} {b q P r i v n : Nat} {R R0 B B' : Int} (hI : PI b q) (hD : Dm c) (hK : RefK m) (hP : PlanR c m q P R0 n) (hi : i < n) (hiN : i < N) (hS : SR N c m b R r) (hN : IR N c m b R r) (hr : r < 42) (h14 : 14200 ≤ R) (hR : R ≤ 5940000) (hx : c (b + 3) 5 = m 0 42) (hy : c (b + 3) 6 = m 0 43) (hs : Nb B (m 0 42) (m 0 43)) (hBR : B + 1000 ≤ R) (hB' : B + 1000 ≤ B')
    (hv : v < 24) (hvc : c (q + 2) (i * 14 + 2) = nI v) (hvm : m 1 (P + 3 + 14 * i + 2) = nI v) :
    ∃ c' m' r', f_Tk_followToInterception c (b + 3) (nI i) = some c' ∧ Dm c' ∧ m_laysIntercept m (nI P) (nI i) = some m' ∧ MID N c m c' m' b R B' r r' i := by
  have hn := hP.le
  obtain ⟨L, L1, L2, L3⟩ := int_lock hI hD hK hP hi hx hy hvc hvm
  unfold f_Tk_followToInterception
  rw [bd_e L2]
  by_cases h : L = 0
  · obtain ⟨c1, m1, r1, e1, e2, e3, e4⟩ := mid_vm (B' := B') hI hD hK hS hN hr (show i < 21 by omega) hiN h14 hR hx hy hs (by omega) hv hvc
    rw [if_pos h, if_pos h] at L3
    rw [if_pos (show nI L = 0 by rw [h]; rfl)]
    exact ⟨c1, m1, r1, bd_e e1, e2, by rw [L3, bd_e e3], e4⟩
  · rw [if_neg h, if_neg h] at L3
    rw [if_neg (nI_ne0 (by omega) (by omega))]
    have z : ∀ x y k, mE m i x y 0 k = m 0 k := fun x y k => by rw [mE_o (by omega)]
    have hKE : ∀ x y, RefK (mE m i x y) := fun x y => hK.of (mE_o (by omega)) (mE_o (by omega)) (mE_o (by omega))
    obtain ⟨c1, m1, e1, e2, e3, e4, e5⟩ := on_lock (c := c) (m := mE m i (ah (m 0 42) (nI L) (sn (nI v))) (ah (m 0 43) (nI L) (sn (nI v + (6 : Int32))))) (g := i) (v := v) (l := L) (i := i) (B := B) hI hD (hKE _ _) hS.mE hN.mE hr (by omega) hiN hv hvc (by omega) (by omega) h14 hR (by rw [z]; exact hx) (by rw [z]; exact hy) (by rw [z, z]; exact hs) (by omega)
    rw [z] at e4 e5
    have hb := ah_nb (l := L) (v := v) hs (by omega) (by omega) (by omega)
    have hD1 := e3.Dm hI hD
    exact ⟨eh c1 b i, m1, r + 1, by rw [bd_e e1, bd_e (endHere_c hI hD1 (by omega))], Dm_eh hI hD1, by rw [L3, bd_e e2], mid_end e3 (by omega) e4 e5 (hb.le (by omega))⟩
