/-! copying plans -/

/-- the reference: cells P .. P + n carried to Q .. -/
def plc (m : St) (P Q n : Nat) : St := fun a k => if a = 1 ∧ Q ≤ k ∧ k < Q + n then m 1 (P + (k - Q)) else m a k
theorem plc_at {m : St} {P Q n k : Nat} (h : k < n) : plc m P Q n 1 (Q + k) = m 1 (P + k) := by
  unfold plc
  rw [if_pos ⟨rfl, by omega, by omega⟩, show Q + k - Q = k by omega]
theorem plc_ne {m : St} {P Q n a : Nat} (h : a ≠ 1) : plc m P Q n a = m a := by
  funext k
  unfold plc
  rw [if_neg (fun q => h q.1)]
theorem plc_k {m : St} {P Q n k : Nat} (h : k < Q ∨ Q + n ≤ k) : plc m P Q n 1 k = m 1 k := by
  unfold plc
  rw [if_neg (fun q => by omega)]
theorem plc_s {m : St} {P Q i : Nat} (hd : P + i < Q ∨ Q + i ≤ P + i) : s2 (plc m P Q i) 1 (Q + i) (plc m P Q i 1 (P + i)) = plc m P Q (i + 1) := by
  have e : plc m P Q i 1 (P + i) = m 1 (P + i) := plc_k (by omega)
  rw [e]
  funext a k
  by_cases h : a = 1 ∧ k = Q + i
  · obtain ⟨rfl, rfl⟩ := h
    rw [s2_at, plc_at (by omega)]
  · rw [s2_nk (by omega)]
    unfold plc
    by_cases q : a = 1 ∧ Q ≤ k ∧ k < Q + i
    · rw [if_pos q, if_pos (by omega)]
    · rw [if_neg q, if_neg (by omega)]
theorem cpl_m {m : St} {P Q : Nat} (hP : P + 297 ≤ 2673) (hQ : Q + 297 ≤ 2673) (hd : P + 297 ≤ Q ∨ Q + 297 ≤ P) : m_copyPlan m (nI P) (nI Q) = some (plc m P Q 297) := by
  unfold m_copyPlan
  rw [Jn_e]
  have key : ∀ (d i n : Nat), i + d = 297 → d < n → lp (lb_m_copyPlan_2 (nI P) (nI Q) (fun (σ1 : St) => some σ1)) n (nI i, plc m P Q i) = some (plc m P Q 297) := by
    intro d
    induction d with
    | zero =>
      intro i n h1 h2
      rw [lp_s (by omega)]
      generalize lp (lb_m_copyPlan_2 (nI P) (nI Q) (fun (σ1 : St) => some σ1)) (n - 1) = ih
      unfold lb_m_copyPlan_2
      dsimp only
      rw [show i = 297 by omega, if_pos (show (297 : Int32) ≤ nI 297 by decide)]
    | succ d ihd =>
      intro i n h1 h2
      rw [lp_s (by omega), ← ihd (i + 1) (n - 1) (by omega) (by omega)]
      generalize lp (lb_m_copyPlan_2 (nI P) (nI Q) (fun (σ1 : St) => some σ1)) (n - 1) = ih
      have kc : Int32.toNatClampNeg (nI P + nI i) = P + i := by rw [nI_add, nI_clamp (by omega)]
      have kd : Int32.toNatClampNeg (nI Q + nI i) = Q + i := by rw [nI_add, nI_clamp (by omega)]
      have g1 : Ix (nI P + nI i) 2673 := by rw [nI_add]; exact Ix_n (by omega) (by decide)
      have g2 : Ix (nI Q + nI i) 2673 := by rw [nI_add]; exact Ix_n (by omega) (by decide)
      unfold lb_m_copyPlan_2
      dsimp only
      rw [if_neg (show ¬ (297 : Int32) ≤ nI i from nI_ge (a := i) (b := 297) (by omega) (by decide)), Gd_t g1, Gd_t g2, Lt_e, Lt_e, kc, kd, plc_s (by omega), nI_1]
  have h0 : plc m P Q 0 = m := by
    funext a k
    unfold plc
    rw [if_neg (by omega)]
  have := key 297 0 4000 (by omega) (by omega)
  rw [h0] at this
  exact this
/-- the reference: the history's rows moved down by one, as far as i -/
def hmv (m : St) (i : Nat) : St := fun a k => if a = 1 ∧ 891 ≤ k ∧ k < i then m 1 (k + 297) else m a k
def hm2 (m : St) (i : Nat) : St := fun a k => if a = 2 ∧ k < i then m 2 (k + 1) &&& 1 else m a k
theorem hmv_m {m : St} {J : St → Option St} : ∀ (d i n : Nat), 891 ≤ i → i + d = 2376 → d < n → lp (lb_m_begins_13 J) n (nI i, hmv m i) = J (hmv m 2376) := by
  intro d
  induction d with
  | zero =>
    intro i n h0 h1 h2
    rw [lp_s (by omega)]
    generalize lp (lb_m_begins_13 J) (n - 1) = ih
    unfold lb_m_begins_13
    dsimp only
    rw [show i = 2376 by omega, if_pos (show (2376 : Int32) ≤ nI 2376 by decide)]
  | succ d ihd =>
    intro i n h0 h1 h2
    rw [lp_s (by omega), ← ihd (i + 1) (n - 1) (by omega) (by omega) (by omega)]
    generalize lp (lb_m_begins_13 J) (n - 1) = ih
    have e1 : nI i + (297 : Int32) = nI (i + 297) := nI_add (a := i) (b := 297)
    have kc : Int32.toNatClampNeg (nI (i + 297)) = i + 297 := nI_clamp (by omega)
    have kd : Int32.toNatClampNeg (nI i) = i := nI_clamp (by omega)
    have es : s2 (hmv m i) 1 i (hmv m i 1 (i + 297)) = hmv m (i + 1) := by
      have e : hmv m i 1 (i + 297) = m 1 (i + 297) := by
        unfold hmv
        rw [if_neg (by omega)]
      rw [e]
      funext a k
      by_cases h : a = 1 ∧ k = i
      · obtain ⟨rfl, rfl⟩ := h
        rw [s2_at]
        unfold hmv
        rw [if_pos (by omega)]
      · rw [s2_nk (by omega)]
        unfold hmv
        by_cases q : a = 1 ∧ 891 ≤ k ∧ k < i
        · rw [if_pos q, if_pos (by omega)]
        · rw [if_neg q, if_neg (by omega)]
    unfold lb_m_begins_13
    dsimp only
    rw [if_neg (show ¬ (2376 : Int32) ≤ nI i from nI_ge (a := i) (b := 2376) (by omega) (by decide)), e1, Gd_t (Ix_n (show i + 297 < 2673 by omega) (by decide)), Gd_t (Ix_n (show i < 2673 by omega) (by decide)), Lt_e, Lt_e, kc, kd, es, nI_1]
theorem hm2_m {m : St} {J : St → Option St} : ∀ (d i n : Nat), i + d = 5 → d < n → lp (lb_m_begins_44 J) n (nI i, hm2 m i) = J (hm2 m 5) := by
  intro d
  induction d with
  | zero =>
    intro i n h1 h2
    rw [lp_s (by omega)]
    generalize lp (lb_m_begins_44 J) (n - 1) = ih
    unfold lb_m_begins_44
    dsimp only
    rw [show i = 5 by omega, if_pos (show (5 : Int32) ≤ nI 5 by decide)]
  | succ d ihd =>
    intro i n h1 h2
    rw [lp_s (by omega), ← ihd (i + 1) (n - 1) (by omega) (by omega)]
    generalize lp (lb_m_begins_44 J) (n - 1) = ih
    have kc : Int32.toNatClampNeg (nI (i + 1)) = i + 1 := nI_clamp (by omega)
    have kd : Int32.toNatClampNeg (nI i) = i := nI_clamp (by omega)
    have es : s2 (hm2 m i) 2 i (hm2 m i 2 (i + 1) &&& 1) = hm2 m (i + 1) := by
      have e : hm2 m i 2 (i + 1) = m 2 (i + 1) := by
        unfold hm2
        rw [if_neg (by omega)]
      rw [e]
      funext a k
      by_cases h : a = 2 ∧ k = i
      · obtain ⟨rfl, rfl⟩ := h
        rw [s2_at]
        unfold hm2
        rw [if_pos (by omega)]
      · rw [s2_nk (by omega)]
        unfold hm2
        by_cases q : a = 2 ∧ k < i
        · rw [if_pos q, if_pos (by omega)]
        · rw [if_neg q, if_neg (by omega)]
    unfold lb_m_begins_44
    dsimp only
    rw [if_neg (show ¬ (5 : Int32) ≤ nI i from nI_ge (a := i) (b := 5) (by omega) (by decide)), nI_1, Gd_t (Ix_n (show i + 1 < 6 by omega) (by decide)), Gd_t (Ix_n (show i < 6 by omega) (by decide)), Lt_e, Lt_e, kc, kd, es]
/-- the class's copy of rows, whatever the number of rows that is asked for -/
theorem Tb_copyA {c : St} {t u r1 r2 w i j : Nat} (v : Int32) (hT : TabOK c t r2 w) (hU : TabOK c u r1 w) (hi : i ≤ 10000) (hj : j ≤ 10000) : f_Tb_copyRows c t u (nI i) (nI j) v = some c ∨ ∃ n, v = nI n ∧ 0 < n ∧ i + n ≤ r1 ∧ j + n ≤ r2 ∧ f_Tb_copyRows c t u (nI i) (nI j) v = some (scp c (rc u 2) (rc t 2) (i * w) (j * w) (n * w)) := by
  obtain ⟨t0, t1, t2, tr, tw⟩ := hT
  obtain ⟨u0, u1, u2, ur, uw⟩ := hU
  by_cases h0 : v ≤ 0
  · left
    unfold f_Tb_copyRows
    rw [Jn_e, t1, u1, if_pos rfl, if_pos h0]
  · have hv : 0 < v.toInt := by
      have : ¬ v.toInt ≤ (0 : Int32).toInt := fun q => h0 (Int32.le_iff_toInt_le.mpr q)
      rw [show (0 : Int32).toInt = 0 by decide] at this
      omega
    have hv2 := v.toInt_lt
    obtain ⟨n, rfl, hn, hn2⟩ : ∃ n : Nat, v = nI n ∧ 0 < n ∧ n < 2 ^ 31 := ⟨v.toInt.toNat, i2 (by rw [nI_toInt (by omega)]; omega), by omega, by omega⟩
    by_cases h : i + n ≤ r1 ∧ j + n ≤ r2
    · right
      exact ⟨n, rfl, hn, h.1, h.2, Tb_copy ⟨t0, t1, t2, tr, tw⟩ ⟨u0, u1, u2, ur, uw⟩ hn h.1 h.2⟩
    · left
      have lt : ∀ r k : Nat, r < 10000 → k ≤ 10000 → ((nI r - nI n) < nI k ↔ ¬ k + n ≤ r) := fun r k p1 p2 => by
        rw [Int32.lt_iff_toInt_lt, tI_sub (by rw [nI_toInt (by omega), nI_toInt hn2]; omega) (by rw [nI_toInt (by omega), nI_toInt hn2]; omega), nI_toInt (by omega), nI_toInt hn2, nI_toInt (by omega)]
        omega
      unfold f_Tb_copyRows
      rw [Jn_e, t1, u1, if_pos rfl, if_neg h0, if_neg (nI_pos (by omega)), if_pos (nI_pos' (by omega)), Jn_e, u0, t0]
      by_cases q : i + n ≤ r1
      · rw [if_neg (fun x => ((lt r1 i ur hi).mp x) q), if_pos ((lt r2 j tr hj).mpr (fun x => h ⟨q, x⟩))]
      · rw [if_pos ((lt r1 i ur hi).mpr q)]
