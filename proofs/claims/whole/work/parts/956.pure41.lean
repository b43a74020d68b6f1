/-! the top of the descent; the entry into a pattern -/

def tq (m : St) : Nat → Nat
  | 0 => 0
  | k + 1 => if k = 0 then 0 else if altv m k < altv m (tq m k) then tq m k else k
theorem tq_b (m : St) : ∀ k, 0 < k → tq m k < k := by
  intro k
  induction k with
  | zero => intro h; omega
  | succ k ih =>
    intro _
    unfold tq
    by_cases e : k = 0
    · rw [if_pos e]; omega
    · rw [if_neg e]
      have := ih (by omega)
      split <;> omega
def tqv (m : St) (k : Nat) : Int32 := if k = 0 then -1 else nI (tq m k)
theorem tqv_0 (m : St) : tqv m 0 = -1 := rfl
theorem tqv_s (m : St) (k : Nat) : tqv m (k + 1) = if k = 0 then nI k else if altv m k < altv m (tq m k) then nI (tq m k) else nI k := by
  show nI (if k = 0 then 0 else if altv m k < altv m (tq m k) then tq m k else k) = _
  by_cases e : k = 0
  · rw [if_pos e, if_pos e, e]
  · rw [if_neg e, if_neg e]
    split <;> rfl
theorem top_m {m : St} {n : Nat} (v : Int32) (hn : n ≤ 21) (J : Int32 → Option (Int32 × St)) : ∀ (d k g : Nat), k + d = n → d < g → lp (lb_m_topOfDescent_27 (v, m) (nI n) J) g (tqv m k, nI k) = J (tqv m n) := by
  intro d
  induction d with
  | zero =>
    intro k g hd hg
    have e : k = n := by omega
    subst e
    rw [lp_s hg]
    show (if nI k ≤ nI k then J (tqv m k) else _) = _
    rw [if_pos (Int32.le_refl _)]
  | succ d ih =>
    intro k g hd hg
    have key : ∀ ih : Int32 × Int32 → Option (Int32 × St), lb_m_topOfDescent_27 (v, m) (nI n) J ih (tqv m k, nI k) = ih (tqv m (k + 1), nI (k + 1)) := by
      intro ih
      rw [tqv_s]
      unfold lb_m_topOfDescent_27
      dsimp only
      rw [if_neg (nI_ge (by omega) (by omega)), Jn_e, Jn_e]
      by_cases e : k = 0
      · rw [if_pos (show tqv m k < 0 by rw [e, tqv_0]; decide), if_pos e]
        dsimp only
        rw [Lt_e, nI_1]
      · have hb := tq_b m k (by omega)
        have et : tqv m k = nI (tq m k) := if_neg e
        rw [et, if_neg (nI_pos (by omega)), bd_e (alt_m (show k < 21 by omega)), bd_e (alt_m (show tq m k < 21 by omega)), if_neg e]
        by_cases e2 : altv m k < altv m (tq m k)
        · rw [if_pos e2, if_pos e2]
          dsimp only
          rw [Lt_e, nI_1]
        · rw [if_neg e2, if_neg e2]
          dsimp only
          rw [Lt_e, nI_1]
    rw [lp_s (by omega), key]
    exact ih (k + 1) (g - 1) (by omega) (by omega)
theorem top_c {c m : St} {b q P n : Nat} (hI : PI b q) (hD : Dm c) (hc : c q 1 = nI n) (hn : n ≤ 21) (hV : VR c m b P n) (J : Int32 → Option Int32) : ∀ (d k g : Nat), k + d = n → d < g → lp (lb_f_Pf_lastHighestLeg_4 c (b + 9) J) g (tqv m k, nI k) = J (tqv m n) := by
  intro d
  induction d with
  | zero =>
    intro k g hd hg
    have e : k = n := by omega
    subst e
    rw [lp_s hg]
    show (if c (rc (b + 9) 0) 1 ≤ nI k then J (tqv m k) else _) = _
    rw [if_pos (by rw [rc_b90 hI, hc]; exact Int32.le_refl _)]
  | succ d ih =>
    intro k g hd hg
    have key : ∀ ih : Int32 × Int32 → Option Int32, lb_f_Pf_lastHighestLeg_4 c (b + 9) J ih (tqv m k, nI k) = ih (tqv m (k + 1), nI (k + 1)) := by
      intro ih
      rw [tqv_s]
      unfold lb_f_Pf_lastHighestLeg_4
      dsimp only
      rw [if_neg (by rw [rc_b90 hI, hc]; exact nI_ge (by omega) (by omega)), Jn_e, Jn_e]
      by_cases e : k = 0
      · rw [if_pos (show tqv m k = -1 by rw [e]; rfl), if_pos e]
        dsimp only
        rw [Lt_e, nI_1]
      · have hb := tq_b m k (by omega)
        have et : tqv m k = nI (tq m k) := if_neg e
        rw [et, if_neg (fun q => by have h1 := nI_pos' (n := tq m k) (by omega); rw [q] at h1; revert h1; decide), rc_b92 hI, bd_e (lgg hI hD (show k < 21 by omega) (by decide)), bd_e (lgg hI hD (show tq m k < 21 by omega) (by decide)), hV.lg k 14 (by omega) (by decide), hV.lg (tq m k) 14 (by omega) (by decide), Wc14, Wc14, if_neg e]
        by_cases e2 : altv m k < altv m (tq m k)
        · rw [if_pos e2, if_pos e2]
          dsimp only
          rw [Lt_e, nI_1]
        · rw [if_neg e2, if_neg e2]
          dsimp only
          rw [Lt_e, nI_1]
    rw [lp_s (by omega), key]
    exact ih (k + 1) (g - 1) (by omega) (by omega)
theorem altv_b {m : St} {P n j : Nat} {R : Int} (hW : WF m P R n) (hj : j < n) : 0 ≤ (altv m j).toInt ∧ (altv m j).toInt ≤ 450 := by
  have h := hW.al j hj
  refine ⟨imin_r h.1 h.2.2.1, ?_⟩
  have := (imin_b (a := m 39 j) (b := m 40 j)).1
  unfold altv
  omega
theorem need_e {a b g : Int32} (ha : 0 ≤ a.toInt ∧ a.toInt ≤ 450) (hb : 0 ≤ b.toInt ∧ b.toInt ≤ 450) (hg : 100 ≤ g.toInt ∧ g.toInt ≤ 900) : Int64.toInt32 (((a - b).toInt64 * (1000 : Int64)) / g.toInt64) = ((a - b) * (1000 : Int32)) / g := by
  have e0 : (a - b).toInt = a.toInt - b.toInt := tI_sub (by omega) (by omega)
  have e1 : (((a - b) * (1000 : Int32)) / g).toInt = ((a.toInt - b.toInt) * 1000).tdiv g.toInt := by rw [tI_div rfl (by omega), tI_mul (by rw [e0, k1000]; omega) (by rw [e0, k1000]; omega), e0, k1000]
  have e2 : (((a - b).toInt64 * (1000 : Int64)) / g.toInt64).toInt = ((a.toInt - b.toInt) * 1000).tdiv g.toInt := by rw [tL_div (tw g) (by omega), tL_mul (by rw [tw, e0, k1000L]; omega) (by rw [tw, e0, k1000L]; omega), tw, e0, k1000L]
  have bb := tdb (x := (a.toInt - b.toInt) * 1000) (d := g.toInt) (B := 450000) (by omega) (by omega) (by omega)
  exact i2 (by rw [tn (by rw [e2]; omega) (by rw [e2]; omega), e2, e1])

theorem q_entryFor (p1 p2 p3 : Int32) : ∃ v, f_FL_entryFor p1 p2 p3 = some v ∧ m_entryFor p1 p2 p3 = some v := by
  have key : ∀ p : Int32, decide ((0 : Int32) ≤ p ∧ p ≤ 23) = decide ((0 : Int64) ≤ p.toInt64 ∧ p.toInt64 ≤ 23) := fun p => by
    apply decide_eq_decide.mpr
    have h1 := l_le (0 : Int32) p
    have h2 := l_le p (23 : Int32)
    constructor
    · intro h
      exact ⟨h1.mpr h.1, h2.mpr h.2⟩
    · intro h
      exact ⟨h1.mp h.1, h2.mp h.2⟩
  unfold f_FL_entryFor m_entryFor
  rw [bd_e (within_e _ _ _), bd_e (in_e _ _ _), ← key, Jn_e, Jn_e, Jn_e]
  by_cases a : decide ((0 : Int32) ≤ p1 ∧ p1 ≤ 23) = true
  · rw [a, if_neg (show ¬ bi true = 0 by decide), if_neg (show ¬ bi true = 0 by decide), bd_e (within_e _ _ _), bd_e (in_e _ _ _), ← key]
    by_cases b : decide ((0 : Int32) ≤ p2 ∧ p2 ≤ 23) = true
    · rw [b, if_neg (show ¬ bi true = 0 by decide), if_neg (show ¬ bi true = 0 by decide), entry_e _ _ (of_decide_eq_true a).1]
      obtain ⟨e, -, e2⟩ := entry_v p1 p2 p3
      rw [bd_e e2]
      exact ⟨_, rfl, rfl⟩
    · rw [Bool.eq_false_iff.mpr b, if_pos (show bi false = 0 by decide), if_pos (show bi false = 0 by decide)]
      exact ⟨_, rfl, rfl⟩
  · rw [Bool.eq_false_iff.mpr a, if_pos (show bi false = 0 by decide), if_pos (show bi false = 0 by decide)]
    exact ⟨_, rfl, rfl⟩
theorem q_topOfDescent {t : Nat} {c m : St} (ht : t ≤ 511) (h : INV t c m) (p : Int32) : AQ t (f_FL_topOfDescent c p) (m_topOfDescent m p) := by
  rcases acc ht h p with ⟨e1, e2⟩ | ⟨b, q, P, n, c', m', R, hA⟩
  · refine ⟨-1000001, c, m, ?_, ?_, h.up⟩
    · unfold f_FL_topOfDescent
      rw [bd_e e1]
      first | (rw [if_pos rfl]; done) | (rw [Jn_e, if_pos rfl])
    · unfold m_topOfDescent
      rw [bd_e e2]
      first | (rw [if_pos rfl]; done) | (rw [Jn_e, if_pos rfl])
  · have hn := hA.n20
    have hI := hA.I
    refine ⟨(if n ≤ tq m' n + 1 then -1000000 else LU m' (tq m' n + 1) + imax 0 (m' 37 (tq m' n + 1) - ((altv m' (tq m' n) - altv m' (tq m' n + 1)) * (1000 : Int32)) / c' 1 7)), c', m', ?_, ?_, hA.i1.up⟩
    · unfold f_FL_topOfDescent
      have hl : f_Pf_lastHighestLeg c' (b + 9) = some (tqv m' n) := by
        unfold f_Pf_lastHighestLeg
        rw [Jn_e]
        exact top_c hI hA.D' hA.cq' (by omega) hA.V (fun x1 => some x1) n 0 4000 (by omega) (by omega)
      have htd : f_Pa_topOfDescentLength c' b = some (if n ≤ tq m' n + 1 then -1000000 else LU m' (tq m' n + 1) + imax 0 (m' 37 (tq m' n + 1) - ((altv m' (tq m' n) - altv m' (tq m' n + 1)) * (1000 : Int32)) / c' 1 7)) := by
        unfold f_Pa_topOfDescentLength
        rw [rc_b4 hI, bd_e hl, Jn_e]
        by_cases n0 : n = 0
        · rw [if_pos (show tqv m' n < 0 by rw [n0, tqv_0]; decide), if_pos (by omega)]
        · have hb := tq_b m' n (by omega)
          have et : tqv m' n = nI (tq m' n) := if_neg n0
          have e1 : nI n - (1 : Int32) = nI (n - 1) := pk_sub (a := n) (b := 1) (by omega)
          rw [et, if_neg (nI_pos (by omega)), rc_b0 hI, hA.cq', e1]
          by_cases hh : n ≤ tq m' n + 1
          · rw [if_neg (nI_nlt (by omega) (by omega)), if_pos hh]
          · have a1 := lengthOf_e hA.I hA.D' hA.cq' (by omega) hA.V (show tq m' n + 1 ≤ n by omega)
            rw [nI_pred] at a1
            have hg0 : ¬ c' 1 7 = 0 := fun q => by
              have h7 := hA.S.2.2.2.2.2.2.1.2.1
              rw [q] at h7
              revert h7
              decide
            have hdl : f_Pf_descentLength c' (b + 9) (nI (tq m' n)) = some (((altv m' (tq m' n) - altv m' (tq m' n + 1)) * (1000 : Int32)) / c' 1 7) := by
              unfold f_Pf_descentLength f_Sg_lengthFor
              rw [rc_b92 hI, rc_b91 hI, bd_e (lgg hI hA.D' (show tq m' n < 21 by omega) (by decide)), nI_1, bd_e (lgg hI hA.D' (show tq m' n + 1 < 21 by omega) (by decide)), hA.V.lg (tq m' n) 14 (by omega) (by decide), hA.V.lg (tq m' n + 1) 14 (by omega) (by decide), Wc14, Wc14, Lt_e, Jn_e, if_neg hg0, Gd_t hg0]
              rfl
            rw [if_pos (nI_lt (by omega) (by omega)), if_neg hh, rc_b1 hI, nI_1, bd_e (lgg hI hA.D' (show tq m' n + 1 < 21 by omega) (by decide)), hA.V.lg (tq m' n + 1) 9 (by omega) (by decide), Wc9, bd_e hdl, Lt_e, bd_e a1]
      rw [bd_e hA.pc, Jn_e, if_neg n10, bd_e (fresh_c hA), bd_e htd]
    · unfold m_topOfDescent
      rw [bd_e hA.pm, if_neg p10, bd_e hA.Pm, bd_e (mcount hA.Pl)]
      dsimp only
      simp only [hA.mq]
      rw [Jn_e]
      refine Eq.trans (top_m 1 (by omega) _ n 0 4000 (by omega) (by omega)) ?_
      rw [Jn_e]
      by_cases n0 : n = 0
      · rw [if_pos (show tqv m' n < 0 by rw [n0, tqv_0]; decide), if_pos (by omega)]
      · have hb := tq_b m' n (by omega)
        have et : tqv m' n = nI (tq m' n) := if_neg n0
        have e1 : nI n - (1 : Int32) = nI (n - 1) := pk_sub (a := n) (b := 1) (by omega)
        rw [et, if_neg (nI_pos (by omega)), e1]
        by_cases hh : n ≤ tq m' n + 1
        · rw [if_pos (show nI (tq m' n) = nI (n - 1) by rw [show tq m' n = n - 1 by omega]), if_pos hh]
        · have a2 := lengthUpTo_e (m := m') (show tq m' n + 1 ≤ 21 by omega)
          rw [nI_pred] at a2
          have h7 := hA.S.2.2.2.2.2.2.1
          have hg0 : ¬ (m' 0 13).toInt64 = 0 := fun q => by
            have := congrArg Int64.toInt q
            rw [tw, show (0 : Int64).toInt = 0 by decide, ← h7.1] at this
            omega
          rw [if_neg (fun q => by have := (nI_eq (by omega) (by omega)).mp q; omega), bd_e (alt_m (show tq m' n < 21 by omega)), nI_1, bd_e (alt_m (show tq m' n + 1 < 21 by omega)), Gd_t hg0, Lt_e, bd_e a2, Gd_t (Ix_n (show tq m' n + 1 < 21 by omega) (by decide)), if_neg hh]
          simp only [nI_clamp (show tq m' n + 1 < 2 ^ 31 by omega)]
          rw [bd_e (greater_e _ _), ← h7.1, need_e (altv_b hA.W (by omega)) (altv_b hA.W (by omega)) h7.2]
