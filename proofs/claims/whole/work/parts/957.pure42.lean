/-! the present position, on both sides -/

/-- what the search through the pieces of the current leg has found -/
def FS (m : St) (cur fl k : Nat) (B j : Int32) : Prop := 0 ≤ (SLr m cur k).toInt ∧ (SLr m cur k).toInt ≤ (fl : Int) ∧ 0 ≤ B.toInt ∧ ((j = -1 ∧ B = 0 ∧ SLr m cur k = 0) ∨ ∃ jj : Nat, jj < k ∧ j = nI jj ∧ m 29 jj = nI cur ∧ SLr m cur k = B + m 31 jj ∧ B.toInt + (m 31 jj).toInt = (SLr m cur k).toInt)
/-- and what it ends with -/
def FE (m : St) (cur fl p : Nat) (B j : Int32) : Prop := j = -1 ∨ ∃ jj : Nat, jj < p ∧ j = nI jj ∧ m 29 jj = nI cur ∧ 0 ≤ B.toInt ∧ B.toInt ≤ (fl : Int) ∧ (fl : Int) ≤ B.toInt + (m 31 jj).toInt
theorem find_lock {c m : St} {P n cur fl p : Nat} {R : Int} (hD : Dm c) (hV : VR c m 17 P n) (hW : WF m P R n) (h57 : m 0 57 = nI p) (h126 : p ≤ 126) (hlen : ∀ k, k < p → ∃ l : Nat, 1 ≤ l ∧ l ≤ 5965232 ∧ m 31 k = nI l) (hc : c 8 2 = nI cur) (hf : c 52 2 = nI fl) (hfm : m 0 4 = nI fl) (hfl : fl ≤ 800000000) (htot : (fl : Int) ≤ (SLr m cur p).toInt) (Jc : Int32 → Int32 → Option (Int32 × St)) (Jm : Int32 → Int32 → Option (Int32 × St)) :
    ∀ (d k g1 g2 : Nat) (B j : Int32), k + d = p → d < g1 → d + 1 < g2 → FS m cur fl k B j → ∃ B' j', lp (lb_f_Pg_locate_30 c 52 Jc Jc) g1 (B, j, nI k) = Jc B' j' ∧ lp (lb_m_hasPosition_35 m (nI cur) Jm) g2 (SLr m cur k, j, B, 0, nI k) = Jm j' B' ∧ FE m cur fl p B' j' := by
  have hI : PI 17 8 := Or.inl ⟨rfl, rfl⟩
  have e6 : c 23 5 = nI p := by have := hV.pc; rw [h57] at this; exact this
  intro d
  induction d with
  | zero =>
    intro k g1 g2 B j hd h1 h2 h
    have e : k = p := by omega
    subst e
    refine ⟨B, j, ?_, ?_, ?_⟩
    · rw [lp_s h1]
      show (if c 23 5 ≤ nI k then Jc B j else _) = _
      rw [if_pos (by rw [e6]; exact Int32.le_refl _)]
    · rw [lp_s (by omega)]
      show (if m 0 57 ≤ nI k then Jm j B else _) = _
      rw [if_pos (by rw [h57]; exact Int32.le_refl _)]
    · obtain ⟨a1, a2, a3, a4⟩ := h
      rcases a4 with x | ⟨jj, b1, b2, b3, b4, b5⟩
      · exact Or.inl x.1
      · obtain ⟨l, l1, l2, el⟩ := hlen jj b1
        have eln : (nI l).toInt = (l : Int) := nI_toInt (by omega)
        rw [el, eln] at b5
        exact Or.inr ⟨jj, b1, b2, b3, a3, by omega, by rw [el, eln]; omega⟩
  | succ d ih =>
    intro k g1 g2 B j hd h1 h2 h
    have hk : k < p := by omega
    obtain ⟨a1, a2, a3, a4⟩ := h
    obtain ⟨l, l1, l2, el⟩ := hlen k hk
    have eln : (nI l).toInt = (l : Int) := nI_toInt (by omega)
    have hkc : k < (m 0 57).toNatClampNeg := by rw [h57, nI_clamp (by omega)]; exact hk
    have r0 : c 25 (k * 8 + 0) = m 29 k := hV.pr k 0 hkc (by decide)
    have r2 : c 25 (k * 8 + 2) = m 31 k := hV.pr k 2 hkc (by decide)
    have g180 : Ix (nI k) 180 := Ix_n (show k < 180 by omega) (by decide)
    have hS1 : SLr m cur (k + 1) = SLr m cur k + (if m 29 k = nI cur then m 31 k else 0) := rfl
    have hsb := SLr_b (m := m) (j := cur) k (by omega) (fun i hi => hlen i (by omega))
    have kc : ∀ ih : Int32 × Int32 × Int32 → Option (Int32 × St), lb_f_Pg_locate_30 c 52 Jc Jc ih (B, j, nI k) = if m 29 k = nI cur then (if SLr m cur k + m 31 k ≤ nI fl then ih (SLr m cur k, nI k, nI (k + 1)) else Jc (SLr m cur k) (nI k)) else ih (B, j, nI (k + 1)) := by
      intro ih
      unfold lb_f_Pg_locate_30
      show (if c 23 5 ≤ nI k then Jc B j else Option.bind (f_Tb_get c 24 (nI k) (0 : Int32)) fun x15 => Jn (fun (x16 : Int32) (x17 : Int32) => Lt (nI k + (1 : Int32)) fun x19 => ih (x16, x17, x19)) fun J18 => if (x15 : Int32) = c 8 2 then (Jn (fun (x20 : Int32) => Lt (B + x20) fun x22 => Option.bind (f_Tb_get c 24 (nI k) (2 : Int32)) fun x23 => if (x22 + x23 : Int32) ≤ c 52 2 then J18 x22 (nI k) else Jc x22 (nI k)) fun J21 => if (j : Int32) = (-1 : Int32) then J21 (0 : Int32) else Option.bind (f_Tb_get c 24 j (2 : Int32)) fun x24 => J21 x24) else J18 B j) = _
      rw [if_neg (by rw [e6]; exact nI_ge hk (by omega)), bd_e (pcg (b := 17) hI hD (show k < 126 by omega) (by decide)), Jn_e, r0, hc, hf]
      by_cases e : m 29 k = nI cur
      · rw [if_pos e, if_pos e]
        have hx : ∀ K : Int32 → Option (Int32 × St), (if (j : Int32) = (-1 : Int32) then K (0 : Int32) else Option.bind (f_Tb_get c 24 j (2 : Int32)) fun x24 => K x24) = K (SLr m cur k - B) := fun K => by
          rcases a4 with x | ⟨jj, b1, b2, b3, b4, b5⟩
          · rw [if_pos x.1, x.2.1, x.2.2]; rfl
          · have hjc : jj < (m 0 57).toNatClampNeg := by rw [h57, nI_clamp (by omega)]; omega
            have r2' : c 25 (jj * 8 + 2) = m 31 jj := hV.pr jj 2 hjc (by decide)
            have e1 : SLr m cur k - B = m 31 jj := by
              obtain ⟨l', l1', l2', el'⟩ := hlen jj (by omega)
              have eln' : (nI l').toInt = (l' : Int) := nI_toInt (by omega)
              rw [el', eln'] at b5
              apply i2
              rw [tI_sub (by omega) (by omega), el', eln']
              omega
            rw [if_neg (by rw [b2]; intro q; have h1 := nI_pos' (n := jj) (by omega); rw [q] at h1; revert h1; decide), b2, bd_e (pcg (b := 17) hI hD (show jj < 126 by omega) (by decide))]
            show K (c 25 (jj * 8 + 2)) = _
            rw [r2', e1]
        refine (Jn_x (SLr m cur k - B) (fun K => hx K)).trans ?_
        have e2 : B + (SLr m cur k - B) = SLr m cur k := by
          apply i2
          have e3 : (SLr m cur k - B).toInt = (SLr m cur k).toInt - B.toInt := by
            have hb2 : B.toInt ≤ (SLr m cur k).toInt := by
              rcases a4 with x | ⟨jj, b1, b2, b3, b4, b5⟩
              · rw [x.2.1, x.2.2]; exact Int.le_refl _
              · obtain ⟨l', l1', l2', el'⟩ := hlen jj (by omega)
                have eln' : (nI l').toInt = (l' : Int) := nI_toInt (by omega)
                rw [el', eln'] at b5
                omega
            exact tI_sub (by omega) (by omega)
          rw [tI_add (by omega) (by omega), e3]
          omega
        rw [e2, Lt_e, bd_e (pcg (b := 17) hI hD (show k < 126 by omega) (by decide))]
        show (if SLr m cur k + c 25 (k * 8 + 2) ≤ nI fl then _ else _) = _
        rw [r2]
        dsimp only
        rw [Lt_e, nI_1]
      · rw [if_neg e, if_neg e]
        dsimp only
        rw [Lt_e, nI_1]
    have km : ∀ ih : Int32 × Int32 × Int32 × Int32 × Int32 → Option (Int32 × St), lb_m_hasPosition_35 m (nI cur) Jm ih (SLr m cur k, j, B, 0, nI k) = if m 29 k = nI cur then ih (SLr m cur k + m 31 k, nI k, SLr m cur k, (if SLr m cur k + m 31 k ≤ nI fl then 0 else 1), nI (k + 1)) else ih (SLr m cur k, j, B, 0, nI (k + 1)) := by
      intro ih
      unfold lb_m_hasPosition_35
      simp only [nI_clamp (show k < 2 ^ 31 by omega)]
      rw [if_neg (by rw [h57]; exact nI_ge hk (by omega)), if_pos trivial, Gd_t g180, Jn_e]
      by_cases e : m 29 k = nI cur
      · rw [if_pos e, if_pos e, Gd_t g180, Lt_e, Jn_if, hfm]
        dsimp only
        rw [Lt_e, nI_1]
      · rw [if_neg e, if_neg e]
        dsimp only
        rw [Lt_e, nI_1]
    rw [lp_s (by omega), lp_s (show 0 < g2 by omega), kc, km]
    by_cases e : m 29 k = nI cur
    · rw [if_pos e, if_pos e]
      rw [if_pos e] at hS1
      have hadd : (SLr m cur k + m 31 k).toInt = (SLr m cur k).toInt + (l : Int) := by rw [el, tI_add (by rw [eln]; omega) (by rw [eln]; omega), eln]
      have efl : (nI fl).toInt = (fl : Int) := nI_toInt (by omega)
      by_cases hbr : SLr m cur k + m 31 k ≤ nI fl
      · have hbr' := Int32.le_iff_toInt_le.mp hbr
        rw [hadd, efl] at hbr'
        rw [if_pos hbr, if_pos hbr, ← hS1]
        exact ih (k + 1) (g1 - 1) (g2 - 1) _ _ (by omega) (by omega) (by omega) ⟨by rw [hS1, hadd]; omega, by rw [hS1, hadd]; omega, a1, Or.inr ⟨k, by omega, rfl, e, hS1, by rw [hS1, hadd, el, eln]⟩⟩
      · have hbr' : ¬ (SLr m cur k + m 31 k).toInt ≤ (nI fl).toInt := fun q => hbr (Int32.le_iff_toInt_le.mpr q)
        rw [hadd, efl] at hbr'
        rw [if_neg hbr, if_neg hbr]
        refine ⟨SLr m cur k, nI k, rfl, ?_, Or.inr ⟨k, hk, rfl, e, a1, a2, by rw [el, eln]; omega⟩⟩
        rw [lp_s (by omega)]
        show (if m 0 57 ≤ nI (k + 1) then Jm (nI k) (SLr m cur k) else if (1 : Int32) = 0 then _ else Jm (nI k) (SLr m cur k)) = _
        rw [if_neg n10]
        split <;> rfl
    · rw [if_neg e, if_neg e]
      rw [if_neg e, Int32.add_zero] at hS1
      rw [← hS1]
      refine ih (k + 1) (g1 - 1) (g2 - 1) B j (by omega) (by omega) (by omega) ?_
      unfold FS
      rw [hS1]
      refine ⟨a1, a2, a3, ?_⟩
      rcases a4 with x | ⟨jj, b1, b2, b3, b4, b5⟩
      · exact Or.inl x
      · exact Or.inr ⟨jj, by omega, b2, b3, b4, b5⟩
