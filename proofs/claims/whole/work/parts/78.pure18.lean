/-! a turn, on each side -/

theorem Jn_x {α β : Type} {k : α → β} {b : (α → β) → β} (x : α) (h : ∀ J, b J = J x) : Jn k b = k x := by
  rw [Jn_e]
  exact h k
def tnA (v1 v : Nat) : Nat := (v + 24 - v1) % 24
def tnD (a : Nat) : Nat := if a ≤ 12 then a else 24 - a
def tnS (a : Nat) : Int32 := if a ≤ 12 then nI a else nI a - 24
theorem tnA_b {v1 v : Nat} (h1 : v1 < 24) (h : v < 24) : tnA v1 v < 24 ∧ (v1 ≠ v → 0 < tnA v1 v) := by
  unfold tnA
  omega
theorem tnD_b {a : Nat} (h : a < 24) : tnD a ≤ 12 ∧ (0 < a → 0 < tnD a) := by
  unfold tnD
  split <;> omega
theorem cr_n (v v1 : Nat) (h : v < 24) (h1 : v1 < 24) : cr (nI v - nI v1) = nI (tnA v1 v) := (by decide +kernel : ∀ v, v < 24 → ∀ v1, v1 < 24 → cr (nI v - nI v1) = nI (tnA v1 v)) v h v1 h1
theorem tnD_c (a : Nat) (h : a < 24) : (if (12 : Int32) < nI a then (24 : Int32) - nI a else nI a) = nI (tnD a) := (by decide +kernel : ∀ a, a < 24 → (if (12 : Int32) < nI a then (24 : Int32) - nI a else nI a) = nI (tnD a)) a h
theorem tnS_c (a : Nat) (h : a < 24) : (if (12 : Int32) < nI a then -nI (tnD a) else nI (tnD a)) = tnS a := (by decide +kernel : ∀ a, a < 24 → (if (12 : Int32) < nI a then -nI (tnD a) else nI (tnD a)) = tnS a) a h
theorem tnS_m (a : Nat) (h : a < 24) : (if (12 : Int32) < nI a then nI a - (24 : Int32) else nI a) = tnS a := (by decide +kernel : ∀ a, a < 24 → (if (12 : Int32) < nI a then nI a - (24 : Int32) else nI a) = tnS a) a h
theorem tnS_a (a : Nat) (h : a < 24) : iabs (tnS a) = nI (tnD a) := (by decide +kernel : ∀ a, a < 24 → iabs (tnS a) = nI (tnD a)) a h
theorem led_b (d : Nat) (h : d < 9) : 0 ≤ (LEDS.getD d 0).toInt ∧ (LEDS.getD d 0).toInt ≤ 1732 := (by decide +kernel : ∀ d, d < 9 → 0 ≤ (LEDS.getD d 0).toInt ∧ (LEDS.getD d 0).toInt ≤ 1732) d h
def tnL (r : Int32) (d : Nat) : Int32 := if d ≤ 8 then r * LEDS.getD d 0 / 1000 else 0
/-- a product by a thousand, in ints and in longs -/
theorem md_e {r s : Int32} (h1 : -2147483648 ≤ r.toInt * s.toInt) (h2 : r.toInt * s.toInt < 2147483648) : Int64.toInt32 ((r.toInt64 * s.toInt64) / (1000 : Int64)) = (r * s) / (1000 : Int32) ∧ ((r * s) / (1000 : Int32)).toInt = (r.toInt * s.toInt).tdiv 1000 := by
  have e1 : ((r * s) / (1000 : Int32)).toInt = (r.toInt * s.toInt).tdiv 1000 := by rw [tI_div k1000 (by decide), tI_mul h1 h2]
  have e2 : ((r.toInt64 * s.toInt64) / (1000 : Int64)).toInt = (r.toInt * s.toInt).tdiv 1000 := by rw [tL_div k1000L (by decide), tL_mul (by rw [tw, tw]; omega) (by rw [tw, tw]; omega), tw, tw]
  have hb := tdb (x := r.toInt * s.toInt) (d := 1000) (B := 2147483648) (by decide) h1 (by omega)
  have h3 : (r.toInt * s.toInt).tdiv 1000 < 2147483648 := by
    rcases Int.lt_or_le (r.toInt * s.toInt) 0 with h | h
    · rw [td_neg h]
      have : 0 ≤ -(r.toInt * s.toInt) / 1000 := Int.ediv_nonneg (by omega) (by decide)
      omega
    · rw [td_pos h]
      omega
  exact ⟨i2 (by rw [tn (by rw [e2]; omega) (by rw [e2]; omega), e2, e1]), e1⟩
theorem tnL_b {r : Int32} {d : Nat} (h1 : 1 ≤ r.toInt) (h2 : r.toInt ≤ 311) : 0 ≤ (tnL r d).toInt ∧ (tnL r d).toInt ≤ 539 := by
  unfold tnL
  split
  · rename_i h
    have hl := led_b d (by omega)
    have mm := mulb (a := r.toInt) (b := (LEDS.getD d 0).toInt) (A := 311) (B := 1732) (by omega) h2 (by omega) hl.2
    have p0 : 0 ≤ r.toInt * (LEDS.getD d 0).toInt := Int.mul_nonneg (by omega) hl.1
    rw [(md_e (by omega) (by omega)).2, td_pos p0]
    omega
  · exact ⟨by decide, by decide⟩
theorem leadOf_c {c : St} {r : Int32} {d : Nat} (hd : d ≤ 12) : f_Tk_leadOf c r (nI d) = some (tnL r d) := by
  unfold f_Tk_leadOf tnL
  rw [Jn_e, Jn_e, if_neg (nI_pos (by omega))]
  by_cases h : d ≤ 8
  · rw [if_neg (show ¬ (9 : Int32) ≤ nI d from nI_ge (a := d) (b := 9) (by omega) (by decide)), Gd_t (Ix_n (by omega) (by decide)), if_pos h]
    simp only [nI_clamp (show d < 2 ^ 31 by omega)]
  · rw [if_pos (show (9 : Int32) ≤ nI d from nI_le (a := 9) (b := d) (by omega) (by omega)), if_neg h]
theorem fast_c {c : St} {b q s g v g1 v1 : Nat} {L1 L2 : Int32} (hI : PI b q) (hD : Dm c) (hs : s < 42) (hg : g < 21) (hg1 : g1 < 21)
    (c0 : c (b + 5) (s * 16 + 0) = nI g) (c6 : c (b + 5) (s * 16 + 6) = nI v) (c7 : c (b + 5) (s * 16 + 7) = nI g1) (c8 : c (b + 5) (s * 16 + 8) = nI v1) (cL1 : c (q + 2) (g1 * 14 + 11) = L1) (cL2 : c (q + 2) (g * 14 + 11) = L2) :
    f_Tk_fastest c (b + 3) (nI s) = some (imax (gsp c L1 (nI v1)) (gsp c L2 (nI v))) := by
  unfold f_Tk_fastest
  rw [rc_b33 hI, rc_b30 hI, rc_q0 hI, rc_b31 hI, bd_e (sgg hI hD hs (by decide)), c7, bd_e (pg hI hD hg1 (by decide)), bd_e (sgg hI hD hs (by decide)), c0, bd_e (pg hI hD hg (by decide)), bd_e (sgg hI hD hs (by decide)), c8, bd_e (gs_c c _ _), bd_e (sgg hI hD hs (by decide)), c6, bd_e (gs_c c _ _), cL1, cL2]
abbrev OV (g1 g k1 o1 : Nat) : Prop := g1 ≠ g ∧ (k1 = 8 ∨ o1 = 1)
theorem mbo_c {c : St} {b q s g g1 k1 o1 : Nat} (hI : PI b q) (hD : Dm c) (hs : s < 42) (hg : g < 21) (hg1 : g1 < 21) (hk : k1 < 9) (ho : o1 ≤ 1)
    (c0 : c (b + 5) (s * 16 + 0) = nI g) (c7 : c (b + 5) (s * 16 + 7) = nI g1) (ck : c (q + 2) (g1 * 14 + 0) = nI k1) (co : c (q + 2) (g1 * 14 + 12) = nI o1) :
    f_Tk_mustBeFlownOver c (b + 3) (nI s) = some (if OV g1 g k1 o1 then 1 else 0) := by
  unfold f_Tk_mustBeFlownOver
  rw [rc_b33 hI, rc_b30 hI, rc_q0 hI, bd_e (sgg hI hD hs (by decide)), c7, bd_e (sgg hI hD hs (by decide)), c0]
  by_cases h : g1 = g
  · rw [if_pos (by rw [h]), if_neg (fun q => q.1 h)]
  · rw [if_neg (fun q => h ((nI_eq (by omega) (by omega)).mp q)), bd_e (kd_c hI hD hg1), ck, Jn_e, Jn_e]
    by_cases h8 : k1 = 8
    · rw [if_pos ((nIl 8 (by omega) (by omega)).mpr h8), if_pos ⟨h, Or.inl h8⟩]
      exact Gd_t (by decide)
    · rw [if_neg (fun q => h8 ((nIl 8 (by omega) (by omega)).mp q)), bd_e (pg hI hD hg1 (by decide)), co]
      by_cases h1 : o1 = 1
      · rw [if_pos ((nIl 1 (by omega) (by omega)).mpr h1), if_pos ⟨h, Or.inr h1⟩]
        exact Gd_t (by decide)
      · rw [if_neg (fun q => h1 ((nIl 1 (by omega) (by omega)).mp q)), if_neg (fun q => by have := q.2; omega)]
        exact Gd_t (by decide)
def tv4 (c : St) (b s : Nat) (T S r L : Int32) : St := s2 (s2 (s2 (s2 c (b + 5) (s * 16 + 11) T) (b + 5) (s * 16 + 12) S) (b + 5) (s * 16 + 13) r) (b + 5) (s * 16 + 14) L
def tl4 (c : St) (b g : Nat) (T S r L : Int32) : St := s2 (s2 (s2 (s2 c (b + 2) (g * 16 + 4) T) (b + 2) (g * 16 + 5) S) (b + 2) (g * 16 + 6) r) (b + 2) (g * 16 + 7) L
theorem tell_c {c : St} {b q s g : Nat} (hI : PI b q) (hD : Dm c) (hs : s < 42) (hg : g < 21) (c0 : c (b + 5) (s * 16 + 0) = nI g) :
    f_Tk_tellLegOfTurn c (b + 3) (nI s) = some (if s = 0 ∨ ¬ c (b + 5) ((s - 1) * 16 + 0) = nI g then tl4 c b g (c (b + 5) (s * 16 + 11)) (c (b + 5) (s * 16 + 12)) (c (b + 5) (s * 16 + 13)) (c (b + 5) (s * 16 + 14)) else c) := by
  have nt := hI.nt.2.1
  have n5 : b + 5 ≠ b + 2 := by omega
  unfold f_Tk_tellLegOfTurn
  rw [rc_b33 hI, rc_b32 hI, bd_e (sgg hI hD hs (by decide)), c0, Jn_e]
  have key : (Option.bind (f_Tb_get c (b + 4) (nI s) (11 : Int32)) fun x3 =>
  Option.bind (f_Tb_put c (b + 1) (nI g) (4 : Int32) x3) fun x4 =>
  Option.bind (f_Tb_get x4 (b + 4) (nI s) (12 : Int32)) fun x5 =>
  Option.bind (f_Tb_put x4 (b + 1) (nI g) (5 : Int32) x5) fun x6 =>
  Option.bind (f_Tb_get x6 (b + 4) (nI s) (13 : Int32)) fun x7 =>
  Option.bind (f_Tb_put x6 (b + 1) (nI g) (6 : Int32) x7) fun x8 =>
  Option.bind (f_Tb_get x8 (b + 4) (nI s) (14 : Int32)) fun x9 =>
  Option.bind (f_Tb_put x8 (b + 1) (nI g) (7 : Int32) x9) fun x10 =>
  some x10) = some (tl4 c b g (c (b + 5) (s * 16 + 11)) (c (b + 5) (s * 16 + 12)) (c (b + 5) (s * 16 + 13)) (c (b + 5) (s * 16 + 14))) := by
    rw [bd_e (sgg hI hD hs (by decide)), bd_e (lgp hI hD hg (by decide)), bd_e (sgg hI (hD.s2 nt) hs (by decide)), s2_ne n5, bd_e (lgp hI (hD.s2 nt) hg (by decide)), bd_e (sgg hI ((hD.s2 nt).s2 nt) hs (by decide)), s2_ne n5, s2_ne n5, bd_e (lgp hI ((hD.s2 nt).s2 nt) hg (by decide)), bd_e (sgg hI (((hD.s2 nt).s2 nt).s2 nt) hs (by decide)), s2_ne n5, s2_ne n5, s2_ne n5, bd_e (lgp hI (((hD.s2 nt).s2 nt).s2 nt) hg (by decide))]
    rfl
  by_cases h0 : s = 0
  · rw [if_pos (show nI s ≤ 0 by rw [h0]; decide), if_pos (Or.inl h0)]
    exact key
  · have e1 : nI s - (1 : Int32) = nI (s - 1) := pk_sub (a := s) (b := 1) (by omega)
    rw [if_neg (nI_nle (by omega) (by omega)), e1, bd_e (sgg hI hD (show s - 1 < 42 by omega) (by decide))]
    by_cases h1 : c (b + 5) ((s - 1) * 16 + 0) = nI g
    · rw [if_pos h1, if_neg (fun q => by rcases q with q | q; exact h0 q; exact q h1)]
    · rw [if_neg h1, if_pos (Or.inr h1)]
      exact key
abbrev BYt (d : Nat) (L l1 l : Int32) (ov : Prop) : Prop := d ≤ 8 ∧ ¬ l1 < 2 * L ∧ ¬ l < 2 * L ∧ ¬ ov
theorem turn_c {c : St} {b q s g v g1 v1 k1 o1 : Nat} {L1 L2 l l1 : Int32} (hI : PI b q) (hD : Dm c) (hs : s < 42) (hg : g < 21) (hg1 : g1 < 21) (hv : v < 24) (hv1 : v1 < 24) (hne : v1 ≠ v) (hk : k1 < 9) (ho : o1 ≤ 1)
    (c0 : c (b + 5) (s * 16 + 0) = nI g) (c5 : c (b + 5) (s * 16 + 5) = l) (c6 : c (b + 5) (s * 16 + 6) = nI v) (c7 : c (b + 5) (s * 16 + 7) = nI g1) (c8 : c (b + 5) (s * 16 + 8) = nI v1) (c9 : c (b + 5) (s * 16 + 9) = l1) (cL1 : c (q + 2) (g1 * 14 + 11) = L1) (cL2 : c (q + 2) (g * 14 + 11) = L2) (ck : c (q + 2) (g1 * 14 + 0) = nI k1) (co : c (q + 2) (g1 * 14 + 12) = nI o1)
    {r : Int32} (er : r = rad (imax (gsp c L1 (nI v1)) (gsp c L2 (nI v)))) {T Ld : Int32} (eT : T = if BYt (tnD (tnA v1 v)) (tnL r (tnD (tnA v1 v))) l1 l (OV g1 g k1 o1) then 1 else 2) (eL : Ld = if BYt (tnD (tnA v1 v)) (tnL r (tnD (tnA v1 v))) l1 l (OV g1 g k1 o1) then tnL r (tnD (tnA v1 v)) else 0) (h0 : c (b + 5) (s * 16 + 10) = 1 → 0 < s) :
    f_Tk_turnInto c (b + 3) (nI s) = f_Tk_tellLegOfTurn (if c (b + 5) (s * 16 + 10) = 1 then s2 (tv4 c b s T (tnS (tnA v1 v)) r Ld) (b + 5) ((s - 1) * 16 + 15) Ld else tv4 c b s T (tnS (tnA v1 v)) r Ld) (b + 3) (nI s) := by
  have nt := hI.nt.2.2.2.1
  obtain ⟨ha, ha0⟩ := tnA_b hv1 hv
  have hd := (tnD_b ha).1
  generalize ea : tnA v1 v = a at *
  generalize ed : tnD a = d at *
  have n7 : ¬ nI g1 = (-1 : Int32) := fun q => by have h1 := nI_pos' (n := g1) (by omega); rw [q] at h1; revert h1; decide
  unfold f_Tk_turnInto
  rw [rc_b33 hI, bd_e (sgg hI hD hs (by decide)), bd_e (sgg hI hD hs (by decide)), bd_e (sgg hI hD hs (by decide)), c8, c6, c7, Jn_e, if_neg n7, if_neg (fun q => hne ((nI_eq (by omega) (by omega)).mp q)), bd_e (course_e _), cr_n v v1 hv hv1, ea, Jn_if, tnD_c a ha, ed, bd_e (fast_c hI hD hs hg hg1 c0 c6 c7 c8 cL1 cL2), bd_e (rad_c _), ← er, bd_e (leadOf_c hd)]
  refine (Jn_x (if BYt d (tnL r d) l1 l (OV g1 g k1 o1) then (1 : Int32) else 0) (fun J => ?_)).trans ?_
  · rw [Jn_e]
    by_cases h1 : d ≤ 8
    · rw [if_neg (show ¬ (8 : Int32) < nI d from nI_nlt (a := 8) (b := d) h1 (by decide)), bd_e (sgg hI hD hs (by decide)), c9]
      by_cases h2 : l1 < 2 * tnL r d
      · rw [if_pos h2, if_neg (fun q => q.2.1 h2)]
      · rw [if_neg h2, bd_e (sgg hI hD hs (by decide)), c5]
        by_cases h3 : l < 2 * tnL r d
        · rw [if_pos h3, if_neg (fun q => q.2.2.1 h3)]
        · rw [if_neg h3, bd_e (mbo_c hI hD hs hg hg1 hk ho c0 c7 ck co)]
          by_cases h4 : OV g1 g k1 o1
          · rw [if_pos h4, if_neg (by decide), if_neg (fun q => q.2.2.2 h4)]
          · rw [if_neg h4, if_pos rfl, if_pos ⟨h1, h2, h3, h4⟩]
    · rw [if_pos (show (8 : Int32) < nI d from nI_lt (a := 8) (b := d) (by omega) (by omega)), if_neg (fun q => h1 q.1)]
  · have eT' : (if (if BYt d (tnL r d) l1 l (OV g1 g k1 o1) then (1 : Int32) else 0) = 0 then (2 : Int32) else 1) = T := by
      rw [eT]
      by_cases hb : BYt d (tnL r d) l1 l (OV g1 g k1 o1)
      · rw [if_pos hb, if_neg (by decide), if_pos hb]
      · rw [if_neg hb, if_pos rfl, if_neg hb]
    have eL' : (if (if BYt d (tnL r d) l1 l (OV g1 g k1 o1) then (1 : Int32) else 0) = 0 then (0 : Int32) else tnL r d) = Ld := by
      rw [eL]
      by_cases hb : BYt d (tnL r d) l1 l (OV g1 g k1 o1)
      · rw [if_pos hb, if_neg (by decide), if_pos hb]
      · rw [if_neg hb, if_pos rfl, if_neg hb]
    have eS := tnS_c a ha
    rw [ed] at eS
    rw [Jn_if, eT', bd_e (sgp hI hD hs (by decide)), Jn_if, eS, bd_e (sgp hI (hD.s2 nt) hs (by decide)), bd_e (sgp hI ((hD.s2 nt).s2 nt) hs (by decide)), Jn_if, eL', bd_e (sgp hI (((hD.s2 nt).s2 nt).s2 nt) hs (by decide))]
    have D4 : Dm (tv4 c b s T (tnS a) r Ld) := (((hD.s2 nt).s2 nt).s2 nt).s2 nt
    show Option.bind (f_Tb_get (tv4 c b s T (tnS a) r Ld) (b + 4) (nI s) (10 : Int32)) _ = _
    have e10 : tv4 c b s T (tnS a) r Ld (b + 5) (s * 16 + 10) = c (b + 5) (s * 16 + 10) := by simp (disch := omega) only [sM, tv4]
    have e14 : tv4 c b s T (tnS a) r Ld (b + 5) (s * 16 + 14) = Ld := by simp (disch := omega) only [sH, tv4]
    rw [bd_e (sgg hI D4 hs (by decide)), e10, Jn_e]
    have op : ∀ o : Option St, (Option.bind o fun x => some x) = o := fun o => by cases o <;> rfl
    by_cases h1 : c (b + 5) (s * 16 + 10) = 1
    · have hs0 := h0 h1
      have e1 : nI s - (1 : Int32) = nI (s - 1) := pk_sub (a := s) (b := 1) (by omega)
      rw [if_pos h1, if_pos h1]
      show Option.bind (f_Tb_get (tv4 c b s T (tnS a) r Ld) (b + 4) (nI s) (14 : Int32)) _ = _
      rw [bd_e (sgg hI D4 hs (by decide)), e14, e1]
      show Option.bind (f_Tb_put (tv4 c b s T (tnS a) r Ld) (b + 4) (nI (s - 1)) (15 : Int32) Ld) _ = _
      rw [bd_e (sgp hI D4 (show s - 1 < 42 by omega) (by decide))]
      exact op _
    · rw [if_neg h1, if_neg h1]
      exact op _
theorem turn_c0 {c : St} {b q s : Nat} (hI : PI b q) (hD : Dm c) (hs : s < 42) (h : c (b + 5) (s * 16 + 7) = -1 ∨ c (b + 5) (s * 16 + 8) = c (b + 5) (s * 16 + 6)) : f_Tk_turnInto c (b + 3) (nI s) = some c := by
  unfold f_Tk_turnInto
  rw [rc_b33 hI, bd_e (sgg hI hD hs (by decide)), bd_e (sgg hI hD hs (by decide)), bd_e (sgg hI hD hs (by decide)), Jn_e]
  by_cases h7 : c (b + 5) (s * 16 + 7) = -1
  · rw [if_pos h7]
  · rw [if_neg h7, if_pos (h.resolve_left h7)]
