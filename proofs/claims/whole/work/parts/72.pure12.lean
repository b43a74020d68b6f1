/-! the body of the loop over the legs, on both sides -/

def p4l (c : St) (b i : Nat) : St := s2 (s2 (s2 (s2 c (b + 2) (i * 16 + 2) (-1000000)) (b + 2) (i * 16 + 3) (-1000000)) (b + 2) (i * 16 + 11) (-1000000)) (b + 2) (i * 16 + 8) (-1000000)
theorem p4l_o {c : St} {b i a : Nat} (h : a ≠ b + 2) : p4l c b i a = c a := by unfold p4l; rw [s2_ne h, s2_ne h, s2_ne h, s2_ne h]
theorem p4l_k {c : St} {b i k : Nat} (h1 : k ≠ i * 16 + 2) (h2 : k ≠ i * 16 + 3) (h3 : k ≠ i * 16 + 11) (h4 : k ≠ i * 16 + 8) : p4l c b i (b + 2) k = c (b + 2) k := by unfold p4l; rw [s2_k h4, s2_k h3, s2_k h2, s2_k h1]
theorem p4l_v {c : St} {b i : Nat} : p4l c b i (b + 2) (i * 16 + 2) = -1000000 ∧ p4l c b i (b + 2) (i * 16 + 3) = -1000000 ∧ p4l c b i (b + 2) (i * 16 + 11) = -1000000 ∧ p4l c b i (b + 2) (i * 16 + 8) = -1000000 := by
  unfold p4l
  refine ⟨?_, ?_, ?_, ?_⟩
  · rw [s2_k (by omega), s2_k (by omega), s2_k (by omega), s2_at]
  · rw [s2_k (by omega), s2_k (by omega), s2_at]
  · rw [s2_k (by omega), s2_at]
  · rw [s2_at]
theorem Dm_p4l {c : St} {b q i : Nat} (hI : PI b q) (hD : Dm c) : Dm (p4l c b i) := by
  have nt := hI.nt.2.1
  exact (((hD.s2 nt).s2 nt).s2 nt).s2 nt
/-- whether a leg starts anew -/
abbrev Anw (m : St) (P i k : Nat) : Prop := i = 0 ∨ k = 0 ∨ k = 8 ∨ m 1 (P + 3 + 14 * i + 13) = 1 ∨ m 19 (i - 1) = 0
theorem sa_c {c m : St} {b q P i k : Nat} (hI : PI b q) (hD : Dm c) (hi : i < 21) (hk : c (q + 2) (i * 14 + 0) = nI k) (hk9 : k < 9) (hg : c (q + 2) (i * 14 + 13) = m 1 (P + 3 + 14 * i + 13)) (he : 0 < i → c (b + 2) ((i - 1) * 16 + 1) = m 19 (i - 1)) :
    (Anw m P i k → f_Tk_startsAnew c (b + 3) (nI i) = some 1) ∧ (¬ Anw m P i k → f_Tk_startsAnew c (b + 3) (nI i) = some 0) := by
  unfold f_Tk_startsAnew Anw
  rw [rc_b30 hI, rc_b32 hI, rc_q0 hI, bd_e (kd_c hI hD hi), Jn_e, Jn_e, hk]
  have g1 : Gd ((1 : Int32) &&& 1 = 1) (some (1 : Int32)) = some 1 := Gd_t (by decide)
  have g0 : Gd ((0 : Int32) &&& 1 = 0) (some (0 : Int32)) = some 0 := Gd_t (by decide)
  by_cases h0 : i = 0
  · rw [if_pos (show nI i = 0 by rw [h0]; rfl)]
    exact ⟨fun _ => g1, fun h => absurd (Or.inl h0) h⟩
  · rw [if_neg (nI_ne0 (by omega) (by omega))]
    by_cases h1 : k = 0
    · rw [if_pos (show nI k = 0 by rw [h1]; rfl)]
      exact ⟨fun _ => g1, fun h => absurd (Or.inr (Or.inl h1)) h⟩
    · rw [if_neg (nI_ne0 (by omega) (by omega))]
      by_cases h8 : k = 8
      · rw [if_pos (show nI k = 8 by rw [h8]; rfl)]
        exact ⟨fun _ => g1, fun h => absurd (Or.inr (Or.inr (Or.inl h8))) h⟩
      · rw [if_neg (fun h => h8 ((nIl 8 (by omega) (by omega)).mp h)), bd_e (pg hI hD hi (by decide)), hg]
        have ei : nI i - (1 : Int32) = nI (i - 1) := pk_sub (a := i) (b := 1) (by omega)
        by_cases hgp : m 1 (P + 3 + 14 * i + 13) = 1
        · rw [if_pos hgp]
          exact ⟨fun _ => g1, fun h => absurd (Or.inr (Or.inr (Or.inr (Or.inl hgp)))) h⟩
        · rw [if_neg hgp, ei, bd_e (lgg hI hD (show i - 1 < 21 by omega) (by decide)), he (by omega)]
          by_cases h19 : m 19 (i - 1) = 0
          · rw [if_pos h19]
            exact ⟨fun _ => g1, fun h => absurd (Or.inr (Or.inr (Or.inr (Or.inr h19)))) h⟩
          · rw [if_neg h19]
            exact ⟨fun h => by rcases h with h | h | h | h | h <;> exact absurd h (by assumption), fun _ => g0⟩
/-- a leg's entry, in the class -/
theorem entry_v (a b r : Int32) : ∃ e : Nat, e ≤ 2 ∧ f_Cm_entry a b r = some (nI e) := by
  unfold f_Cm_entry
  have key : ∀ x : Int32, ∃ e : Nat, e ≤ 2 ∧ (Option.bind (f_Cm_course x) fun x3 =>
      Jn (fun (_ : Unit) => some (0 : Int32)) fun J4 =>
      if (x3 : Int32) ≤ (7 : Int32) then (J4 ()) else (
      if (x3 : Int32) < (20 : Int32) then (
      Jn (fun (x5 : Int32) => some x5) fun J6 => if ((11 : Int32) : Int32) < x3 then (J6 (2 : Int32)) else (J6 (1 : Int32)))
      else (J4 ()))) = some (nI e) := fun x => by
    rw [bd_e (course_e x)]
    by_cases h1 : cr x ≤ 7
    · exact ⟨0, by decide, by rw [Jn_e, if_pos h1]; rfl⟩
    · by_cases h2 : cr x < 20
      · by_cases h3 : 11 < cr x
        · exact ⟨2, by decide, by rw [Jn_e, if_neg h1, if_pos h2, Jn_e, if_pos h3]; rfl⟩
        · exact ⟨1, by decide, by rw [Jn_e, if_neg h1, if_pos h2, Jn_e, if_neg h3]; rfl⟩
      · exact ⟨0, by decide, by rw [Jn_e, if_neg h1, if_neg h2]; rfl⟩
  rw [Jn_e]
  split
  · exact key _
  · exact key _
def hdl (c : St) (b i : Nat) (e v s : Int32) : St := s2 (s2 (s2 (s2 (s2 c (b + 2) (i * 16 + 8) e) (b + 3) 7 (nI i)) (b + 3) 8 v) (b + 3) 9 s) (b + 3) 10 0
theorem hold_c {c : St} {b q i v w s : Nat} (hI : PI b q) (hD : Dm c) (hi : i < 21) (hv : c (q + 2) (i * 14 + 2) = nI v) (hw : c (q + 2) (i * 14 + 4) = nI w) (hw1 : w ≤ 1) (hs : c (q + 2) (i * 14 + 5) = nI s) :
    ∃ e : Nat, e ≤ 2 ∧ f_Tk_hold c (b + 3) (nI i) = some (hdl c b i (nI e) (nI v) (nI s)) ∧ (c (b + 3) 7 = -1 → e = 0) ∧ (c (b + 3) 7 ≠ -1 → f_Cm_entry (c (b + 3) 8) (nI v) (nI w) = some (nI e)) := by
  have hlt := hI.lt
  have nt := hI.nt.2.1
  obtain ⟨e0, e01, e02⟩ := entry_v (c (b + 3) 8) (nI v) (nI w)
  have hb : ∀ e : Nat, (Option.bind (f_Tb_put c (b + 1) (nI i) (8 : Int32) (nI e)) fun x7 => Option.bind (f_Tb_get x7 (q + 1) (nI i) (5 : Int32)) fun x8 => Option.bind (f_Tk_comeFrom x7 (b + 3) (nI i) (nI v) x8) fun x9 => Lt (s2 x9 (b + 3) 10 (0 : Int32)) fun σ10 => some σ10) = some (hdl c b i (nI e) (nI v) (nI s)) := fun e => by
    rw [bd_e (lgp hI hD hi (by decide)), bd_e (pg hI (hD.s2 nt) hi (by decide)), s2_ne (by omega), hs]
    rfl
  unfold f_Tk_hold
  rw [rc_b30 hI, rc_b32 hI, rc_q0 hI, bd_e (pg hI hD hi (by decide)), bd_e (pg hI hD hi (by decide)), hv, hw, Jn_e]
  have key : ∃ e : Nat, e ≤ 2 ∧ (Jn (fun (x5 : Int32) => Option.bind (f_Tb_put c (b + 1) (nI i) (8 : Int32) x5) fun x7 => Option.bind (f_Tb_get x7 (q + 1) (nI i) (5 : Int32)) fun x8 => Option.bind (f_Tk_comeFrom x7 (b + 3) (nI i) (nI v) x8) fun x9 => Lt (s2 x9 (b + 3) 10 (0 : Int32)) fun σ10 => some σ10) fun J6 =>
      if ((c (b + 3) 7) : Int32) = (-1 : Int32) then (J6 (0 : Int32)) else (Option.bind (f_Cm_entry (c (b + 3) 8) (nI v) (nI w)) fun x11 => J6 x11)) = some (hdl c b i (nI e) (nI v) (nI s)) ∧ (c (b + 3) 7 = -1 → e = 0) ∧ (c (b + 3) 7 ≠ -1 → f_Cm_entry (c (b + 3) 8) (nI v) (nI w) = some (nI e)) := by
    rw [Jn_e]
    by_cases h : c (b + 3) 7 = -1
    · exact ⟨0, by decide, by rw [if_pos h]; exact hb 0, fun _ => rfl, fun q => absurd h q⟩
    · exact ⟨e0, e01, by rw [if_neg h, bd_e e02]; exact hb e0, fun q => absurd q h, fun _ => e02⟩
  rcases (show w = 0 ∨ w = 1 by omega) with ew | ew
  · subst ew
    rw [if_neg (by decide)]
    exact key
  · subst ew
    rw [if_pos (by decide)]
    exact key
/-- the reference's body -/
def mA (m : St) (i : Nat) (a : Int32) : St := s2 (s2 (s2 m 18 i a) 19 i 0) 22 i (m 0 30)
def mI (m : St) (c l g s : Int32) : St := s2 (s2 (s2 (s2 m 0 31 c) 0 32 l) 0 33 g) 0 34 s
def sbT (P i k : Nat) (σ19 : St) (x17 : Int32) (ih : Int32 × St → Option St) : Option St :=
  Gd (Ix (nI i) 22) <|
  Jn (fun (x21 : Int32) =>
  Gd (Ix (nI i) 21) <|
  Lt (s2 σ19 23 (Int32.toNatClampNeg (nI i)) x21) fun σ23 =>
  Jn (fun (x24 : Int32) =>
  Lt (s2 σ23 0 41 x24) fun σ26 =>
  Jn (fun (σ27 : St) =>
  Lt (nI i + (1 : Int32) : Int32) fun x29 =>
  ih (x29, σ27)
  ) fun J28 =>
  if (nI k : Int32) = (7 : Int32) then (
  Option.bind (m_of σ26 (nI P) (nI i) (2 : Int32)) fun x33 =>
  Option.bind (m_of σ26 (nI P) (nI i) (5 : Int32)) fun x34 =>
  Option.bind (m_inbound σ26 x33 x34 (nI i) (-1 : Int32)) fun x35 =>
  J28 x35
  ) else (
  if (nI k : Int32) = (8 : Int32) then (
  Option.bind (m_of σ26 (nI P) (nI i) (2 : Int32)) fun x31 =>
  Option.bind (m_inbound σ26 x31 (0 : Int32) (nI i) (-1 : Int32)) fun x32 =>
  J28 x32
  ) else (
  Gd (Ix (nI i) 21) <|
  if ((σ26 18 (Int32.toNatClampNeg (nI i))) : Int32) = 0 then (
  J28 σ26
  ) else (
  Option.bind (m_inbound σ26 (-1 : Int32) (0 : Int32) (0 : Int32) (-1 : Int32)) fun x30 =>
  J28 x30
  )
  )
  )
  ) fun J25 =>
  if (nI k : Int32) = (4 : Int32) then (
  Option.bind (m_of σ23 (nI P) (nI i) (3 : Int32)) fun x36 =>
  J25 x36
  ) else (
  J25 (σ23 0 41)
  )
  ) fun J22 =>
  if ((σ19 0 30) : Int32) ≤ (σ19 22 (Int32.toNatClampNeg (nI i))) then (
  J22 x17
  ) else (
  Gd (Ix ((σ19 0 30) - (1 : Int32)) 42) <|
  J22 (σ19 13 (Int32.toNatClampNeg ((σ19 0 30) - (1 : Int32))))
  )
def sbB (P i k : Nat) (m : St) (x12 : Int32) (ih : Int32 × St → Option St) : Option St :=
  Gd (Ix (nI i) 21) <|
  Lt (s2 m 18 (Int32.toNatClampNeg (nI i)) (x12 &&& 1)) fun σ14 =>
  Gd (Ix (nI i) 21) <|
  Lt (s2 σ14 19 (Int32.toNatClampNeg (nI i)) ((0 : Int32) &&& 1)) fun σ15 =>
  Gd (Ix (nI i) 22) <|
  Lt (s2 σ15 22 (Int32.toNatClampNeg (nI i)) (σ15 0 30)) fun σ16 =>
  Gd (Ix (nI i) 21) <|
  Jn (fun (x17 : Int32) =>
  Gd (Ix (nI i) 21) <|
  Jn (fun (σ19 : St) => sbT P i k σ19 x17 ih
  ) fun J20 =>
  if ((σ16 18 (Int32.toNatClampNeg (nI i))) : Int32) = 0 then (
  Option.bind (m_laysLeg σ16 (nI P) (nI i)) fun x42 =>
  J20 x42
  ) else (
  Option.bind (m_hasFix (nI k)) fun x37 =>
  Jn (fun (_ : Unit) =>
  Option.bind (m_pointX σ16 (nI P) (nI i)) fun x39 =>
  Option.bind (m_pointY σ16 (nI P) (nI i)) fun x40 =>
  Option.bind (m_ends σ16 (nI i) x39 x40) fun x41 =>
  J20 x41
  ) fun J38 =>
  if (x37 : Int32) = 0 then (
  if (nI k : Int32) = (8 : Int32) then (
  J38 ()
  ) else (
  J20 σ16
  )
  ) else (
  J38 ()
  )
  )
  ) fun J18 =>
  if ((σ16 18 (Int32.toNatClampNeg (nI i))) : Int32) = 0 then (
  J18 (σ16 0 31)
  ) else (
  J18 (-1 : Int32)
  )
theorem sb_pre {m : St} {P i k n : Nat} {J : St → Option St} {ih : Int32 × St → Option St} (hP : P ≤ 2376) (hi : i < n) (hn : n ≤ 21) (hc : m 1 P = nI n) (hk : m 1 (P + 3 + 14 * i + 0) = nI k) (hk9 : k < 9) :
    lb_m_laysSegments_23 (nI P) J ih (nI i, m) = sbB P i k m (if Anw m P i k then 1 else 0) ih := by
  unfold lb_m_laysSegments_23 sbB sbT
  dsimp only
  rw [bd_e (mcount hP), hc, if_neg (nI_ge hi (by omega)), bd_e (mof hP (show i < 21 by omega) (by decide)), hk, Jn_e, Jn_e]
  by_cases h0 : i = 0
  · rw [if_pos (show nI i = 0 by rw [h0]; rfl), if_pos (show Anw m P i k from Or.inl h0)]
  · rw [if_neg (nI_ne0 (by omega) (by omega))]
    by_cases h1 : k = 0
    · rw [if_pos (show nI k = 0 by rw [h1]; rfl), if_pos (show Anw m P i k from Or.inr (Or.inl h1))]
    · rw [if_neg (nI_ne0 (by omega) (by omega))]
      by_cases h8 : k = 8
      · rw [if_pos (show nI k = 8 by rw [h8]; rfl), if_pos (show Anw m P i k from Or.inr (Or.inr (Or.inl h8)))]
      · rw [if_neg (fun h => h8 ((nIl 8 (by omega) (by omega)).mp h)), bd_e (mof hP (show i < 21 by omega) (by decide))]
        have ei : nI i - (1 : Int32) = nI (i - 1) := pk_sub (a := i) (b := 1) (by omega)
        by_cases hgp : m 1 (P + 3 + 14 * i + 13) = 1
        · rw [if_pos hgp, if_pos (show Anw m P i k from Or.inr (Or.inr (Or.inr (Or.inl hgp))))]
        · rw [if_neg hgp, ei, Gd_t (Ix_n (show i - 1 < 21 by omega) (by decide)), nI_clamp (by omega)]
          by_cases h19 : m 19 (i - 1) = 0
          · rw [if_pos h19, if_pos (show Anw m P i k from Or.inr (Or.inr (Or.inr (Or.inr h19))))]
          · rw [if_neg h19, if_neg (show ¬ Anw m P i k from fun h => by rcases h with h | h | h | h | h <;> exact absurd h (by assumption))]
