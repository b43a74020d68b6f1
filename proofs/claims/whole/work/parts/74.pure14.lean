/-! a leg that starts anew, and one that doesn't, on both sides -/

theorem sH {σ : St} {o k a b : Nat} {v : Int32} (h1 : a = o) (h2 : b = k) : s2 σ o k v a b = v := by rw [h1, h2]; exact s2_at
theorem sM {σ : St} {o k a b : Nat} {v : Int32} (h : a ≠ o ∨ b ≠ k) : s2 σ o k v a b = σ a b := s2_nk h
theorem Jn_if {α β : Type} {k : α → β} {c : Prop} {inst : Decidable c} {x y : α} : Jn k (fun J => @ite β c inst (J x) (J y)) = k (@ite α c inst x y) := by
  rw [Jn_e]
  split <;> rfl
def bA0 (c : St) (b i : Nat) : St := s2 (s2 (s2 c (b + 2) (i * 16 + 0) 1) (b + 3) 10 0) (b + 3) 7 (-1)
def bA1 (c : St) (b q i : Nat) : St := eh (s2 (s2 (bA0 c b i) (b + 3) 5 (c (q + 2) (i * 14 + 7))) (b + 3) 6 (c (q + 2) (i * 14 + 8))) b i
def bA8 (c : St) (b q i : Nat) : St := s2 (s2 (s2 (bA1 c b q i) (b + 3) 7 (nI i)) (b + 3) 8 (c (q + 2) (i * 14 + 2))) (b + 3) 9 0
theorem begin_c {c : St} {b q i k : Nat} (hI : PI b q) (hD : Dm c) (hi : i < 21) (hk : c (q + 2) (i * 14 + 0) = nI k) (hk9 : k < 9) : f_Tk_beginAnew c (b + 3) (nI i) = some (if k = 4 ∨ k = 5 ∨ k = 6 then bA0 c b i else if k = 8 then bA8 c b q i else bA1 c b q i) := by
  have nt := hI.nt
  have hlt := hI.lt
  have n2 : q + 2 ≠ b + 2 := by omega
  have n3 : q + 2 ≠ b + 3 := by omega
  have D0 : Dm (bA0 c b i) := ((hD.s2 nt.2.1).s2 nt.2.2.1).s2 nt.2.2.1
  have D1 : Dm (bA1 c b q i) := Dm_eh hI ((D0.s2 nt.2.2.1).s2 nt.2.2.1)
  have r0 : ∀ j, bA0 c b i (q + 2) j = c (q + 2) j := fun j => by unfold bA0; rw [s2_ne n3, s2_ne n3, s2_ne n2]
  have r1 : ∀ j, bA1 c b q i (q + 2) j = c (q + 2) j := fun j => by unfold bA1; rw [eh_o n2, s2_ne n3, s2_ne n3]; exact r0 j
  have tail : ∀ s, s = bA0 c b i → (Option.bind (f_Tb_get s (q + 1) (nI i) (7 : Int32)) fun x6 =>
    Lt (s2 s (b + 3) 5 x6) fun σ7 =>
    Option.bind (f_Tb_get σ7 (q + 1) (nI i) (8 : Int32)) fun x8 =>
    Lt (s2 σ7 (b + 3) 6 x8) fun σ9 =>
    Option.bind (f_Tk_endHere σ9 (b + 3) (nI i)) fun x10 =>
    Jn (fun (σ11 : St) => some σ11) fun J12 =>
    if (nI k : Int32) = (8 : Int32) then (
    Option.bind (f_Tb_get x10 (q + 1) (nI i) (2 : Int32)) fun x13 =>
    Option.bind (f_Tk_comeFrom x10 (b + 3) (nI i) x13 (0 : Int32)) fun x14 =>
    J12 x14
    ) else (
    J12 x10
    )) = some (if k = 8 then bA8 c b q i else bA1 c b q i) := by
    intro s es
    subst es
    rw [bd_e (pg hI D0 hi (by decide)), Lt_e, bd_e (pg hI (D0.s2 nt.2.2.1) hi (by decide)), Lt_e, bd_e (endHere_c hI ((D0.s2 nt.2.2.1).s2 nt.2.2.1) hi), Jn_e, r0 (i * 14 + 7), s2_ne n3, r0 (i * 14 + 8)]
    by_cases h8 : k = 8
    · rw [if_pos ((nIl 8 (by omega) (by omega)).mpr h8), if_pos h8]
      show (Option.bind (f_Tb_get (bA1 c b q i) (q + 1) (nI i) (2 : Int32)) fun x13 => Option.bind (f_Tk_comeFrom (bA1 c b q i) (b + 3) (nI i) x13 (0 : Int32)) fun x14 => some x14) = _
      rw [bd_e (pg hI D1 hi (by decide)), r1]
      rfl
    · rw [if_neg (fun h => h8 ((nIl 8 (by omega) (by omega)).mp h)), if_neg h8]
      rfl
  unfold f_Tk_beginAnew
  rw [rc_b30 hI, rc_b32 hI, rc_q0 hI, bd_e (kd_c hI hD hi), hk, bd_e (lgp hI hD hi (by decide)), Lt_e, Lt_e, Jn_e]
  by_cases h4 : k = 4
  · rw [if_pos ((nIl 4 (by omega) (by omega)).mpr h4), if_pos (Or.inl h4)]
    rfl
  · rw [if_neg (fun h => h4 ((nIl 4 (by omega) (by omega)).mp h))]
    by_cases h5 : k = 5
    · rw [if_pos ((nIl 5 (by omega) (by omega)).mpr h5), if_pos (Or.inr (Or.inl h5))]
      rfl
    · rw [if_neg (fun h => h5 ((nIl 5 (by omega) (by omega)).mp h))]
      by_cases h6 : k = 6
      · rw [if_pos ((nIl 6 (by omega) (by omega)).mpr h6), if_pos (Or.inr (Or.inr h6))]
        rfl
      · rw [if_neg (fun h => h6 ((nIl 6 (by omega) (by omega)).mp h)), if_neg (show ¬ (k = 4 ∨ k = 5 ∨ k = 6) by omega)]
        exact tail _ rfl
/-- the end of layLeg -/
def tlc (s : St) (b q i : Nat) (k : Int32) : Option St :=
  if k = (7 : Int32) then (Option.bind (f_Tk_hold s (b + 3) (nI i)) fun x13 => some x13)
  else (if k = (4 : Int32) then (Option.bind (f_Tb_get s (q + 1) (nI i) (3 : Int32)) fun x11 => Lt (s2 s (b + 3) 11 x11) fun σ12 => some σ12) else some s)
theorem lay_c {c m : St} {b q P i k : Nat} (hI : PI b q) (hD : Dm c) (hi : i < 21) (hk : c (q + 2) (i * 14 + 0) = nI k) (hk9 : k < 9) (hg : c (q + 2) (i * 14 + 13) = m 1 (P + 3 + 14 * i + 13)) (he : 0 < i → c (b + 2) ((i - 1) * 16 + 1) = m 19 (i - 1)) :
    f_Tk_layLeg c (b + 3) (nI i) = if Anw m P i k then (Option.bind (f_Tk_beginAnew (p4l c b i) (b + 3) (nI i)) fun x => tlc x b q i (nI k)) else midx (p4l c b i) b q i (nI k) (fun s => tlc s b q i (nI k)) := by
  have nt := hI.nt.2.1
  have hlt := hI.lt
  have n2 : q + 2 ≠ b + 2 := by omega
  have D4 := Dm_p4l (i := i) hI hD
  have hk4 : p4l c b i (q + 2) (i * 14 + 0) = nI k := by rw [p4l_o n2]; exact hk
  have sa := sa_c (m := m) (P := P) hI D4 hi hk4 hk9 (by rw [p4l_o n2]; exact hg) (fun h => by rw [p4l_k (by omega) (by omega) (by omega) (by omega)]; exact he h)
  unfold f_Tk_layLeg
  rw [rc_b30 hI, rc_b32 hI, rc_q0 hI, bd_e (lgp hI hD hi (by decide)), bd_e (lgp hI (hD.s2 nt) hi (by decide)), bd_e (lgp hI ((hD.s2 nt).s2 nt) hi (by decide)), bd_e (lgp hI (((hD.s2 nt).s2 nt).s2 nt) hi (by decide))]
  show Option.bind (f_Pl_kind (p4l c b i) q (nI i)) _ = _
  rw [bd_e (kd_c hI D4 hi), hk4]
  by_cases hA : Anw m P i k
  · rw [if_pos hA]
    show Option.bind (f_Tk_startsAnew (p4l c b i) (b + 3) (nI i)) _ = _
    rw [bd_e (sa.1 hA)]
    rfl
  · rw [if_neg hA]
    show Option.bind (f_Tk_startsAnew (p4l c b i) (b + 3) (nI i)) _ = _
    rw [bd_e (sa.2 hA)]
    rfl
theorem hasFix_e {k : Nat} (h : k < 9) : (hfx k → m_hasFix (nI k) = some 1) ∧ (¬ hfx k → m_hasFix (nI k) = some 0) := by
  unfold hfx
  rcases (show k = 0 ∨ k = 1 ∨ k = 2 ∨ k = 3 ∨ k = 4 ∨ k = 5 ∨ k = 6 ∨ k = 7 ∨ k = 8 by omega) with e | e | e | e | e | e | e | e | e <;> subst e <;> exact ⟨fun h => by first | rfl | omega, fun h => by first | rfl | omega⟩
theorem sbB_0 {P i k : Nat} {m : St} {ih : Int32 × St → Option St} (hi : i < 21) : sbB P i k m 0 ih = Option.bind (m_laysLeg (mA m i 0) (nI P) (nI i)) fun x42 => sbT P i k x42 (m 0 31) ih := by
  have g1 : Ix (nI i) 21 := Ix_n hi (by decide)
  have g2 : Ix (nI i) 22 := Ix_n (by omega) (by decide)
  have e : s2 (s2 (s2 m 18 i ((0 : Int32) &&& 1)) 19 i ((0 : Int32) &&& 1)) 22 i (s2 (s2 m 18 i ((0 : Int32) &&& 1)) 19 i ((0 : Int32) &&& 1) 0 30) = mA m i 0 := rfl
  have e18 : mA m i 0 18 i = 0 := by unfold mA; simp (disch := omega) only [sH, sM]
  have e31 : mA m i 0 0 31 = m 0 31 := by unfold mA; simp (disch := omega) only [sH, sM]
  unfold sbB
  rw [Gd_t g1, Lt_e, Gd_t g1, Lt_e, Gd_t g2, Lt_e, Gd_t g1]
  simp only [nI_clamp (show i < 2 ^ 31 by omega)]
  rw [e, Jn_e, if_pos e18, e31]
  dsimp only
  rw [Gd_t g1, Jn_e, if_pos e18]
theorem sbB_1 {P i k : Nat} {m : St} {ih : Int32 × St → Option St} (hi : i < 21) (hk : k < 9) : (hfx k ∨ k = 8 → ∀ x y, m_pointX (mA m i 1) (nI P) (nI i) = some x → m_pointY (mA m i 1) (nI P) (nI i) = some y → sbB P i k m 1 ih = sbT P i k (mE (mA m i 1) i x y) (-1) ih) ∧ (¬ (hfx k ∨ k = 8) → sbB P i k m 1 ih = sbT P i k (mA m i 1) (-1) ih) := by
  have g1 : Ix (nI i) 21 := Ix_n hi (by decide)
  have g2 : Ix (nI i) 22 := Ix_n (by omega) (by decide)
  have e : s2 (s2 (s2 m 18 i ((1 : Int32) &&& 1)) 19 i ((0 : Int32) &&& 1)) 22 i (s2 (s2 m 18 i ((1 : Int32) &&& 1)) 19 i ((0 : Int32) &&& 1) 0 30) = mA m i 1 := rfl
  have e18 : ¬ mA m i 1 18 i = 0 := by unfold mA; simp (disch := omega) only [sH, sM]; decide
  have hf := hasFix_e hk
  unfold sbB
  rw [Gd_t g1, Lt_e, Gd_t g1, Lt_e, Gd_t g2, Lt_e, Gd_t g1]
  simp only [nI_clamp (show i < 2 ^ 31 by omega)]
  rw [e, Jn_e, if_neg e18]
  dsimp only
  rw [Gd_t g1, Jn_e, if_neg e18]
  refine ⟨fun h x y hx hy => ?_, fun h => ?_⟩
  · by_cases h1 : hfx k
    · rw [bd_e (hf.1 h1), Jn_e, if_neg (by decide), bd_e hx, bd_e hy, bd_e (ends_m hi)]
    · rw [bd_e (hf.2 h1), Jn_e, if_pos rfl, if_pos ((nIl 8 (by omega) (by omega)).mpr (h.resolve_left h1)), bd_e hx, bd_e hy, bd_e (ends_m hi)]
  · rw [bd_e (hf.2 (fun q => h (Or.inl q))), Jn_e, if_pos rfl, if_neg (fun q => h (Or.inr ((nIl 8 (by omega) (by omega)).mp q)))]
theorem inb_e (s : St) (a b c d : Int32) : m_inbound s a b c d = some (mI s a b c d) := rfl
/-- the reference's state behind a leg -/
def fin1 (s : St) (P i k : Nat) (a : Int32) : St := s2 (s2 s 23 i a) 0 41 (if k = 4 then s 1 (P + 3 + 14 * i + 3) else s 0 41)
def fin (s : St) (P i k : Nat) (a : Int32) : St :=
  if k = 7 then mI (fin1 s P i k a) (s 1 (P + 3 + 14 * i + 2)) (s 1 (P + 3 + 14 * i + 5)) (nI i) (-1)
  else if k = 8 then mI (fin1 s P i k a) (s 1 (P + 3 + 14 * i + 2)) 0 (nI i) (-1)
  else if s 18 i = 0 then fin1 s P i k a else mI (fin1 s P i k a) (-1) 0 0 (-1)
theorem sbT_e {P i k r r' : Nat} {s : St} {x17 : Int32} {ih : Int32 × St → Option St} (hP : P ≤ 2376) (hi : i < 21) (hk : k < 9) (h30 : s 0 30 = nI r') (h22 : s 22 i = nI r) (hr : r' ≤ 42) (hr0 : r ≤ r') : sbT P i k s x17 ih = ih (nI (i + 1), fin s P i k (if r' ≤ r then x17 else s 13 (r' - 1))) := by
  have g1 : Ix (nI i) 21 := Ix_n hi (by decide)
  have g2 : Ix (nI i) 22 := Ix_n (by omega) (by decide)
  unfold sbT
  rw [Gd_t g2]
  simp only [nI_clamp (show i < 2 ^ 31 by omega)]
  rw [h30, h22]
  have key : ∀ x21 : Int32, (Gd (Ix (nI i) 21) <|
  Lt (s2 s 23 i x21) fun σ23 =>
  Jn (fun (x24 : Int32) =>
  Lt (s2 σ23 0 41 x24) fun σ26 =>
  Jn (fun (σ27 : St) =>
  Lt (nI i + (1 : Int32) : Int32) fun x29 =>
  ih (x29, σ27)
  ) fun J28 =>
  if (nI k : Int32) = (7 : Int32) then (
  Option.bind (m_of σ26 (nI P) (nI i) (2 : Int32)) fun x33 =>
  Option.bind (m_of σ26 (nI P) (nI i) (5 : Int32)) fun x34 =>
  Option.bind (m_inbound σ26 x33 x34 (nI i) (-1 : Int32)) fun x35 =>
  J28 x35
  ) else (
  if (nI k : Int32) = (8 : Int32) then (
  Option.bind (m_of σ26 (nI P) (nI i) (2 : Int32)) fun x31 =>
  Option.bind (m_inbound σ26 x31 (0 : Int32) (nI i) (-1 : Int32)) fun x32 =>
  J28 x32
  ) else (
  Gd (Ix (nI i) 21) <|
  if ((σ26 18 i) : Int32) = 0 then (
  J28 σ26
  ) else (
  Option.bind (m_inbound σ26 (-1 : Int32) (0 : Int32) (0 : Int32) (-1 : Int32)) fun x30 =>
  J28 x30
  )
  )
  )
  ) fun J25 =>
  if (nI k : Int32) = (4 : Int32) then (
  Option.bind (m_of σ23 (nI P) (nI i) (3 : Int32)) fun x36 =>
  J25 x36
  ) else (
  J25 (σ23 0 41)
  )) = ih (nI (i + 1), fin s P i k x21) := by
    intro x21
    rw [Gd_t g1, Lt_e, Jn_e, bd_e (mof hP hi (by decide))]
    have key2 : ∀ x24 : Int32, x24 = (if k = 4 then s 1 (P + 3 + 14 * i + 3) else s 0 41) → (Lt (s2 (s2 s 23 i x21) 0 41 x24) fun σ26 =>
  Jn (fun (σ27 : St) =>
  Lt (nI i + (1 : Int32) : Int32) fun x29 =>
  ih (x29, σ27)
  ) fun J28 =>
  if (nI k : Int32) = (7 : Int32) then (
  Option.bind (m_of σ26 (nI P) (nI i) (2 : Int32)) fun x33 =>
  Option.bind (m_of σ26 (nI P) (nI i) (5 : Int32)) fun x34 =>
  Option.bind (m_inbound σ26 x33 x34 (nI i) (-1 : Int32)) fun x35 =>
  J28 x35
  ) else (
  if (nI k : Int32) = (8 : Int32) then (
  Option.bind (m_of σ26 (nI P) (nI i) (2 : Int32)) fun x31 =>
  Option.bind (m_inbound σ26 x31 (0 : Int32) (nI i) (-1 : Int32)) fun x32 =>
  J28 x32
  ) else (
  Gd (Ix (nI i) 21) <|
  if ((σ26 18 i) : Int32) = 0 then (
  J28 σ26
  ) else (
  Option.bind (m_inbound σ26 (-1 : Int32) (0 : Int32) (0 : Int32) (-1 : Int32)) fun x30 =>
  J28 x30
  )
  )
  )) = ih (nI (i + 1), fin s P i k x21) := by
      intro x24 e24
      have e1 : ∀ j, s2 (s2 s 23 i x21) 0 41 x24 1 j = s 1 j := fun j => by simp (disch := omega) only [sM]
      have e18 : s2 (s2 s 23 i x21) 0 41 x24 18 i = s 18 i := by simp (disch := omega) only [sM]
      have ef : s2 (s2 s 23 i x21) 0 41 x24 = fin1 s P i k x21 := by unfold fin1; rw [e24]
      rw [Lt_e, Jn_e]
      by_cases h7 : k = 7
      · rw [if_pos ((nIl 7 (by omega) (by omega)).mpr h7), bd_e (mof hP hi (by decide)), bd_e (mof hP hi (by decide)), e1, e1, ef]
        unfold fin
        rw [if_pos h7]
        rw [bd_e (inb_e _ _ _ _ _)]
        dsimp only
        rw [Lt_e, nI_1]
      · rw [if_neg (fun h => h7 ((nIl 7 (by omega) (by omega)).mp h))]
        by_cases h8 : k = 8
        · rw [if_pos ((nIl 8 (by omega) (by omega)).mpr h8), bd_e (mof hP hi (by decide)), e1, ef]
          unfold fin
          rw [if_neg h7, if_pos h8]
          rw [bd_e (inb_e _ _ _ _ _)]
          dsimp only
          rw [Lt_e, nI_1]
        · rw [if_neg (fun h => h8 ((nIl 8 (by omega) (by omega)).mp h)), Gd_t g1, e18, ef]
          unfold fin
          rw [if_neg h7, if_neg h8]
          by_cases h18 : s 18 i = 0
          · rw [if_pos h18, if_pos h18]
            dsimp only
            rw [Lt_e, nI_1]
          · rw [if_neg h18, if_neg h18]
            rw [bd_e (inb_e _ _ _ _ _)]
            dsimp only
            rw [Lt_e, nI_1]
    have e41 : s2 s 23 i x21 0 41 = s 0 41 := sM (by omega)
    have e13 : s2 s 23 i x21 1 (P + 3 + 14 * i + 3) = s 1 (P + 3 + 14 * i + 3) := sM (by omega)
    by_cases h4 : k = 4
    · rw [if_pos ((nIl 4 (by omega) (by omega)).mpr h4), e13]
      exact key2 _ (by rw [if_pos h4])
    · rw [if_neg (fun h => h4 ((nIl 4 (by omega) (by omega)).mp h)), e41]
      exact key2 _ (by rw [if_neg h4])
  rw [Jn_e]
  by_cases hh : r' ≤ r
  · rw [if_pos (nI_le hh (by omega)), if_pos hh]
    exact key _
  · have e1 : nI r' - (1 : Int32) = nI (r' - 1) := pk_sub (a := r') (b := 1) (by omega)
    rw [if_neg (nI_ge (by omega) (by omega)), if_neg hh, e1, Gd_t (Ix_n (by omega) (by decide))]
    simp only [nI_clamp (show r' - 1 < 2 ^ 31 by omega)]
    exact key _
