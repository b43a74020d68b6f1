/-! the law's cases, and the law -/
theorem lix {L i j : Nat} {pj : Int32} (hL : L ≤ 2048) (h : i + 4 ≤ L) (hj : j < 4) (hp : pj = nI j) : Ix (nI i + pj) L := by
  rw [hp, nI_add]
  exact Ix_n (by omega) (by omega)
theorem lk_0 {L i t : Nat} {xs : Nat → Int32} {ih : Int32 × St × St → Option Int32} {c m : St} (hL : L ≤ 2048) (hi : i + 4 ≤ L) (ht : t ≤ 511) (h : INV t c m) (hih : ∀ c' m', INV (t + 1) c' m' → ih (nI i + (4 : Int32), c', m') = some 1) : law_0 L xs ih (nI i, c, m) = some 1 := by
  unfold law_0
  try dsimp only
  obtain ⟨v, c', m', e1, e2, e3⟩ := k_type h (xs (Int32.toNatClampNeg (nI i + (1 : Int32))))
  rw [Gd_t (lix (j := 1) (pj := 1) hL hi (by decide) rfl), bd_e e1, Gd_t (lix (j := 1) (pj := 1) hL hi (by decide) rfl), bd_e e2, if_pos rfl]
  exact hih c' m' e3
theorem lk_1 {L i t : Nat} {xs : Nat → Int32} {ih : Int32 × St × St → Option Int32} {c m : St} (hL : L ≤ 2048) (hi : i + 4 ≤ L) (ht : t ≤ 511) (h : INV t c m) (hih : ∀ c' m', INV (t + 1) c' m' → ih (nI i + (4 : Int32), c', m') = some 1) : law_1 L xs ih (nI i, c, m) = some 1 := by
  unfold law_1
  try dsimp only
  obtain ⟨v, c', m', e1, e2, e3⟩ := k_clearText h 
  rw [bd_e e1, bd_e e2, if_pos rfl]
  exact hih c' m' e3
theorem lk_2 {L i t : Nat} {xs : Nat → Int32} {ih : Int32 × St × St → Option Int32} {c m : St} (hL : L ≤ 2048) (hi : i + 4 ≤ L) (ht : t ≤ 511) (h : INV t c m) (hih : ∀ c' m', INV (t + 1) c' m' → ih (nI i + (4 : Int32), c', m') = some 1) : law_2 L xs ih (nI i, c, m) = some 1 := by
  unfold law_2
  try dsimp only
  obtain ⟨v, c', m', e1, e2, e3⟩ := k_textFault h 
  rw [bd_e e1, bd_e e2, if_pos rfl]
  exact hih c' m' e3
theorem lk_3 {L i t : Nat} {xs : Nat → Int32} {ih : Int32 × St × St → Option Int32} {c m : St} (hL : L ≤ 2048) (hi : i + 4 ≤ L) (ht : t ≤ 511) (h : INV t c m) (hih : ∀ c' m', INV (t + 1) c' m' → ih (nI i + (4 : Int32), c', m') = some 1) : law_3 L xs ih (nI i, c, m) = some 1 := by
  unfold law_3
  try dsimp only
  obtain ⟨v, c', m', e1, e2, e3⟩ := k_addFix h (xs (Int32.toNatClampNeg (nI i + (1 : Int32)))) (xs (Int32.toNatClampNeg (nI i + (2 : Int32))))
  rw [Gd_t (lix (j := 1) (pj := 1) hL hi (by decide) rfl), Gd_t (lix (j := 2) (pj := 2) hL hi (by decide) rfl), bd_e e1, Gd_t (lix (j := 1) (pj := 1) hL hi (by decide) rfl), Gd_t (lix (j := 2) (pj := 2) hL hi (by decide) rfl), bd_e e2, if_pos rfl]
  exact hih c' m' e3
theorem lk_4 {L i t : Nat} {xs : Nat → Int32} {ih : Int32 × St × St → Option Int32} {c m : St} (hL : L ≤ 2048) (hi : i + 4 ≤ L) (ht : t ≤ 511) (h : INV t c m) (hih : ∀ c' m', INV (t + 1) c' m' → ih (nI i + (4 : Int32), c', m') = some 1) : law_4 L xs ih (nI i, c, m) = some 1 := by
  unfold law_4
  try dsimp only
  obtain ⟨v, c', m', e1, e2, e3⟩ := k_setWind ht h (xs (Int32.toNatClampNeg (nI i + (1 : Int32)))) (xs (Int32.toNatClampNeg (nI i + (2 : Int32))))
  rw [Gd_t (lix (j := 1) (pj := 1) hL hi (by decide) rfl), Gd_t (lix (j := 2) (pj := 2) hL hi (by decide) rfl), bd_e e1, Gd_t (lix (j := 1) (pj := 1) hL hi (by decide) rfl), Gd_t (lix (j := 2) (pj := 2) hL hi (by decide) rfl), bd_e e2, if_pos rfl]
  exact hih c' m' e3
theorem lk_5 {L i t : Nat} {xs : Nat → Int32} {ih : Int32 × St × St → Option Int32} {c m : St} (hL : L ≤ 2048) (hi : i + 4 ≤ L) (ht : t ≤ 511) (h : INV t c m) (hih : ∀ c' m', INV (t + 1) c' m' → ih (nI i + (4 : Int32), c', m') = some 1) : law_5 L xs ih (nI i, c, m) = some 1 := by
  unfold law_5
  try dsimp only
  obtain ⟨v, c', m', e1, e2, e3⟩ := k_setCruise ht h (xs (Int32.toNatClampNeg (nI i + (1 : Int32)))) (xs (Int32.toNatClampNeg (nI i + (2 : Int32))))
  rw [Gd_t (lix (j := 1) (pj := 1) hL hi (by decide) rfl), Gd_t (lix (j := 2) (pj := 2) hL hi (by decide) rfl), bd_e e1, Gd_t (lix (j := 1) (pj := 1) hL hi (by decide) rfl), Gd_t (lix (j := 2) (pj := 2) hL hi (by decide) rfl), bd_e e2, if_pos rfl]
  exact hih c' m' e3
theorem lk_6 {L i t : Nat} {xs : Nat → Int32} {ih : Int32 × St × St → Option Int32} {c m : St} (hL : L ≤ 2048) (hi : i + 4 ≤ L) (ht : t ≤ 511) (h : INV t c m) (hih : ∀ c' m', INV (t + 1) c' m' → ih (nI i + (4 : Int32), c', m') = some 1) : law_6 L xs ih (nI i, c, m) = some 1 := by
  unfold law_6
  try dsimp only
  obtain ⟨v, c', m', e1, e2, e3⟩ := k_setGradients ht h (xs (Int32.toNatClampNeg (nI i + (1 : Int32)))) (xs (Int32.toNatClampNeg (nI i + (2 : Int32)))) (xs (Int32.toNatClampNeg (nI i + (3 : Int32))))
  rw [Gd_t (lix (j := 1) (pj := 1) hL hi (by decide) rfl), Gd_t (lix (j := 2) (pj := 2) hL hi (by decide) rfl), Gd_t (lix (j := 3) (pj := 3) hL hi (by decide) rfl), bd_e e1, Gd_t (lix (j := 1) (pj := 1) hL hi (by decide) rfl), Gd_t (lix (j := 2) (pj := 2) hL hi (by decide) rfl), Gd_t (lix (j := 3) (pj := 3) hL hi (by decide) rfl), bd_e e2, if_pos rfl]
  exact hih c' m' e3
theorem lk_7 {L i t : Nat} {xs : Nat → Int32} {ih : Int32 × St × St → Option Int32} {c m : St} (hL : L ≤ 2048) (hi : i + 4 ≤ L) (ht : t ≤ 511) (h : INV t c m) (hih : ∀ c' m', INV (t + 1) c' m' → ih (nI i + (4 : Int32), c', m') = some 1) : law_7 L xs ih (nI i, c, m) = some 1 := by
  unfold law_7
  try dsimp only
  obtain ⟨v, c', m', e1, e2, e3⟩ := k_setEnds ht h (xs (Int32.toNatClampNeg (nI i + (1 : Int32)))) (xs (Int32.toNatClampNeg (nI i + (2 : Int32))))
  rw [Gd_t (lix (j := 1) (pj := 1) hL hi (by decide) rfl), Gd_t (lix (j := 2) (pj := 2) hL hi (by decide) rfl), bd_e e1, Gd_t (lix (j := 1) (pj := 1) hL hi (by decide) rfl), Gd_t (lix (j := 2) (pj := 2) hL hi (by decide) rfl), bd_e e2, if_pos rfl]
  exact hih c' m' e3
theorem lk_8 {L i t : Nat} {xs : Nat → Int32} {ih : Int32 × St × St → Option Int32} {c m : St} (hL : L ≤ 2048) (hi : i + 4 ≤ L) (ht : t ≤ 511) (h : INV t c m) (hih : ∀ c' m', INV (t + 1) c' m' → ih (nI i + (4 : Int32), c', m') = some 1) : law_8 L xs ih (nI i, c, m) = some 1 := by
  unfold law_8
  try dsimp only
  obtain ⟨v, c', m', e1, e2, e3⟩ := k_load ht h 
  rw [bd_e e1, bd_e e2, if_pos rfl]
  exact hih c' m' e3
theorem lk_9 {L i t : Nat} {xs : Nat → Int32} {ih : Int32 × St × St → Option Int32} {c m : St} (hL : L ≤ 2048) (hi : i + 4 ≤ L) (ht : t ≤ 511) (h : INV t c m) (hih : ∀ c' m', INV (t + 1) c' m' → ih (nI i + (4 : Int32), c', m') = some 1) : law_9 L xs ih (nI i, c, m) = some 1 := by
  unfold law_9
  try dsimp only
  obtain ⟨v, c', m', e1, e2, e3⟩ := k_insert ht h (xs (Int32.toNatClampNeg (nI i + (1 : Int32))))
  rw [Gd_t (lix (j := 1) (pj := 1) hL hi (by decide) rfl), bd_e e1, Gd_t (lix (j := 1) (pj := 1) hL hi (by decide) rfl), bd_e e2, if_pos rfl]
  exact hih c' m' e3
theorem lk_10 {L i t : Nat} {xs : Nat → Int32} {ih : Int32 × St × St → Option Int32} {c m : St} (hL : L ≤ 2048) (hi : i + 4 ≤ L) (ht : t ≤ 511) (h : INV t c m) (hih : ∀ c' m', INV (t + 1) c' m' → ih (nI i + (4 : Int32), c', m') = some 1) : law_10 L xs ih (nI i, c, m) = some 1 := by
  unfold law_10
  try dsimp only
  obtain ⟨v, c', m', e1, e2, e3⟩ := k_delete h (xs (Int32.toNatClampNeg (nI i + (1 : Int32))))
  rw [Gd_t (lix (j := 1) (pj := 1) hL hi (by decide) rfl), bd_e e1, Gd_t (lix (j := 1) (pj := 1) hL hi (by decide) rfl), bd_e e2, if_pos rfl]
  exact hih c' m' e3
theorem lk_11 {L i t : Nat} {xs : Nat → Int32} {ih : Int32 × St × St → Option Int32} {c m : St} (hL : L ≤ 2048) (hi : i + 4 ≤ L) (ht : t ≤ 511) (h : INV t c m) (hih : ∀ c' m', INV (t + 1) c' m' → ih (nI i + (4 : Int32), c', m') = some 1) : law_11 L xs ih (nI i, c, m) = some 1 := by
  unfold law_11
  try dsimp only
  obtain ⟨v, c', m', e1, e2, e3⟩ := k_closeGap ht h (xs (Int32.toNatClampNeg (nI i + (1 : Int32))))
  rw [Gd_t (lix (j := 1) (pj := 1) hL hi (by decide) rfl), bd_e e1, Gd_t (lix (j := 1) (pj := 1) hL hi (by decide) rfl), bd_e e2, if_pos rfl]
  exact hih c' m' e3
theorem lk_12 {L i t : Nat} {xs : Nat → Int32} {ih : Int32 × St × St → Option Int32} {c m : St} (hL : L ≤ 2048) (hi : i + 4 ≤ L) (ht : t ≤ 511) (h : INV t c m) (hih : ∀ c' m', INV (t + 1) c' m' → ih (nI i + (4 : Int32), c', m') = some 1) : law_12 L xs ih (nI i, c, m) = some 1 := by
  unfold law_12
  try dsimp only
  obtain ⟨v, c', m', e1, e2, e3⟩ := k_setWindow ht h (xs (Int32.toNatClampNeg (nI i + (1 : Int32)))) (xs (Int32.toNatClampNeg (nI i + (2 : Int32)))) (xs (Int32.toNatClampNeg (nI i + (3 : Int32))))
  rw [Gd_t (lix (j := 1) (pj := 1) hL hi (by decide) rfl), Gd_t (lix (j := 2) (pj := 2) hL hi (by decide) rfl), Gd_t (lix (j := 3) (pj := 3) hL hi (by decide) rfl), bd_e e1, Gd_t (lix (j := 1) (pj := 1) hL hi (by decide) rfl), Gd_t (lix (j := 2) (pj := 2) hL hi (by decide) rfl), Gd_t (lix (j := 3) (pj := 3) hL hi (by decide) rfl), bd_e e2, if_pos rfl]
  exact hih c' m' e3
theorem lk_13 {L i t : Nat} {xs : Nat → Int32} {ih : Int32 × St × St → Option Int32} {c m : St} (hL : L ≤ 2048) (hi : i + 4 ≤ L) (ht : t ≤ 511) (h : INV t c m) (hih : ∀ c' m', INV (t + 1) c' m' → ih (nI i + (4 : Int32), c', m') = some 1) : law_13 L xs ih (nI i, c, m) = some 1 := by
  unfold law_13
  try dsimp only
  obtain ⟨v, c', m', e1, e2, e3⟩ := k_setSpeedLimit h (xs (Int32.toNatClampNeg (nI i + (1 : Int32)))) (xs (Int32.toNatClampNeg (nI i + (2 : Int32))))
  rw [Gd_t (lix (j := 1) (pj := 1) hL hi (by decide) rfl), Gd_t (lix (j := 2) (pj := 2) hL hi (by decide) rfl), bd_e e1, Gd_t (lix (j := 1) (pj := 1) hL hi (by decide) rfl), Gd_t (lix (j := 2) (pj := 2) hL hi (by decide) rfl), bd_e e2, if_pos rfl]
  exact hih c' m' e3
theorem lk_14 {L i t : Nat} {xs : Nat → Int32} {ih : Int32 × St × St → Option Int32} {c m : St} (hL : L ≤ 2048) (hi : i + 4 ≤ L) (ht : t ≤ 511) (h : INV t c m) (hih : ∀ c' m', INV (t + 1) c' m' → ih (nI i + (4 : Int32), c', m') = some 1) : law_14 L xs ih (nI i, c, m) = some 1 := by
  unfold law_14
  try dsimp only
  obtain ⟨v, c', m', e1, e2, e3⟩ := k_setFlyOver h (xs (Int32.toNatClampNeg (nI i + (1 : Int32)))) (bz (xs (Int32.toNatClampNeg (nI i + (2 : Int32)))))
  rw [Gd_t (lix (j := 1) (pj := 1) hL hi (by decide) rfl), Gd_t (lix (j := 2) (pj := 2) hL hi (by decide) rfl), bd_e e1, Gd_t (lix (j := 1) (pj := 1) hL hi (by decide) rfl), Gd_t (lix (j := 2) (pj := 2) hL hi (by decide) rfl), bd_e e2, if_pos rfl]
  exact hih c' m' e3
theorem lk_15 {L i t : Nat} {xs : Nat → Int32} {ih : Int32 × St × St → Option Int32} {c m : St} (hL : L ≤ 2048) (hi : i + 4 ≤ L) (ht : t ≤ 511) (h : INV t c m) (hih : ∀ c' m', INV (t + 1) c' m' → ih (nI i + (4 : Int32), c', m') = some 1) : law_15 L xs ih (nI i, c, m) = some 1 := by
  unfold law_15
  try dsimp only
  obtain ⟨v, c', m', e1, e2, e3⟩ := k_directTo ht h (xs (Int32.toNatClampNeg (nI i + (1 : Int32))))
  rw [Gd_t (lix (j := 1) (pj := 1) hL hi (by decide) rfl), bd_e e1, Gd_t (lix (j := 1) (pj := 1) hL hi (by decide) rfl), bd_e e2, if_pos rfl]
  exact hih c' m' e3
theorem lk_16 {L i t : Nat} {xs : Nat → Int32} {ih : Int32 × St × St → Option Int32} {c m : St} (hL : L ≤ 2048) (hi : i + 4 ≤ L) (ht : t ≤ 511) (h : INV t c m) (hih : ∀ c' m', INV (t + 1) c' m' → ih (nI i + (4 : Int32), c', m') = some 1) : law_16 L xs ih (nI i, c, m) = some 1 := by
  unfold law_16
  try dsimp only
  obtain ⟨v, c', m', e1, e2, e3⟩ := k_undo h 
  rw [bd_e e1, bd_e e2, if_pos rfl]
  exact hih c' m' e3
theorem lk_17 {L i t : Nat} {xs : Nat → Int32} {ih : Int32 × St × St → Option Int32} {c m : St} (hL : L ≤ 2048) (hi : i + 4 ≤ L) (ht : t ≤ 511) (h : INV t c m) (hih : ∀ c' m', INV (t + 1) c' m' → ih (nI i + (4 : Int32), c', m') = some 1) : law_17 L xs ih (nI i, c, m) = some 1 := by
  unfold law_17
  try dsimp only
  obtain ⟨v, c', m', e1, e2, e3⟩ := k_execute ht h 
  rw [bd_e e1, bd_e e2, if_pos rfl]
  exact hih c' m' e3
theorem lk_18 {L i t : Nat} {xs : Nat → Int32} {ih : Int32 × St × St → Option Int32} {c m : St} (hL : L ≤ 2048) (hi : i + 4 ≤ L) (ht : t ≤ 511) (h : INV t c m) (hih : ∀ c' m', INV (t + 1) c' m' → ih (nI i + (4 : Int32), c', m') = some 1) : law_18 L xs ih (nI i, c, m) = some 1 := by
  unfold law_18
  try dsimp only
  obtain ⟨v, c', m', e1, e2, e3⟩ := k_cancel h 
  rw [bd_e e1, bd_e e2, if_pos rfl]
  exact hih c' m' e3
theorem lk_19 {L i t : Nat} {xs : Nat → Int32} {ih : Int32 × St × St → Option Int32} {c m : St} (hL : L ≤ 2048) (hi : i + 4 ≤ L) (ht : t ≤ 511) (h : INV t c m) (hih : ∀ c' m', INV (t + 1) c' m' → ih (nI i + (4 : Int32), c', m') = some 1) : law_19 L xs ih (nI i, c, m) = some 1 := by
  unfold law_19
  try dsimp only
  obtain ⟨v, c', m', e1, e2, e3⟩ := k_fly ht h (xs (Int32.toNatClampNeg (nI i + (1 : Int32))))
  rw [Gd_t (lix (j := 1) (pj := 1) hL hi (by decide) rfl), bd_e e1, Gd_t (lix (j := 1) (pj := 1) hL hi (by decide) rfl), bd_e e2, if_pos rfl]
  exact hih c' m' e3
theorem lk_20 {L i t : Nat} {xs : Nat → Int32} {ih : Int32 × St × St → Option Int32} {c m : St} (hL : L ≤ 2048) (hi : i + 4 ≤ L) (ht : t ≤ 511) (h : INV t c m) (hih : ∀ c' m', INV (t + 1) c' m' → ih (nI i + (4 : Int32), c', m') = some 1) : law_20 L xs ih (nI i, c, m) = some 1 := by
  unfold law_20
  try dsimp only
  obtain ⟨v, c', m', e1, e2, e3⟩ := k_resume ht h 
  rw [bd_e e1, bd_e e2, if_pos rfl]
  exact hih c' m' e3
theorem lk_21 {L i t : Nat} {xs : Nat → Int32} {ih : Int32 × St × St → Option Int32} {c m : St} (hL : L ≤ 2048) (hi : i + 4 ≤ L) (ht : t ≤ 511) (h : INV t c m) (hih : ∀ c' m', INV (t + 1) c' m' → ih (nI i + (4 : Int32), c', m') = some 1) : law_21 L xs ih (nI i, c, m) = some 1 := by
  unfold law_21
  try dsimp only
  obtain ⟨v, e1, e2⟩ := q_currentLeg h 
  rw [bd_e e1, bd_e e2, if_pos rfl]
  exact hih c m h.up
theorem lk_22 {L i t : Nat} {xs : Nat → Int32} {ih : Int32 × St × St → Option Int32} {c m : St} (hL : L ≤ 2048) (hi : i + 4 ≤ L) (ht : t ≤ 511) (h : INV t c m) (hih : ∀ c' m', INV (t + 1) c' m' → ih (nI i + (4 : Int32), c', m') = some 1) : law_22 L xs ih (nI i, c, m) = some 1 := by
  unfold law_22
  try dsimp only
  obtain ⟨v, e1, e2⟩ := q_flownLength h 
  rw [bd_e e1, bd_e e2, if_pos rfl]
  exact hih c m h.up
theorem lk_23 {L i t : Nat} {xs : Nat → Int32} {ih : Int32 × St × St → Option Int32} {c m : St} (hL : L ≤ 2048) (hi : i + 4 ≤ L) (ht : t ≤ 511) (h : INV t c m) (hih : ∀ c' m', INV (t + 1) c' m' → ih (nI i + (4 : Int32), c', m') = some 1) : law_23 L xs ih (nI i, c, m) = some 1 := by
  unfold law_23
  try dsimp only
  obtain ⟨v, c', m', e1, e2, e3⟩ := q_positionX ht h 
  rw [bd_e e1, bd_e e2, if_pos rfl]
  exact hih c' m' e3
theorem lk_24 {L i t : Nat} {xs : Nat → Int32} {ih : Int32 × St × St → Option Int32} {c m : St} (hL : L ≤ 2048) (hi : i + 4 ≤ L) (ht : t ≤ 511) (h : INV t c m) (hih : ∀ c' m', INV (t + 1) c' m' → ih (nI i + (4 : Int32), c', m') = some 1) : law_24 L xs ih (nI i, c, m) = some 1 := by
  unfold law_24
  try dsimp only
  obtain ⟨v, c', m', e1, e2, e3⟩ := q_positionY ht h 
  rw [bd_e e1, bd_e e2, if_pos rfl]
  exact hih c' m' e3
theorem lk_25 {L i t : Nat} {xs : Nat → Int32} {ih : Int32 × St × St → Option Int32} {c m : St} (hL : L ≤ 2048) (hi : i + 4 ≤ L) (ht : t ≤ 511) (h : INV t c m) (hih : ∀ c' m', INV (t + 1) c' m' → ih (nI i + (4 : Int32), c', m') = some 1) : law_25 L xs ih (nI i, c, m) = some 1 := by
  unfold law_25
  try dsimp only
  obtain ⟨v, c', m', e1, e2, e3⟩ := q_presentCourse ht h 
  rw [bd_e e1, bd_e e2, if_pos rfl]
  exact hih c' m' e3
theorem lk_26 {L i t : Nat} {xs : Nat → Int32} {ih : Int32 × St × St → Option Int32} {c m : St} (hL : L ≤ 2048) (hi : i + 4 ≤ L) (ht : t ≤ 511) (h : INV t c m) (hih : ∀ c' m', INV (t + 1) c' m' → ih (nI i + (4 : Int32), c', m') = some 1) : law_26 L xs ih (nI i, c, m) = some 1 := by
  unfold law_26
  try dsimp only
  obtain ⟨v, c', m', e1, e2, e3⟩ := k_directSaving ht h (xs (Int32.toNatClampNeg (nI i + (1 : Int32))))
  rw [Gd_t (lix (j := 1) (pj := 1) hL hi (by decide) rfl), bd_e e1, Gd_t (lix (j := 1) (pj := 1) hL hi (by decide) rfl), bd_e e2, if_pos rfl]
  exact hih c' m' e3
theorem lk_27 {L i t : Nat} {xs : Nat → Int32} {ih : Int32 × St × St → Option Int32} {c m : St} (hL : L ≤ 2048) (hi : i + 4 ≤ L) (ht : t ≤ 511) (h : INV t c m) (hih : ∀ c' m', INV (t + 1) c' m' → ih (nI i + (4 : Int32), c', m') = some 1) : law_27 L xs ih (nI i, c, m) = some 1 := by
  unfold law_27
  try dsimp only
  obtain ⟨v, m', e1, e2, e3⟩ := q_legCount ht h (xs (Int32.toNatClampNeg (nI i + (1 : Int32))))
  rw [Gd_t (lix (j := 1) (pj := 1) hL hi (by decide) rfl), bd_e e1, Gd_t (lix (j := 1) (pj := 1) hL hi (by decide) rfl), bd_e e2, if_pos rfl]
  exact hih c m' e3
theorem lk_28 {L i t : Nat} {xs : Nat → Int32} {ih : Int32 × St × St → Option Int32} {c m : St} (hL : L ≤ 2048) (hi : i + 4 ≤ L) (ht : t ≤ 511) (h : INV t c m) (hih : ∀ c' m', INV (t + 1) c' m' → ih (nI i + (4 : Int32), c', m') = some 1) : law_28 L xs ih (nI i, c, m) = some 1 := by
  unfold law_28
  try dsimp only
  obtain ⟨v, m', e1, e2, e3⟩ := q_legKind ht h (xs (Int32.toNatClampNeg (nI i + (1 : Int32)))) (xs (Int32.toNatClampNeg (nI i + (2 : Int32))))
  rw [Gd_t (lix (j := 1) (pj := 1) hL hi (by decide) rfl), Gd_t (lix (j := 2) (pj := 2) hL hi (by decide) rfl), bd_e e1, Gd_t (lix (j := 1) (pj := 1) hL hi (by decide) rfl), Gd_t (lix (j := 2) (pj := 2) hL hi (by decide) rfl), bd_e e2, if_pos rfl]
  exact hih c m' e3
theorem lk_29 {L i t : Nat} {xs : Nat → Int32} {ih : Int32 × St × St → Option Int32} {c m : St} (hL : L ≤ 2048) (hi : i + 4 ≤ L) (ht : t ≤ 511) (h : INV t c m) (hih : ∀ c' m', INV (t + 1) c' m' → ih (nI i + (4 : Int32), c', m') = some 1) : law_29 L xs ih (nI i, c, m) = some 1 := by
  unfold law_29
  try dsimp only
  obtain ⟨v, m', e1, e2, e3⟩ := q_legFix ht h (xs (Int32.toNatClampNeg (nI i + (1 : Int32)))) (xs (Int32.toNatClampNeg (nI i + (2 : Int32))))
  rw [Gd_t (lix (j := 1) (pj := 1) hL hi (by decide) rfl), Gd_t (lix (j := 2) (pj := 2) hL hi (by decide) rfl), bd_e e1, Gd_t (lix (j := 1) (pj := 1) hL hi (by decide) rfl), Gd_t (lix (j := 2) (pj := 2) hL hi (by decide) rfl), bd_e e2, if_pos rfl]
  exact hih c m' e3
theorem lk_30 {L i t : Nat} {xs : Nat → Int32} {ih : Int32 × St × St → Option Int32} {c m : St} (hL : L ≤ 2048) (hi : i + 4 ≤ L) (ht : t ≤ 511) (h : INV t c m) (hih : ∀ c' m', INV (t + 1) c' m' → ih (nI i + (4 : Int32), c', m') = some 1) : law_30 L xs ih (nI i, c, m) = some 1 := by
  unfold law_30
  try dsimp only
  obtain ⟨v, c', m', e1, e2, e3⟩ := q_hasGap ht h (xs (Int32.toNatClampNeg (nI i + (1 : Int32)))) (xs (Int32.toNatClampNeg (nI i + (2 : Int32))))
  rw [Gd_t (lix (j := 1) (pj := 1) hL hi (by decide) rfl), Gd_t (lix (j := 2) (pj := 2) hL hi (by decide) rfl), bd_e e1, Gd_t (lix (j := 1) (pj := 1) hL hi (by decide) rfl), Gd_t (lix (j := 2) (pj := 2) hL hi (by decide) rfl), bd_e e2, if_pos rfl]
  exact hih c' m' e3
theorem lk_31 {L i t : Nat} {xs : Nat → Int32} {ih : Int32 × St × St → Option Int32} {c m : St} (hL : L ≤ 2048) (hi : i + 4 ≤ L) (ht : t ≤ 511) (h : INV t c m) (hih : ∀ c' m', INV (t + 1) c' m' → ih (nI i + (4 : Int32), c', m') = some 1) : law_31 L xs ih (nI i, c, m) = some 1 := by
  unfold law_31
  try dsimp only
  obtain ⟨v, c', m', e1, e2, e3⟩ := q_endX ht h (xs (Int32.toNatClampNeg (nI i + (1 : Int32)))) (xs (Int32.toNatClampNeg (nI i + (2 : Int32))))
  rw [Gd_t (lix (j := 1) (pj := 1) hL hi (by decide) rfl), Gd_t (lix (j := 2) (pj := 2) hL hi (by decide) rfl), bd_e e1, Gd_t (lix (j := 1) (pj := 1) hL hi (by decide) rfl), Gd_t (lix (j := 2) (pj := 2) hL hi (by decide) rfl), bd_e e2, if_pos rfl]
  exact hih c' m' e3
theorem lk_32 {L i t : Nat} {xs : Nat → Int32} {ih : Int32 × St × St → Option Int32} {c m : St} (hL : L ≤ 2048) (hi : i + 4 ≤ L) (ht : t ≤ 511) (h : INV t c m) (hih : ∀ c' m', INV (t + 1) c' m' → ih (nI i + (4 : Int32), c', m') = some 1) : law_32 L xs ih (nI i, c, m) = some 1 := by
  unfold law_32
  try dsimp only
  obtain ⟨v, c', m', e1, e2, e3⟩ := q_endY ht h (xs (Int32.toNatClampNeg (nI i + (1 : Int32)))) (xs (Int32.toNatClampNeg (nI i + (2 : Int32))))
  rw [Gd_t (lix (j := 1) (pj := 1) hL hi (by decide) rfl), Gd_t (lix (j := 2) (pj := 2) hL hi (by decide) rfl), bd_e e1, Gd_t (lix (j := 1) (pj := 1) hL hi (by decide) rfl), Gd_t (lix (j := 2) (pj := 2) hL hi (by decide) rfl), bd_e e2, if_pos rfl]
  exact hih c' m' e3
theorem lk_33 {L i t : Nat} {xs : Nat → Int32} {ih : Int32 × St × St → Option Int32} {c m : St} (hL : L ≤ 2048) (hi : i + 4 ≤ L) (ht : t ≤ 511) (h : INV t c m) (hih : ∀ c' m', INV (t + 1) c' m' → ih (nI i + (4 : Int32), c', m') = some 1) : law_33 L xs ih (nI i, c, m) = some 1 := by
  unfold law_33
  try dsimp only
  obtain ⟨v, c', m', e1, e2, e3⟩ := q_legCourse ht h (xs (Int32.toNatClampNeg (nI i + (1 : Int32)))) (xs (Int32.toNatClampNeg (nI i + (2 : Int32))))
  rw [Gd_t (lix (j := 1) (pj := 1) hL hi (by decide) rfl), Gd_t (lix (j := 2) (pj := 2) hL hi (by decide) rfl), bd_e e1, Gd_t (lix (j := 1) (pj := 1) hL hi (by decide) rfl), Gd_t (lix (j := 2) (pj := 2) hL hi (by decide) rfl), bd_e e2, if_pos rfl]
  exact hih c' m' e3
theorem lk_34 {L i t : Nat} {xs : Nat → Int32} {ih : Int32 × St × St → Option Int32} {c m : St} (hL : L ≤ 2048) (hi : i + 4 ≤ L) (ht : t ≤ 511) (h : INV t c m) (hih : ∀ c' m', INV (t + 1) c' m' → ih (nI i + (4 : Int32), c', m') = some 1) : law_34 L xs ih (nI i, c, m) = some 1 := by
  unfold law_34
  try dsimp only
  obtain ⟨v, c', m', e1, e2, e3⟩ := q_legLength ht h (xs (Int32.toNatClampNeg (nI i + (1 : Int32)))) (xs (Int32.toNatClampNeg (nI i + (2 : Int32))))
  rw [Gd_t (lix (j := 1) (pj := 1) hL hi (by decide) rfl), Gd_t (lix (j := 2) (pj := 2) hL hi (by decide) rfl), bd_e e1, Gd_t (lix (j := 1) (pj := 1) hL hi (by decide) rfl), Gd_t (lix (j := 2) (pj := 2) hL hi (by decide) rfl), bd_e e2, if_pos rfl]
  exact hih c' m' e3
theorem lk_35 {L i t : Nat} {xs : Nat → Int32} {ih : Int32 × St × St → Option Int32} {c m : St} (hL : L ≤ 2048) (hi : i + 4 ≤ L) (ht : t ≤ 511) (h : INV t c m) (hih : ∀ c' m', INV (t + 1) c' m' → ih (nI i + (4 : Int32), c', m') = some 1) : law_35 L xs ih (nI i, c, m) = some 1 := by
  unfold law_35
  try dsimp only
  obtain ⟨v, c', m', e1, e2, e3⟩ := q_legTime ht h (xs (Int32.toNatClampNeg (nI i + (1 : Int32)))) (xs (Int32.toNatClampNeg (nI i + (2 : Int32))))
  rw [Gd_t (lix (j := 1) (pj := 1) hL hi (by decide) rfl), Gd_t (lix (j := 2) (pj := 2) hL hi (by decide) rfl), bd_e e1, Gd_t (lix (j := 1) (pj := 1) hL hi (by decide) rfl), Gd_t (lix (j := 2) (pj := 2) hL hi (by decide) rfl), bd_e e2, if_pos rfl]
  exact hih c' m' e3
theorem lk_36 {L i t : Nat} {xs : Nat → Int32} {ih : Int32 × St × St → Option Int32} {c m : St} (hL : L ≤ 2048) (hi : i + 4 ≤ L) (ht : t ≤ 511) (h : INV t c m) (hih : ∀ c' m', INV (t + 1) c' m' → ih (nI i + (4 : Int32), c', m') = some 1) : law_36 L xs ih (nI i, c, m) = some 1 := by
  unfold law_36
  try dsimp only
  obtain ⟨v, c', m', e1, e2, e3⟩ := q_lengthTo ht h (xs (Int32.toNatClampNeg (nI i + (1 : Int32)))) (xs (Int32.toNatClampNeg (nI i + (2 : Int32))))
  rw [Gd_t (lix (j := 1) (pj := 1) hL hi (by decide) rfl), Gd_t (lix (j := 2) (pj := 2) hL hi (by decide) rfl), bd_e e1, Gd_t (lix (j := 1) (pj := 1) hL hi (by decide) rfl), Gd_t (lix (j := 2) (pj := 2) hL hi (by decide) rfl), bd_e e2, if_pos rfl]
  exact hih c' m' e3
theorem lk_37 {L i t : Nat} {xs : Nat → Int32} {ih : Int32 × St × St → Option Int32} {c m : St} (hL : L ≤ 2048) (hi : i + 4 ≤ L) (ht : t ≤ 511) (h : INV t c m) (hih : ∀ c' m', INV (t + 1) c' m' → ih (nI i + (4 : Int32), c', m') = some 1) : law_37 L xs ih (nI i, c, m) = some 1 := by
  unfold law_37
  try dsimp only
  obtain ⟨v, c', m', e1, e2, e3⟩ := q_turnKind ht h (xs (Int32.toNatClampNeg (nI i + (1 : Int32)))) (xs (Int32.toNatClampNeg (nI i + (2 : Int32))))
  rw [Gd_t (lix (j := 1) (pj := 1) hL hi (by decide) rfl), Gd_t (lix (j := 2) (pj := 2) hL hi (by decide) rfl), bd_e e1, Gd_t (lix (j := 1) (pj := 1) hL hi (by decide) rfl), Gd_t (lix (j := 2) (pj := 2) hL hi (by decide) rfl), bd_e e2, if_pos rfl]
  exact hih c' m' e3
theorem lk_38 {L i t : Nat} {xs : Nat → Int32} {ih : Int32 × St × St → Option Int32} {c m : St} (hL : L ≤ 2048) (hi : i + 4 ≤ L) (ht : t ≤ 511) (h : INV t c m) (hih : ∀ c' m', INV (t + 1) c' m' → ih (nI i + (4 : Int32), c', m') = some 1) : law_38 L xs ih (nI i, c, m) = some 1 := by
  unfold law_38
  try dsimp only
  obtain ⟨v, c', m', e1, e2, e3⟩ := q_turnSteps ht h (xs (Int32.toNatClampNeg (nI i + (1 : Int32)))) (xs (Int32.toNatClampNeg (nI i + (2 : Int32))))
  rw [Gd_t (lix (j := 1) (pj := 1) hL hi (by decide) rfl), Gd_t (lix (j := 2) (pj := 2) hL hi (by decide) rfl), bd_e e1, Gd_t (lix (j := 1) (pj := 1) hL hi (by decide) rfl), Gd_t (lix (j := 2) (pj := 2) hL hi (by decide) rfl), bd_e e2, if_pos rfl]
  exact hih c' m' e3
theorem lk_39 {L i t : Nat} {xs : Nat → Int32} {ih : Int32 × St × St → Option Int32} {c m : St} (hL : L ≤ 2048) (hi : i + 4 ≤ L) (ht : t ≤ 511) (h : INV t c m) (hih : ∀ c' m', INV (t + 1) c' m' → ih (nI i + (4 : Int32), c', m') = some 1) : law_39 L xs ih (nI i, c, m) = some 1 := by
  unfold law_39
  try dsimp only
  obtain ⟨v, c', m', e1, e2, e3⟩ := q_turnRadius ht h (xs (Int32.toNatClampNeg (nI i + (1 : Int32)))) (xs (Int32.toNatClampNeg (nI i + (2 : Int32))))
  rw [Gd_t (lix (j := 1) (pj := 1) hL hi (by decide) rfl), Gd_t (lix (j := 2) (pj := 2) hL hi (by decide) rfl), bd_e e1, Gd_t (lix (j := 1) (pj := 1) hL hi (by decide) rfl), Gd_t (lix (j := 2) (pj := 2) hL hi (by decide) rfl), bd_e e2, if_pos rfl]
  exact hih c' m' e3
theorem lk_40 {L i t : Nat} {xs : Nat → Int32} {ih : Int32 × St × St → Option Int32} {c m : St} (hL : L ≤ 2048) (hi : i + 4 ≤ L) (ht : t ≤ 511) (h : INV t c m) (hih : ∀ c' m', INV (t + 1) c' m' → ih (nI i + (4 : Int32), c', m') = some 1) : law_40 L xs ih (nI i, c, m) = some 1 := by
  unfold law_40
  try dsimp only
  obtain ⟨v, c', m', e1, e2, e3⟩ := q_turnLead ht h (xs (Int32.toNatClampNeg (nI i + (1 : Int32)))) (xs (Int32.toNatClampNeg (nI i + (2 : Int32))))
  rw [Gd_t (lix (j := 1) (pj := 1) hL hi (by decide) rfl), Gd_t (lix (j := 2) (pj := 2) hL hi (by decide) rfl), bd_e e1, Gd_t (lix (j := 1) (pj := 1) hL hi (by decide) rfl), Gd_t (lix (j := 2) (pj := 2) hL hi (by decide) rfl), bd_e e2, if_pos rfl]
  exact hih c' m' e3
theorem lk_41 {L i t : Nat} {xs : Nat → Int32} {ih : Int32 × St × St → Option Int32} {c m : St} (hL : L ≤ 2048) (hi : i + 4 ≤ L) (ht : t ≤ 511) (h : INV t c m) (hih : ∀ c' m', INV (t + 1) c' m' → ih (nI i + (4 : Int32), c', m') = some 1) : law_41 L xs ih (nI i, c, m) = some 1 := by
  unfold law_41
  try dsimp only
  obtain ⟨v, c', m', e1, e2, e3⟩ := q_holdEntry ht h (xs (Int32.toNatClampNeg (nI i + (1 : Int32)))) (xs (Int32.toNatClampNeg (nI i + (2 : Int32))))
  rw [Gd_t (lix (j := 1) (pj := 1) hL hi (by decide) rfl), Gd_t (lix (j := 2) (pj := 2) hL hi (by decide) rfl), bd_e e1, Gd_t (lix (j := 1) (pj := 1) hL hi (by decide) rfl), Gd_t (lix (j := 2) (pj := 2) hL hi (by decide) rfl), bd_e e2, if_pos rfl]
  exact hih c' m' e3
theorem lk_42 {L i t : Nat} {xs : Nat → Int32} {ih : Int32 × St × St → Option Int32} {c m : St} (hL : L ≤ 2048) (hi : i + 4 ≤ L) (ht : t ≤ 511) (h : INV t c m) (hih : ∀ c' m', INV (t + 1) c' m' → ih (nI i + (4 : Int32), c', m') = some 1) : law_42 L xs ih (nI i, c, m) = some 1 := by
  unfold law_42
  try dsimp only
  obtain ⟨v, e1, e2⟩ := q_entryFor (xs (Int32.toNatClampNeg (nI i + (1 : Int32)))) (xs (Int32.toNatClampNeg (nI i + (2 : Int32)))) (bz (xs (Int32.toNatClampNeg (nI i + (3 : Int32)))))
  rw [Gd_t (lix (j := 1) (pj := 1) hL hi (by decide) rfl), Gd_t (lix (j := 2) (pj := 2) hL hi (by decide) rfl), Gd_t (lix (j := 3) (pj := 3) hL hi (by decide) rfl), bd_e e1, Gd_t (lix (j := 1) (pj := 1) hL hi (by decide) rfl), Gd_t (lix (j := 2) (pj := 2) hL hi (by decide) rfl), Gd_t (lix (j := 3) (pj := 3) hL hi (by decide) rfl), bd_e e2, if_pos rfl]
  exact hih c m h.up
theorem lk_43 {L i t : Nat} {xs : Nat → Int32} {ih : Int32 × St × St → Option Int32} {c m : St} (hL : L ≤ 2048) (hi : i + 4 ≤ L) (ht : t ≤ 511) (h : INV t c m) (hih : ∀ c' m', INV (t + 1) c' m' → ih (nI i + (4 : Int32), c', m') = some 1) : law_43 L xs ih (nI i, c, m) = some 1 := by
  unfold law_43
  try dsimp only
  obtain ⟨v, c', m', e1, e2, e3⟩ := q_pieceCount ht h (xs (Int32.toNatClampNeg (nI i + (1 : Int32))))
  rw [Gd_t (lix (j := 1) (pj := 1) hL hi (by decide) rfl), bd_e e1, Gd_t (lix (j := 1) (pj := 1) hL hi (by decide) rfl), bd_e e2, if_pos rfl]
  exact hih c' m' e3
theorem lk_44 {L i t : Nat} {xs : Nat → Int32} {ih : Int32 × St × St → Option Int32} {c m : St} (hL : L ≤ 2048) (hi : i + 4 ≤ L) (ht : t ≤ 511) (h : INV t c m) (hih : ∀ c' m', INV (t + 1) c' m' → ih (nI i + (4 : Int32), c', m') = some 1) : law_44 L xs ih (nI i, c, m) = some 1 := by
  unfold law_44
  try dsimp only
  obtain ⟨v, c', m', e1, e2, e3⟩ := q_pieceLeg ht h (xs (Int32.toNatClampNeg (nI i + (1 : Int32)))) (xs (Int32.toNatClampNeg (nI i + (2 : Int32))))
  rw [Gd_t (lix (j := 1) (pj := 1) hL hi (by decide) rfl), Gd_t (lix (j := 2) (pj := 2) hL hi (by decide) rfl), bd_e e1, Gd_t (lix (j := 1) (pj := 1) hL hi (by decide) rfl), Gd_t (lix (j := 2) (pj := 2) hL hi (by decide) rfl), bd_e e2, if_pos rfl]
  exact hih c' m' e3
theorem lk_45 {L i t : Nat} {xs : Nat → Int32} {ih : Int32 × St × St → Option Int32} {c m : St} (hL : L ≤ 2048) (hi : i + 4 ≤ L) (ht : t ≤ 511) (h : INV t c m) (hih : ∀ c' m', INV (t + 1) c' m' → ih (nI i + (4 : Int32), c', m') = some 1) : law_45 L xs ih (nI i, c, m) = some 1 := by
  unfold law_45
  try dsimp only
  obtain ⟨v, c', m', e1, e2, e3⟩ := q_pieceKind ht h (xs (Int32.toNatClampNeg (nI i + (1 : Int32)))) (xs (Int32.toNatClampNeg (nI i + (2 : Int32))))
  rw [Gd_t (lix (j := 1) (pj := 1) hL hi (by decide) rfl), Gd_t (lix (j := 2) (pj := 2) hL hi (by decide) rfl), bd_e e1, Gd_t (lix (j := 1) (pj := 1) hL hi (by decide) rfl), Gd_t (lix (j := 2) (pj := 2) hL hi (by decide) rfl), bd_e e2, if_pos rfl]
  exact hih c' m' e3
theorem lk_46 {L i t : Nat} {xs : Nat → Int32} {ih : Int32 × St × St → Option Int32} {c m : St} (hL : L ≤ 2048) (hi : i + 4 ≤ L) (ht : t ≤ 511) (h : INV t c m) (hih : ∀ c' m', INV (t + 1) c' m' → ih (nI i + (4 : Int32), c', m') = some 1) : law_46 L xs ih (nI i, c, m) = some 1 := by
  unfold law_46
  try dsimp only
  obtain ⟨v, c', m', e1, e2, e3⟩ := q_pieceLength ht h (xs (Int32.toNatClampNeg (nI i + (1 : Int32)))) (xs (Int32.toNatClampNeg (nI i + (2 : Int32))))
  rw [Gd_t (lix (j := 1) (pj := 1) hL hi (by decide) rfl), Gd_t (lix (j := 2) (pj := 2) hL hi (by decide) rfl), bd_e e1, Gd_t (lix (j := 1) (pj := 1) hL hi (by decide) rfl), Gd_t (lix (j := 2) (pj := 2) hL hi (by decide) rfl), bd_e e2, if_pos rfl]
  exact hih c' m' e3
theorem lk_47 {L i t : Nat} {xs : Nat → Int32} {ih : Int32 × St × St → Option Int32} {c m : St} (hL : L ≤ 2048) (hi : i + 4 ≤ L) (ht : t ≤ 511) (h : INV t c m) (hih : ∀ c' m', INV (t + 1) c' m' → ih (nI i + (4 : Int32), c', m') = some 1) : law_47 L xs ih (nI i, c, m) = some 1 := by
  unfold law_47
  try dsimp only
  obtain ⟨v, c', m', e1, e2, e3⟩ := q_pieceCourse ht h (xs (Int32.toNatClampNeg (nI i + (1 : Int32)))) (xs (Int32.toNatClampNeg (nI i + (2 : Int32))))
  rw [Gd_t (lix (j := 1) (pj := 1) hL hi (by decide) rfl), Gd_t (lix (j := 2) (pj := 2) hL hi (by decide) rfl), bd_e e1, Gd_t (lix (j := 1) (pj := 1) hL hi (by decide) rfl), Gd_t (lix (j := 2) (pj := 2) hL hi (by decide) rfl), bd_e e2, if_pos rfl]
  exact hih c' m' e3
theorem lk_48 {L i t : Nat} {xs : Nat → Int32} {ih : Int32 × St × St → Option Int32} {c m : St} (hL : L ≤ 2048) (hi : i + 4 ≤ L) (ht : t ≤ 511) (h : INV t c m) (hih : ∀ c' m', INV (t + 1) c' m' → ih (nI i + (4 : Int32), c', m') = some 1) : law_48 L xs ih (nI i, c, m) = some 1 := by
  unfold law_48
  try dsimp only
  obtain ⟨v, c', m', e1, e2, e3⟩ := q_pieceX ht h (xs (Int32.toNatClampNeg (nI i + (1 : Int32)))) (xs (Int32.toNatClampNeg (nI i + (2 : Int32))))
  rw [Gd_t (lix (j := 1) (pj := 1) hL hi (by decide) rfl), Gd_t (lix (j := 2) (pj := 2) hL hi (by decide) rfl), bd_e e1, Gd_t (lix (j := 1) (pj := 1) hL hi (by decide) rfl), Gd_t (lix (j := 2) (pj := 2) hL hi (by decide) rfl), bd_e e2, if_pos rfl]
  exact hih c' m' e3
theorem lk_49 {L i t : Nat} {xs : Nat → Int32} {ih : Int32 × St × St → Option Int32} {c m : St} (hL : L ≤ 2048) (hi : i + 4 ≤ L) (ht : t ≤ 511) (h : INV t c m) (hih : ∀ c' m', INV (t + 1) c' m' → ih (nI i + (4 : Int32), c', m') = some 1) : law_49 L xs ih (nI i, c, m) = some 1 := by
  unfold law_49
  try dsimp only
  obtain ⟨v, c', m', e1, e2, e3⟩ := q_pieceY ht h (xs (Int32.toNatClampNeg (nI i + (1 : Int32)))) (xs (Int32.toNatClampNeg (nI i + (2 : Int32))))
  rw [Gd_t (lix (j := 1) (pj := 1) hL hi (by decide) rfl), Gd_t (lix (j := 2) (pj := 2) hL hi (by decide) rfl), bd_e e1, Gd_t (lix (j := 1) (pj := 1) hL hi (by decide) rfl), Gd_t (lix (j := 2) (pj := 2) hL hi (by decide) rfl), bd_e e2, if_pos rfl]
  exact hih c' m' e3
theorem lk_50 {L i t : Nat} {xs : Nat → Int32} {ih : Int32 × St × St → Option Int32} {c m : St} (hL : L ≤ 2048) (hi : i + 4 ≤ L) (ht : t ≤ 511) (h : INV t c m) (hih : ∀ c' m', INV (t + 1) c' m' → ih (nI i + (4 : Int32), c', m') = some 1) : law_50 L xs ih (nI i, c, m) = some 1 := by
  unfold law_50
  try dsimp only
  obtain ⟨v, c', m', e1, e2, e3⟩ := q_climbAltitude ht h (xs (Int32.toNatClampNeg (nI i + (1 : Int32)))) (xs (Int32.toNatClampNeg (nI i + (2 : Int32))))
  rw [Gd_t (lix (j := 1) (pj := 1) hL hi (by decide) rfl), Gd_t (lix (j := 2) (pj := 2) hL hi (by decide) rfl), bd_e e1, Gd_t (lix (j := 1) (pj := 1) hL hi (by decide) rfl), Gd_t (lix (j := 2) (pj := 2) hL hi (by decide) rfl), bd_e e2, if_pos rfl]
  exact hih c' m' e3
theorem lk_51 {L i t : Nat} {xs : Nat → Int32} {ih : Int32 × St × St → Option Int32} {c m : St} (hL : L ≤ 2048) (hi : i + 4 ≤ L) (ht : t ≤ 511) (h : INV t c m) (hih : ∀ c' m', INV (t + 1) c' m' → ih (nI i + (4 : Int32), c', m') = some 1) : law_51 L xs ih (nI i, c, m) = some 1 := by
  unfold law_51
  try dsimp only
  obtain ⟨v, c', m', e1, e2, e3⟩ := q_descentAltitude ht h (xs (Int32.toNatClampNeg (nI i + (1 : Int32)))) (xs (Int32.toNatClampNeg (nI i + (2 : Int32))))
  rw [Gd_t (lix (j := 1) (pj := 1) hL hi (by decide) rfl), Gd_t (lix (j := 2) (pj := 2) hL hi (by decide) rfl), bd_e e1, Gd_t (lix (j := 1) (pj := 1) hL hi (by decide) rfl), Gd_t (lix (j := 2) (pj := 2) hL hi (by decide) rfl), bd_e e2, if_pos rfl]
  exact hih c' m' e3
theorem lk_52 {L i t : Nat} {xs : Nat → Int32} {ih : Int32 × St × St → Option Int32} {c m : St} (hL : L ≤ 2048) (hi : i + 4 ≤ L) (ht : t ≤ 511) (h : INV t c m) (hih : ∀ c' m', INV (t + 1) c' m' → ih (nI i + (4 : Int32), c', m') = some 1) : law_52 L xs ih (nI i, c, m) = some 1 := by
  unfold law_52
  try dsimp only
  obtain ⟨v, c', m', e1, e2, e3⟩ := q_altitude ht h (xs (Int32.toNatClampNeg (nI i + (1 : Int32)))) (xs (Int32.toNatClampNeg (nI i + (2 : Int32))))
  rw [Gd_t (lix (j := 1) (pj := 1) hL hi (by decide) rfl), Gd_t (lix (j := 2) (pj := 2) hL hi (by decide) rfl), bd_e e1, Gd_t (lix (j := 1) (pj := 1) hL hi (by decide) rfl), Gd_t (lix (j := 2) (pj := 2) hL hi (by decide) rfl), bd_e e2, if_pos rfl]
  exact hih c' m' e3
theorem lk_53 {L i t : Nat} {xs : Nat → Int32} {ih : Int32 × St × St → Option Int32} {c m : St} (hL : L ≤ 2048) (hi : i + 4 ≤ L) (ht : t ≤ 511) (h : INV t c m) (hih : ∀ c' m', INV (t + 1) c' m' → ih (nI i + (4 : Int32), c', m') = some 1) : law_53 L xs ih (nI i, c, m) = some 1 := by
  unfold law_53
  try dsimp only
  obtain ⟨v, c', m', e1, e2, e3⟩ := q_altitudeAt ht h (xs (Int32.toNatClampNeg (nI i + (1 : Int32)))) (xs (Int32.toNatClampNeg (nI i + (2 : Int32)))) (xs (Int32.toNatClampNeg (nI i + (3 : Int32))))
  rw [Gd_t (lix (j := 1) (pj := 1) hL hi (by decide) rfl), Gd_t (lix (j := 2) (pj := 2) hL hi (by decide) rfl), Gd_t (lix (j := 3) (pj := 3) hL hi (by decide) rfl), bd_e e1, Gd_t (lix (j := 1) (pj := 1) hL hi (by decide) rfl), Gd_t (lix (j := 2) (pj := 2) hL hi (by decide) rfl), Gd_t (lix (j := 3) (pj := 3) hL hi (by decide) rfl), bd_e e2, if_pos rfl]
  exact hih c' m' e3
theorem lk_54 {L i t : Nat} {xs : Nat → Int32} {ih : Int32 × St × St → Option Int32} {c m : St} (hL : L ≤ 2048) (hi : i + 4 ≤ L) (ht : t ≤ 511) (h : INV t c m) (hih : ∀ c' m', INV (t + 1) c' m' → ih (nI i + (4 : Int32), c', m') = some 1) : law_54 L xs ih (nI i, c, m) = some 1 := by
  unfold law_54
  try dsimp only
  obtain ⟨v, c', m', e1, e2, e3⟩ := q_violation ht h (xs (Int32.toNatClampNeg (nI i + (1 : Int32)))) (xs (Int32.toNatClampNeg (nI i + (2 : Int32))))
  rw [Gd_t (lix (j := 1) (pj := 1) hL hi (by decide) rfl), Gd_t (lix (j := 2) (pj := 2) hL hi (by decide) rfl), bd_e e1, Gd_t (lix (j := 1) (pj := 1) hL hi (by decide) rfl), Gd_t (lix (j := 2) (pj := 2) hL hi (by decide) rfl), bd_e e2, if_pos rfl]
  exact hih c' m' e3
theorem lk_55 {L i t : Nat} {xs : Nat → Int32} {ih : Int32 × St × St → Option Int32} {c m : St} (hL : L ≤ 2048) (hi : i + 4 ≤ L) (ht : t ≤ 511) (h : INV t c m) (hih : ∀ c' m', INV (t + 1) c' m' → ih (nI i + (4 : Int32), c', m') = some 1) : law_55 L xs ih (nI i, c, m) = some 1 := by
  unfold law_55
  try dsimp only
  obtain ⟨v, c', m', e1, e2, e3⟩ := q_topOfDescent ht h (xs (Int32.toNatClampNeg (nI i + (1 : Int32))))
  rw [Gd_t (lix (j := 1) (pj := 1) hL hi (by decide) rfl), bd_e e1, Gd_t (lix (j := 1) (pj := 1) hL hi (by decide) rfl), bd_e e2, if_pos rfl]
  exact hih c' m' e3
theorem lk_56 {L i t : Nat} {xs : Nat → Int32} {ih : Int32 × St × St → Option Int32} {c m : St} (hL : L ≤ 2048) (hi : i + 4 ≤ L) (ht : t ≤ 511) (h : INV t c m) (hih : ∀ c' m', INV (t + 1) c' m' → ih (nI i + (4 : Int32), c', m') = some 1) : law_56 L xs ih (nI i, c, m) = some 1 := by
  unfold law_56
  try dsimp only
  obtain ⟨v, c', m', e1, e2, e3⟩ := q_gapCount ht h (xs (Int32.toNatClampNeg (nI i + (1 : Int32))))
  rw [Gd_t (lix (j := 1) (pj := 1) hL hi (by decide) rfl), bd_e e1, Gd_t (lix (j := 1) (pj := 1) hL hi (by decide) rfl), bd_e e2, if_pos rfl]
  exact hih c' m' e3
theorem lk_57 {L i t : Nat} {xs : Nat → Int32} {ih : Int32 × St × St → Option Int32} {c m : St} (hL : L ≤ 2048) (hi : i + 4 ≤ L) (ht : t ≤ 511) (h : INV t c m) (hih : ∀ c' m', INV (t + 1) c' m' → ih (nI i + (4 : Int32), c', m') = some 1) : law_57 L xs ih (nI i, c, m) = some 1 := by
  unfold law_57
  try dsimp only
  obtain ⟨v, c', m', e1, e2, e3⟩ := q_totalLength ht h (xs (Int32.toNatClampNeg (nI i + (1 : Int32))))
  rw [Gd_t (lix (j := 1) (pj := 1) hL hi (by decide) rfl), bd_e e1, Gd_t (lix (j := 1) (pj := 1) hL hi (by decide) rfl), bd_e e2, if_pos rfl]
  exact hih c' m' e3
theorem lk_58 {L i t : Nat} {xs : Nat → Int32} {ih : Int32 × St × St → Option Int32} {c m : St} (hL : L ≤ 2048) (hi : i + 4 ≤ L) (ht : t ≤ 511) (h : INV t c m) (hih : ∀ c' m', INV (t + 1) c' m' → ih (nI i + (4 : Int32), c', m') = some 1) : law_58 L xs ih (nI i, c, m) = some 1 := by
  unfold law_58
  try dsimp only
  obtain ⟨v, c', m', e1, e2, e3⟩ := q_totalTime ht h (xs (Int32.toNatClampNeg (nI i + (1 : Int32))))
  rw [Gd_t (lix (j := 1) (pj := 1) hL hi (by decide) rfl), bd_e e1, Gd_t (lix (j := 1) (pj := 1) hL hi (by decide) rfl), bd_e e2, if_pos rfl]
  exact hih c' m' e3
theorem lk_59 {L i t : Nat} {xs : Nat → Int32} {ih : Int32 × St × St → Option Int32} {c m : St} (hL : L ≤ 2048) (hi : i + 4 ≤ L) (ht : t ≤ 511) (h : INV t c m) (hih : ∀ c' m', INV (t + 1) c' m' → ih (nI i + (4 : Int32), c', m') = some 1) : law_59 L xs ih (nI i, c, m) = some 1 := by
  unfold law_59
  try dsimp only
  obtain ⟨v, c', m', e1, e2, e3⟩ := q_violationCount ht h (xs (Int32.toNatClampNeg (nI i + (1 : Int32))))
  rw [Gd_t (lix (j := 1) (pj := 1) hL hi (by decide) rfl), bd_e e1, Gd_t (lix (j := 1) (pj := 1) hL hi (by decide) rfl), bd_e e2, if_pos rfl]
  exact hih c' m' e3
theorem lk_sw {L i t : Nat} {xs : Nat → Int32} {ih : Int32 × St × St → Option Int32} {c m : St} (hL : L ≤ 2048) (hi : i + 4 ≤ L) (ht : t ≤ 511) (h : INV t c m) (hih : ∀ c' m', INV (t + 1) c' m' → ih (nI i + (4 : Int32), c', m') = some 1) (k : Int32) : law_sw L xs ih (nI i, c, m) k = some 1 := by
  unfold law_sw
  by_cases h0 : k = 0
  · rw [if_pos h0]; exact lk_0 hL hi ht h hih
  rw [if_neg h0]
  by_cases h1 : k = 1
  · rw [if_pos h1]; exact lk_1 hL hi ht h hih
  rw [if_neg h1]
  by_cases h2 : k = 2
  · rw [if_pos h2]; exact lk_2 hL hi ht h hih
  rw [if_neg h2]
  by_cases h3 : k = 3
  · rw [if_pos h3]; exact lk_3 hL hi ht h hih
  rw [if_neg h3]
  by_cases h4 : k = 4
  · rw [if_pos h4]; exact lk_4 hL hi ht h hih
  rw [if_neg h4]
  by_cases h5 : k = 5
  · rw [if_pos h5]; exact lk_5 hL hi ht h hih
  rw [if_neg h5]
  by_cases h6 : k = 6
  · rw [if_pos h6]; exact lk_6 hL hi ht h hih
  rw [if_neg h6]
  by_cases h7 : k = 7
  · rw [if_pos h7]; exact lk_7 hL hi ht h hih
  rw [if_neg h7]
  by_cases h8 : k = 8
  · rw [if_pos h8]; exact lk_8 hL hi ht h hih
  rw [if_neg h8]
  by_cases h9 : k = 9
  · rw [if_pos h9]; exact lk_9 hL hi ht h hih
  rw [if_neg h9]
  by_cases h10 : k = 10
  · rw [if_pos h10]; exact lk_10 hL hi ht h hih
  rw [if_neg h10]
  by_cases h11 : k = 11
  · rw [if_pos h11]; exact lk_11 hL hi ht h hih
  rw [if_neg h11]
  by_cases h12 : k = 12
  · rw [if_pos h12]; exact lk_12 hL hi ht h hih
  rw [if_neg h12]
  by_cases h13 : k = 13
  · rw [if_pos h13]; exact lk_13 hL hi ht h hih
  rw [if_neg h13]
  by_cases h14 : k = 14
  · rw [if_pos h14]; exact lk_14 hL hi ht h hih
  rw [if_neg h14]
  by_cases h15 : k = 15
  · rw [if_pos h15]; exact lk_15 hL hi ht h hih
  rw [if_neg h15]
  by_cases h16 : k = 16
  · rw [if_pos h16]; exact lk_16 hL hi ht h hih
  rw [if_neg h16]
  by_cases h17 : k = 17
  · rw [if_pos h17]; exact lk_17 hL hi ht h hih
  rw [if_neg h17]
  by_cases h18 : k = 18
  · rw [if_pos h18]; exact lk_18 hL hi ht h hih
  rw [if_neg h18]
  by_cases h19 : k = 19
  · rw [if_pos h19]; exact lk_19 hL hi ht h hih
  rw [if_neg h19]
  by_cases h20 : k = 20
  · rw [if_pos h20]; exact lk_20 hL hi ht h hih
  rw [if_neg h20]
  by_cases h21 : k = 21
  · rw [if_pos h21]; exact lk_21 hL hi ht h hih
  rw [if_neg h21]
  by_cases h22 : k = 22
  · rw [if_pos h22]; exact lk_22 hL hi ht h hih
  rw [if_neg h22]
  by_cases h23 : k = 23
  · rw [if_pos h23]; exact lk_23 hL hi ht h hih
  rw [if_neg h23]
  by_cases h24 : k = 24
  · rw [if_pos h24]; exact lk_24 hL hi ht h hih
  rw [if_neg h24]
  by_cases h25 : k = 25
  · rw [if_pos h25]; exact lk_25 hL hi ht h hih
  rw [if_neg h25]
  by_cases h26 : k = 26
  · rw [if_pos h26]; exact lk_26 hL hi ht h hih
  rw [if_neg h26]
  by_cases h27 : k = 27
  · rw [if_pos h27]; exact lk_27 hL hi ht h hih
  rw [if_neg h27]
  by_cases h28 : k = 28
  · rw [if_pos h28]; exact lk_28 hL hi ht h hih
  rw [if_neg h28]
  by_cases h29 : k = 29
  · rw [if_pos h29]; exact lk_29 hL hi ht h hih
  rw [if_neg h29]
  by_cases h30 : k = 30
  · rw [if_pos h30]; exact lk_30 hL hi ht h hih
  rw [if_neg h30]
  by_cases h31 : k = 31
  · rw [if_pos h31]; exact lk_31 hL hi ht h hih
  rw [if_neg h31]
  by_cases h32 : k = 32
  · rw [if_pos h32]; exact lk_32 hL hi ht h hih
  rw [if_neg h32]
  by_cases h33 : k = 33
  · rw [if_pos h33]; exact lk_33 hL hi ht h hih
  rw [if_neg h33]
  by_cases h34 : k = 34
  · rw [if_pos h34]; exact lk_34 hL hi ht h hih
  rw [if_neg h34]
  by_cases h35 : k = 35
  · rw [if_pos h35]; exact lk_35 hL hi ht h hih
  rw [if_neg h35]
  by_cases h36 : k = 36
  · rw [if_pos h36]; exact lk_36 hL hi ht h hih
  rw [if_neg h36]
  by_cases h37 : k = 37
  · rw [if_pos h37]; exact lk_37 hL hi ht h hih
  rw [if_neg h37]
  by_cases h38 : k = 38
  · rw [if_pos h38]; exact lk_38 hL hi ht h hih
  rw [if_neg h38]
  by_cases h39 : k = 39
  · rw [if_pos h39]; exact lk_39 hL hi ht h hih
  rw [if_neg h39]
  by_cases h40 : k = 40
  · rw [if_pos h40]; exact lk_40 hL hi ht h hih
  rw [if_neg h40]
  by_cases h41 : k = 41
  · rw [if_pos h41]; exact lk_41 hL hi ht h hih
  rw [if_neg h41]
  by_cases h42 : k = 42
  · rw [if_pos h42]; exact lk_42 hL hi ht h hih
  rw [if_neg h42]
  by_cases h43 : k = 43
  · rw [if_pos h43]; exact lk_43 hL hi ht h hih
  rw [if_neg h43]
  by_cases h44 : k = 44
  · rw [if_pos h44]; exact lk_44 hL hi ht h hih
  rw [if_neg h44]
  by_cases h45 : k = 45
  · rw [if_pos h45]; exact lk_45 hL hi ht h hih
  rw [if_neg h45]
  by_cases h46 : k = 46
  · rw [if_pos h46]; exact lk_46 hL hi ht h hih
  rw [if_neg h46]
  by_cases h47 : k = 47
  · rw [if_pos h47]; exact lk_47 hL hi ht h hih
  rw [if_neg h47]
  by_cases h48 : k = 48
  · rw [if_pos h48]; exact lk_48 hL hi ht h hih
  rw [if_neg h48]
  by_cases h49 : k = 49
  · rw [if_pos h49]; exact lk_49 hL hi ht h hih
  rw [if_neg h49]
  by_cases h50 : k = 50
  · rw [if_pos h50]; exact lk_50 hL hi ht h hih
  rw [if_neg h50]
  by_cases h51 : k = 51
  · rw [if_pos h51]; exact lk_51 hL hi ht h hih
  rw [if_neg h51]
  by_cases h52 : k = 52
  · rw [if_pos h52]; exact lk_52 hL hi ht h hih
  rw [if_neg h52]
  by_cases h53 : k = 53
  · rw [if_pos h53]; exact lk_53 hL hi ht h hih
  rw [if_neg h53]
  by_cases h54 : k = 54
  · rw [if_pos h54]; exact lk_54 hL hi ht h hih
  rw [if_neg h54]
  by_cases h55 : k = 55
  · rw [if_pos h55]; exact lk_55 hL hi ht h hih
  rw [if_neg h55]
  by_cases h56 : k = 56
  · rw [if_pos h56]; exact lk_56 hL hi ht h hih
  rw [if_neg h56]
  by_cases h57 : k = 57
  · rw [if_pos h57]; exact lk_57 hL hi ht h hih
  rw [if_neg h57]
  by_cases h58 : k = 58
  · rw [if_pos h58]; exact lk_58 hL hi ht h hih
  rw [if_neg h58]
  by_cases h59 : k = 59
  · rw [if_pos h59]; exact lk_59 hL hi ht h hih
  rw [if_neg h59]
  exact hih c m h.up
def lwb (L : Nat) (xs : Nat → Int32) (ih : Int32 × St × St → Option Int32) (a : Int32 × St × St) : Option Int32 :=
    if (Int32.ofNat L - (4 : Int32) : Int32) < a.1 then (some 1) else (
    Gd (Ix a.1 L) <|
    law_sw L xs ih a (xs (Int32.toNatClampNeg a.1) &&& (63 : Int32)))
theorem lw_key {L : Nat} {xs : Nat → Int32} (hL : L ≤ 2048) : ∀ (d t n : Nat) (c m : St), t + d = 512 → d < n → INV t c m → lp (lwb L xs) n (nI (4 * t), c, m) = some 1 := by
  have e4 : (Int32.ofNat L - (4 : Int32)).toInt = (L : Int) - 4 := by
    have e0 : (Int32.ofNat L).toInt = (L : Int) := nI_toInt (n := L) (by omega)
    have k4 : (4 : Int32).toInt = 4 := by decide
    rw [tI_sub (by omega) (by omega), e0, k4]
  intro d
  induction d with
  | zero =>
    intro t n c m h1 h2 h
    rw [lp_s (by omega)]
    generalize lp (lwb L xs) (n - 1) = ih
    unfold lwb
    try dsimp only
    rw [if_pos]
    apply Int32.lt_iff_toInt_lt.mpr
    rw [e4, nI_toInt (by omega)]
    omega
  | succ d ihd =>
    intro t n c m h1 h2 h
    rw [lp_s (by omega)]
    have hih : ∀ c' m', INV (t + 1) c' m' → lp (lwb L xs) (n - 1) (nI (4 * t) + (4 : Int32), c', m') = some 1 := fun c' m' h' => by
      rw [show nI (4 * t) + (4 : Int32) = nI (4 * (t + 1)) from nI_add (4 * t) 4]
      exact ihd (t + 1) (n - 1) c' m' (by omega) (by omega) h'
    generalize lp (lwb L xs) (n - 1) = ih at hih ⊢
    unfold lwb
    try dsimp only
    by_cases q : (Int32.ofNat L - (4 : Int32) : Int32) < nI (4 * t)
    · rw [if_pos q]
    · have : ¬ (Int32.ofNat L - (4 : Int32)).toInt < (nI (4 * t)).toInt := fun y => q (Int32.lt_iff_toInt_lt.mpr y)
      rw [e4, nI_toInt (by omega)] at this
      rw [if_neg q, Gd_t (Ix_n (by omega) (by omega))]
      exact lk_sw hL (by omega) (by omega) h hih _
theorem inv0 : INV 0 c0 m0 := by
  refine ⟨0, 0, 0, 0, 0, 14200, ⟨?_, ?_, ?_, ?_, ?_, ?_, by decide, ⟨rfl, rfl, rfl⟩, ⟨fun _ => ⟨rfl, rfl⟩, fun q => absurd q (by decide)⟩, ⟨by decide, ?_⟩, ⟨by decide, rfl, rfl, fun q => absurd q (by decide)⟩, fun q => absurd q (by decide), ⟨0, 0, ⟨by decide, fun _ => rfl⟩, by decide, rfl, rfl, rfl, fun j hj => absurd hj (by omega)⟩, ⟨rfl, rfl, by decide⟩, fun q => absurd q (by decide)⟩, fun q => absurd q (by decide), fun q => absurd q (by decide)⟩
  · exact ⟨⟨rfl, rfl, rfl, by decide, by decide⟩, ⟨rfl, rfl, rfl, by decide, by decide⟩, ⟨rfl, rfl, rfl, by decide, by decide⟩, ⟨rfl, rfl, rfl, by decide, by decide⟩, ⟨⟨rfl, rfl, rfl, by decide, by decide⟩, ⟨rfl, rfl, rfl, by decide, by decide⟩, ⟨rfl, rfl, rfl, by decide, by decide⟩⟩, ⟨⟨rfl, rfl, rfl, by decide, by decide⟩, ⟨rfl, rfl, rfl, by decide, by decide⟩, ⟨rfl, rfl, rfl, by decide, by decide⟩⟩, ⟨⟨rfl, rfl, rfl, by decide, by decide⟩, ⟨rfl, rfl, rfl, by decide, by decide⟩, ⟨rfl, rfl, rfl, by decide, by decide⟩⟩, ⟨⟨rfl, rfl, rfl, by decide, by decide⟩, ⟨rfl, rfl, rfl, by decide, by decide⟩, ⟨rfl, rfl, rfl, by decide, by decide⟩⟩⟩
  · exact ⟨by decide +kernel, by decide +kernel, by decide +kernel⟩
  · exact ⟨trivial, ⟨rfl, by decide, by decide⟩, ⟨rfl, by decide, by decide⟩, ⟨rfl, by decide, by decide⟩, ⟨rfl, by decide, by decide⟩, ⟨rfl, by decide, by decide⟩, ⟨rfl, by decide, by decide⟩, ⟨rfl, by decide, by decide⟩, ⟨rfl, by decide, by decide⟩, ⟨rfl, by decide, by decide⟩⟩
  · exact ⟨0, by decide, rfl, rfl, fun i k hi => absurd hi (by omega), fun f hf => absurd hf (by omega)⟩
  · exact ⟨0, by decide, by decide, rfl, rfl, fun k hk => absurd hk (by omega)⟩
  · exact ⟨by decide, rfl, rfl, Or.inl rfl, fun i hi => absurd hi (by omega)⟩
  · have z1 : zp c0 8 0 = 0 := if_neg (fun q => absurd q.1 (by decide))
    have z2 : sp 0 0 = 0 := if_pos ⟨rfl, rfl⟩
    rw [z1, z2]
    decide
theorem pure_all (L : Nat) (hL : L ≤ 2048) (xs : Nat → Int32) : law_f L xs c0 m0 = some 1 := lw_key hL 512 0 4000 c0 m0 (by decide) (by decide) inv0
