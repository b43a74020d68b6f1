/-! pure facts: the words of the decompiled functions, numbers, tables -/
theorem Gd_t {ρ : Type} {c : Prop} {inst : Decidable c} {t : Option ρ} (h : c) : @Gd ρ c inst t = t := if_pos h
theorem Lt_e {α β : Type} (e : α) (k : α → β) : Lt e k = k e := Eq.trans (Eq.refl _) (Eq.refl _)
theorem Jn_e {α β : Type} (k : α) (b : α → β) : Jn k b = b k := Eq.trans (Eq.refl _) (Eq.refl _)
theorem bd_e {α β : Type} {o : Option α} {x : α} {k : α → Option β} (h : o = some x) : Option.bind o k = k x := by rw [h]; rfl
theorem lp_s {α ρ : Type} {b : (α → Option ρ) → α → Option ρ} {n : Nat} (h : 0 < n) (a : α) : lp b n a = b (lp b (n - 1)) a := by
  cases n with
  | zero => omega
  | succ n => rfl
theorem Ix_n {i n : Nat} (h : i < n) (hn : n < 2 ^ 31) : Ix (nI i) n := vp_in_nI h hn
/-- a table: its rows and width as the object has them, its array's length -/
def TabOK (c : St) (t r w : Nat) : Prop := c t 0 = nI r ∧ c t 1 = nI w ∧ ln (rc t 2) = r * w ∧ r < 10000 ∧ w < 100
theorem tab_ix {r w i j : Nat} (hi : i < r) (hj : j < w) : i * w + j < r * w := by
  have h1 : (i + 1) * w ≤ r * w := Nat.mul_le_mul_right w hi
  rw [Nat.add_mul, Nat.one_mul] at h1
  omega
theorem tab_sz {r w : Nat} (hr : r < 10000) (hw : w < 100) : r * w < 2 ^ 31 := by
  have h1 : r * w ≤ 10000 * 100 := Nat.mul_le_mul (by omega) (by omega)
  omega
theorem Tb_get {c : St} {t r w i j : Nat} (hT : TabOK c t r w) (hi : i < r) (hj : j < w) : f_Tb_get c t (nI i) (nI j) = some (c (rc t 2) (i * w + j)) := by
  obtain ⟨h0, h1, h2, hr, hw⟩ := hT
  have hx := tab_ix hi hj
  have hs := tab_sz hr hw
  have e : nI i * nI w + nI j = nI (i * w + j) := by rw [pk_mul, nI_add]
  unfold f_Tb_get
  rw [Jn_e, if_neg (nI_pos (by omega)), h0, if_neg (nI_ge hi (by omega)), if_neg (nI_pos (by omega)), h1, if_pos (nI_lt hj (by omega)), e, Gd_t (Ix_n (by rw [h2]; exact hx) (by rw [h2]; exact hs)), nI_clamp (by omega)]
theorem Tb_put {c : St} {t r w i j : Nat} {v : Int32} (hT : TabOK c t r w) (hi : i < r) (hj : j < w) : f_Tb_put c t (nI i) (nI j) v = some (s2 c (rc t 2) (i * w + j) v) := by
  obtain ⟨h0, h1, h2, hr, hw⟩ := hT
  have hx := tab_ix hi hj
  have hs := tab_sz hr hw
  have e : nI i * nI w + nI j = nI (i * w + j) := by rw [pk_mul, nI_add]
  unfold f_Tb_put
  rw [Jn_e, if_neg (nI_pos (by omega)), h0, if_neg (nI_ge hi (by omega)), if_neg (nI_pos (by omega)), h1, if_neg (nI_ge hj (by omega)), e, Gd_t (Ix_n (by rw [h2]; exact hx) (by rw [h2]; exact hs)), Lt_e, nI_clamp (by omega)]
/-- a table is kept by a store outside its object's first two fields -/
theorem TabOK.s2 {c : St} {t r w o k : Nat} {v : Int32} (h : TabOK c t r w) (hne : o ≠ t) : TabOK (s2 c o k v) t r w := by
  obtain ⟨h0, h1, h2⟩ := h
  exact ⟨by rw [s2_ne (Ne.symm hne)]; exact h0, by rw [s2_ne (Ne.symm hne)]; exact h1, h2⟩
theorem s2_at {σ : St} {o k : Nat} {v : Int32} : s2 σ o k v o k = v := by simp [s2]
theorem s2_nk {σ : St} {o k a b : Nat} {v : Int32} (h : a ≠ o ∨ b ≠ k) : s2 σ o k v a b = σ a b := by
  rcases h with h | h
  · simp [s2, h]
  · simp [s2, h]
theorem Tb_copy0 {c : St} {t u r1 w : Nat} {p2 p3 : Int32} (hT : c t 1 = nI w) (hU : c u 1 = nI w) : f_Tb_copyRows c t u p2 p3 (nI 0) = some c := by
  unfold f_Tb_copyRows
  rw [Jn_e, hT, hU, if_pos rfl, if_pos (by decide)]
theorem Tb_copy {c : St} {t u r1 r2 w i j n : Nat} (hT : TabOK c t r2 w) (hU : TabOK c u r1 w) (hn : 0 < n) (hi : i + n ≤ r1) (hj : j + n ≤ r2) : f_Tb_copyRows c t u (nI i) (nI j) (nI n) = some (scp c (rc u 2) (rc t 2) (i * w) (j * w) (n * w)) := by
  obtain ⟨t0, t1, t2, tr, tw⟩ := hT
  obtain ⟨u0, u1, u2, ur, uw⟩ := hU
  have hz1 := tab_sz tr tw
  have hz2 := tab_sz ur uw
  have m1 : (i + n) * w ≤ r1 * w := Nat.mul_le_mul_right w hi
  have m2 : (j + n) * w ≤ r2 * w := Nat.mul_le_mul_right w hj
  rw [Nat.add_mul] at m1 m2
  unfold f_Tb_copyRows
  rw [Jn_e, t1, u1, if_pos rfl, if_neg (nI_nle hn (by omega)), if_neg (nI_pos (by omega)), if_pos (nI_pos' (by omega)), Jn_e, u0, t0, pk_sub (by omega), pk_sub (by omega), if_neg (nI_nlt (by omega) (by omega)), if_neg (nI_nlt (by omega) (by omega)), pk_mul, pk_mul, pk_mul,
    Gd_t ⟨nI_pos (by omega), nI_pos (by omega), nI_pos (by omega), by rw [nI_clamp (by omega), nI_clamp (by omega), u2]; omega, by rw [nI_clamp (by omega), nI_clamp (by omega), t2]; omega⟩, Lt_e, nI_clamp (by omega), nI_clamp (by omega), nI_clamp (by omega)]
/-- Arrays.fill -/
def sfl (σ : St) (p n : Nat) (v : Int32) : St := fun a b => if a = p ∧ b < n then v else σ a b
theorem fill_e {σ : St} {p : Nat} {v : Int32} (hp : ln p < 3000) : f_Ar_fill σ p v = some (sfl σ p (ln p) v) := by
  unfold f_Ar_fill
  rw [Lt_e, Jn_e]
  have key : ∀ (d k : Nat) (n : Nat), k + d = ln p → d < n → ∀ τ : St, τ = sfl σ p k v → lp (lb_f_Ar_fill_5 p v (Int32.ofNat (ln p)) (fun σ2 => some σ2)) n (nI k, τ) = some (sfl σ p (ln p) v) := by
    intro d
    induction d with
    | zero =>
      intro k n hk hn τ hτ
      rw [lp_s (by omega)]
      have hk : k = ln p := by omega
      unfold lb_f_Ar_fill_5
      rw [if_pos (show Int32.ofNat (ln p) ≤ nI k by rw [hk]; exact nI_le (Nat.le_refl _) (by omega)), hτ, hk]
    | succ d ih =>
      intro k n hk hn τ hτ
      rw [lp_s (by omega)]
      unfold lb_f_Ar_fill_5
      rw [if_neg (show ¬ Int32.ofNat (ln p) ≤ nI k from nI_ge (by omega) (by omega)), Gd_t (Ix_n (by omega) (by omega)), Lt_e, Lt_e, nI_1]
      refine ih (k + 1) (n - 1) (by omega) (by omega) _ ?_
      rw [nI_clamp (by omega), hτ]
      funext a b
      unfold s2 sfl
      by_cases h1 : a = p
      · by_cases h2 : b = k
        · simp [h1, h2]
        · by_cases h3 : b < k
          · simp [h1, h2, h3, Nat.lt_succ_of_lt h3]
          · have h4 : ¬ b < k + 1 := by omega
            simp [h1, h2, h3, h4]
      · simp [h1]
  exact key (ln p) 0 4000 (by omega) (by omega) σ (by funext a b; simp [sfl])
