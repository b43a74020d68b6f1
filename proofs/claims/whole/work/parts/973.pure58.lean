/-! the text: tokens in lockstep -/

theorem s2_ss {σ : St} {o k : Nat} {v w : Int32} : s2 (s2 σ o k v) o k w = s2 σ o k w := by
  funext a b
  unfold s2
  by_cases h : a = o
  · by_cases h' : b = k
    · simp [h, h']
    · simp [h, h']
  · simp [h]
/-- the byte at a place, -1 behind the end -/
def bya (c : St) (L s : Nat) : Int32 := if s < L then c 5 s else -1
/-- the class of a byte -/
def clv (b : Int32) : Nat := if b.toInt = -1 then 0 else if 65 ≤ b.toInt ∧ b.toInt ≤ 90 then 1 else if 48 ≤ b.toInt ∧ b.toInt ≤ 57 then 2 else 3
theorem clv_lt (b : Int32) : clv b < 4 := by
  unfold clv
  (repeat' split) <;> decide
theorem classOf_e (b : Int32) : f_Rx_classOf b = some (nI (clv b)) := by
  have k0 : b = -1 ↔ b.toInt = -1 := ⟨fun q => by rw [q]; decide, fun q => i2 (by rw [q]; decide)⟩
  have k1 : b < 65 ↔ b.toInt < 65 := Int32.lt_iff_toInt_lt
  have k2 : (90 : Int32) < b ↔ 90 < b.toInt := Int32.lt_iff_toInt_lt
  have k3 : b < 48 ↔ b.toInt < 48 := Int32.lt_iff_toInt_lt
  have k4 : (57 : Int32) < b ↔ 57 < b.toInt := Int32.lt_iff_toInt_lt
  unfold f_Rx_classOf clv
  simp only [Jn_e, k0, k1, k2, k3, k4]
  (repeat' split) <;> first | rfl | (exfalso; omega)
theorem inI {b : Int32} {x y : Int64} {x' y' : Int} (hx : x.toInt = x') (hy : y.toInt = y') : m_in b.toInt64 x y = some (if x' ≤ b.toInt ∧ b.toInt ≤ y' then 1 else 0) := by
  rw [in_e]
  have : (x ≤ b.toInt64 ∧ b.toInt64 ≤ y) ↔ (x' ≤ b.toInt ∧ b.toInt ≤ y') := by rw [Int64.le_iff_toInt_le, Int64.le_iff_toInt_le, tw, hx, hy]
  by_cases h : x' ≤ b.toInt ∧ b.toInt ≤ y'
  · rw [if_pos h, decide_eq_true (this.mpr h)]; rfl
  · rw [if_neg h, decide_eq_false (fun q => h (this.mp q))]; rfl
theorem isCap_e (b : Int32) : m_isCapital b = some (if clv b = 1 then 1 else 0) := by
  unfold m_isCapital
  rw [bd_e (inI (x' := 65) (y' := 90) (by decide) (by decide))]
  unfold clv
  by_cases h : 65 ≤ b.toInt ∧ b.toInt ≤ 90
  · rw [if_pos h, if_neg (show ¬ b.toInt = -1 by omega), if_pos h, if_pos rfl, Gd_t (by decide)]
  · rw [if_neg h]
    (repeat' split) <;> first | (exfalso; omega) | rfl
theorem isDig_e (b : Int32) : m_isDigit b = some (if clv b = 2 then 1 else 0) := by
  unfold m_isDigit
  rw [bd_e (inI (x' := 48) (y' := 57) (by decide) (by decide))]
  unfold clv
  by_cases h : 48 ≤ b.toInt ∧ b.toInt ≤ 57
  · rw [if_pos h, if_neg (show ¬ b.toInt = -1 by omega), if_neg (show ¬ (65 ≤ b.toInt ∧ b.toInt ≤ 90) by omega), if_pos h, if_pos rfl, Gd_t (by decide)]
  · rw [if_neg h]
    (repeat' split) <;> first | (exfalso; omega) | rfl
theorem byteAt_e {c : St} {L s : Nat} (h3 : c 4 3 = nI L) (hL : L ≤ 200) (hs : s ≤ 10000) : f_Rx_byteAt c 4 (nI s) = some (bya c L s) := by
  unfold f_Rx_byteAt bya
  rw [Jn_e, Jn_e, if_neg (nI_pos (by omega)), h3]
  by_cases h : s < L
  · rw [if_neg (nI_ge h (by omega)), show rc 4 1 = 5 from rfl, show ln 5 = 200 from rfl, if_neg (show ¬ Int32.ofNat 200 ≤ nI s from nI_ge (by omega) (by omega)), Gd_t (Ix_n (by omega) (by decide)), nI_clamp (by omega), if_pos h]
  · rw [if_pos (nI_le (by omega) (by omega)), if_neg h]
/-- what the reader rests on -/
def TB (c m : St) (L F : Nat) : Prop := RefK m ∧ L ≤ 200 ∧ m 0 68 = nI L ∧ (∀ k, k < L → c 5 k = m 41 k ∧ 0 ≤ (c 5 k).toInt ∧ (c 5 k).toInt ≤ 255) ∧ F ≤ 16 ∧ c 1 1 = nI F ∧ m 0 7 = nI F ∧ ∀ f, f < F → c 3 (f * 2 + 0) = m 3 f ∧ c 3 (f * 2 + 1) = m 4 f ∧ -9999 ≤ (m 3 f).toInt ∧ (m 3 f).toInt ≤ 9999 ∧ -9999 ≤ (m 4 f).toInt ∧ (m 4 f).toInt ≤ 9999
/-- the reader at leg n, begun at c0, m0 -/
def TS (c0 m0 : St) (L F n : Nat) (c m : St) : Prop :=
  Dm c ∧ TB c m L F ∧ c 4 3 = nI L ∧ m 0 73 = nI n ∧
  (∀ x, x ≠ 4 → x ≠ 7 → c x = c0 x) ∧ (∀ k, k < n * 14 → c 7 k = c0 7 k) ∧
  (∀ x, x ≠ 0 → x ≠ 43 → m x = m0 x) ∧ (∀ k, k < 69 ∨ 74 < k → m 0 k = m0 0 k) ∧ (∀ k, k < 14 * n → m 43 k = m0 43 k)
theorem TS.D {c0 m0 : St} {L F n : Nat} {c m : St} (h : TS c0 m0 L F n c m) : Dm c := h.1
theorem TS.B {c0 m0 : St} {L F n : Nat} {c m : St} (h : TS c0 m0 L F n c m) : TB c m L F := h.2.1
theorem TS.L {c0 m0 : St} {L F n : Nat} {c m : St} (h : TS c0 m0 L F n c m) : c 4 3 = nI L := h.2.2.1
theorem TS.n {c0 m0 : St} {L F n : Nat} {c m : St} (h : TS c0 m0 L F n c m) : m 0 73 = nI n := h.2.2.2.1
theorem TS.st {c0 m0 : St} {L F n : Nat} {c m c' m' : St} (h : TS c0 m0 L F n c m) (hD : Dm c') (h1 : ∀ x, x ≠ 4 → x ≠ 7 → c' x = c x) (h2 : c' 4 3 = c 4 3) (h3 : ∀ k, k < n * 14 → c' 7 k = c 7 k) (g1 : ∀ x, x ≠ 0 → x ≠ 43 → m' x = m x) (g2 : ∀ k, k < 69 ∨ 74 < k → m' 0 k = m 0 k) (g3 : m' 0 73 = m 0 73) (g4 : ∀ k, k < 14 * n → m' 43 k = m 43 k) : TS c0 m0 L F n c' m' := by
  obtain ⟨a1, ⟨b1, b2, b3, b4, b5, b6, b7, b8⟩, a3, a4, a5, a6, a7, a8, a9⟩ := h
  refine ⟨hD, ⟨b1.of (g1 _ (by decide) (by decide)) (g1 _ (by decide) (by decide)) (g1 _ (by decide) (by decide)), b2, ?_, ?_, b5, ?_, ?_, ?_⟩, h2.trans a3, g3.trans a4, fun x p q => (h1 x p q).trans (a5 x p q), fun k p => (h3 k p).trans (a6 k p), fun x p q => (g1 x p q).trans (a7 x p q), fun k p => (g2 k p).trans (a8 k p), fun k p => (g4 k p).trans (a9 k p)⟩
  · rw [g2 68 (by decide)]; exact b3
  · rw [h1 5 (by decide) (by decide), g1 41 (by decide) (by decide)]; exact b4
  · rw [h1 1 (by decide) (by decide)]; exact b6
  · rw [g2 7 (by decide)]; exact b7
  · rw [h1 3 (by decide) (by decide), g1 3 (by decide) (by decide), g1 4 (by decide) (by decide)]; exact b8
/-- the token that the reader stands on -/
def TK (L : Nat) (c m : St) (s a : Nat) : Prop :=
  s ≤ a ∧ a ≤ L ∧ c 4 5 = nI (clv (bya c L s)) ∧ c 4 6 = nI s ∧ c 4 7 = nI a ∧ m 0 69 = nI s ∧ m 0 70 = nI a ∧ (s < L → s < a) ∧ (clv (bya c L s) = 3 → a = s + 1)
theorem TK.le {L : Nat} {c m : St} {s a : Nat} (h : TK L c m s a) : s ≤ a := h.1
theorem TK.aL {L : Nat} {c m : St} {s a : Nat} (h : TK L c m s a) : a ≤ L := h.2.1
theorem TK.k {L : Nat} {c m : St} {s a : Nat} (h : TK L c m s a) : c 4 5 = nI (clv (bya c L s)) := h.2.2.1
theorem TK.cs {L : Nat} {c m : St} {s a : Nat} (h : TK L c m s a) : c 4 6 = nI s := h.2.2.2.1
theorem TK.ca {L : Nat} {c m : St} {s a : Nat} (h : TK L c m s a) : c 4 7 = nI a := h.2.2.2.2.1
theorem TK.ms {L : Nat} {c m : St} {s a : Nat} (h : TK L c m s a) : m 0 69 = nI s := h.2.2.2.2.2.1
theorem TK.ma {L : Nat} {c m : St} {s a : Nat} (h : TK L c m s a) : m 0 70 = nI a := h.2.2.2.2.2.2.1
theorem TK.ne {L : Nat} {c m : St} {s a : Nat} (h : TK L c m s a) : s < L → s < a := h.2.2.2.2.2.2.2.1
theorem TK.k3 {L : Nat} {c m : St} {s a : Nat} (h : TK L c m s a) : clv (bya c L s) = 3 → a = s + 1 := h.2.2.2.2.2.2.2.2
theorem bya_of {c c' : St} {L s : Nat} (h : c' 5 = c 5) : bya c' L s = bya c L s := by unfold bya; rw [h]
theorem TK.of {L : Nat} {c m c' m' : St} {s a : Nat} (h : TK L c m s a) (h5 : c' 5 = c 5) (h45 : c' 4 5 = c 4 5) (h46 : c' 4 6 = c 4 6) (h47 : c' 4 7 = c 4 7) (g9 : m' 0 69 = m 0 69) (g0 : m' 0 70 = m 0 70) : TK L c' m' s a := by
  obtain ⟨a1, a2, a3, a4, a5, a6, a7, a8, a9⟩ := h
  exact ⟨a1, a2, by rw [h45, bya_of h5]; exact a3, h46.trans a4, h47.trans a5, g9.trans a6, g0.trans a7, a8, by rw [bya_of h5]; exact a9⟩
theorem skip_l {c m : St} {L : Nat} (h3 : c 4 3 = nI L) (g3 : m 0 68 = nI L) (hL : L ≤ 200) (hb : ∀ k, k < L → c 5 k = m 41 k) : ∀ (d i n : Nat), i + d = L → d < n → ∃ s, i ≤ s ∧ s ≤ L ∧ (∀ J : St → Option St, lp (lb_f_Rx_nextToken_8 4 J) n (s2 c 4 6 (nI i)) = J (s2 c 4 6 (nI s))) ∧ (∀ J : St → Option St, lp (lb_m_nextToken_8 J) n (s2 m 0 69 (nI i)) = J (s2 m 0 69 (nI s))) := by
  intro d
  induction d with
  | zero =>
    intro i n h1 h2
    refine ⟨i, Nat.le_refl _, by omega, fun J => ?_, fun J => ?_⟩
    · rw [lp_s (by omega)]
      generalize lp (lb_f_Rx_nextToken_8 4 J) (n - 1) = ih
      unfold lb_f_Rx_nextToken_8
      rw [s2_k (by decide), s2_at, h3, if_pos (nI_le (by omega) (by omega))]
    · rw [lp_s (by omega)]
      generalize lp (lb_m_nextToken_8 J) (n - 1) = ih
      unfold lb_m_nextToken_8
      rw [s2_k (by decide), s2_at, g3, if_pos (nI_le (by omega) (by omega))]
  | succ d ihd =>
    intro i n h1 h2
    have hi : i < L := by omega
    have eb : f_Rx_byteAt (s2 c 4 6 (nI i)) 4 (nI i) = some (c 5 i) := by
      rw [byteAt_e (L := L) (by rw [s2_k (by decide)]; exact h3) hL (by omega)]
      unfold bya
      rw [if_pos hi, s2_ne (by decide)]
    by_cases hw : c 5 i = 32
    · obtain ⟨s, s1, s2', s3, s4⟩ := ihd (i + 1) (n - 1) (by omega) (by omega)
      refine ⟨s, by omega, s2', fun J => ?_, fun J => ?_⟩
      · rw [lp_s (by omega), ← s3 J]
        generalize lp (lb_f_Rx_nextToken_8 4 J) (n - 1) = ih
        unfold lb_f_Rx_nextToken_8
        rw [s2_k (by decide), s2_at, h3, if_neg (nI_ge hi (by omega)), bd_e eb, if_pos hw, Lt_e, nI_1, s2_ss]
      · rw [lp_s (by omega), ← s4 J]
        generalize lp (lb_m_nextToken_8 J) (n - 1) = ih
        have ek : (s2 m 0 69 (nI i)) 41 (Int32.toNatClampNeg (nI i)) = c 5 i := by rw [nI_clamp (by omega), s2_ne (by decide), hb i hi]
        unfold lb_m_nextToken_8
        rw [s2_k (by decide), s2_at, g3, if_neg (nI_ge hi (by omega)), Gd_t (Ix_n (by omega) (by decide)), ek, if_pos hw, Lt_e, nI_1, s2_ss]
    · refine ⟨i, Nat.le_refl _, by omega, fun J => ?_, fun J => ?_⟩
      · rw [lp_s (by omega)]
        generalize lp (lb_f_Rx_nextToken_8 4 J) (n - 1) = ih
        unfold lb_f_Rx_nextToken_8
        rw [s2_k (by decide), s2_at, h3, if_neg (nI_ge hi (by omega)), bd_e eb, if_neg hw]
      · rw [lp_s (by omega)]
        generalize lp (lb_m_nextToken_8 J) (n - 1) = ih
        have ek : (s2 m 0 69 (nI i)) 41 (Int32.toNatClampNeg (nI i)) = c 5 i := by rw [nI_clamp (by omega), s2_ne (by decide), hb i hi]
        unfold lb_m_nextToken_8
        rw [s2_k (by decide), s2_at, g3, if_neg (nI_ge hi (by omega)), Gd_t (Ix_n (by omega) (by decide)), ek, if_neg hw]
theorem ext_l {c m : St} {L K : Nat} (h3 : c 4 3 = nI L) (h5 : c 4 5 = nI K) (g3 : m 0 68 = nI L) (hL : L ≤ 200) (hK : K = 1 ∨ K = 2) (hb : ∀ k, k < L → c 5 k = m 41 k) : ∀ (d i n : Nat), i + d = L → d < n → ∃ s, i ≤ s ∧ s ≤ L ∧ (∀ J : St → Option St, lp (lb_f_Rx_nextToken_100 4 J) n (s2 c 4 7 (nI i)) = J (s2 c 4 7 (nI s))) ∧ (K = 1 → ∀ J : St → Option St, lp (lb_m_nextToken_100 J) n (s2 m 0 70 (nI i)) = J (s2 m 0 70 (nI s))) ∧ (K = 2 → ∀ J : St → Option St, lp (lb_m_nextToken_165 J) n (s2 m 0 70 (nI i)) = J (s2 m 0 70 (nI s))) := by
  intro d
  induction d with
  | zero =>
    intro i n h1 h2
    refine ⟨i, Nat.le_refl _, by omega, fun J => ?_, fun _ J => ?_, fun _ J => ?_⟩
    · rw [lp_s (by omega)]
      generalize lp (lb_f_Rx_nextToken_100 4 J) (n - 1) = ih
      unfold lb_f_Rx_nextToken_100
      rw [s2_k (by decide), s2_at, h3, if_pos (nI_le (by omega) (by omega))]
    · rw [lp_s (by omega)]
      generalize lp (lb_m_nextToken_100 J) (n - 1) = ih
      unfold lb_m_nextToken_100
      rw [s2_k (by decide), s2_at, g3, if_pos (nI_le (by omega) (by omega))]
    · rw [lp_s (by omega)]
      generalize lp (lb_m_nextToken_165 J) (n - 1) = ih
      unfold lb_m_nextToken_165
      rw [s2_k (by decide), s2_at, g3, if_pos (nI_le (by omega) (by omega))]
  | succ d ihd =>
    intro i n h1 h2
    have hi : i < L := by omega
    have eb : f_Rx_byteAt (s2 c 4 7 (nI i)) 4 (nI i) = some (c 5 i) := by
      rw [byteAt_e (L := L) (by rw [s2_k (by decide)]; exact h3) hL (by omega)]
      unfold bya
      rw [if_pos hi, s2_ne (by decide)]
    have ek : (s2 m 0 70 (nI i)) 41 (Int32.toNatClampNeg (nI i)) = c 5 i := by rw [nI_clamp (by omega), s2_ne (by decide), hb i hi]
    have k4 := clv_lt (c 5 i)
    have e5 : (s2 c 4 7 (nI i)) 4 5 = nI K := by rw [s2_k (by decide)]; exact h5
    by_cases hw : clv (c 5 i) = K
    · obtain ⟨s, s1, s2', s3, s4, s5⟩ := ihd (i + 1) (n - 1) (by omega) (by omega)
      refine ⟨s, by omega, s2', fun J => ?_, fun q J => ?_, fun q J => ?_⟩
      · rw [lp_s (by omega), ← s3 J]
        generalize lp (lb_f_Rx_nextToken_100 4 J) (n - 1) = ih
        unfold lb_f_Rx_nextToken_100
        rw [s2_k (show (3 : Nat) ≠ 7 by decide), s2_at, h3, if_neg (nI_ge hi (by omega)), bd_e eb, bd_e (classOf_e _), e5, if_pos (by rw [hw]), Lt_e, nI_1, s2_ss]
      · rw [lp_s (by omega), ← s4 q J]
        generalize lp (lb_m_nextToken_100 J) (n - 1) = ih
        unfold lb_m_nextToken_100
        rw [s2_k (by decide), s2_at, g3, if_neg (nI_ge hi (by omega)), Gd_t (Ix_n (by omega) (by decide)), ek, bd_e (isCap_e _), if_pos (hw.trans q), if_neg n10, Lt_e, nI_1, s2_ss]
      · rw [lp_s (by omega), ← s5 q J]
        generalize lp (lb_m_nextToken_165 J) (n - 1) = ih
        unfold lb_m_nextToken_165
        rw [s2_k (by decide), s2_at, g3, if_neg (nI_ge hi (by omega)), Gd_t (Ix_n (by omega) (by decide)), ek, bd_e (isDig_e _), if_pos (hw.trans q), if_neg n10, Lt_e, nI_1, s2_ss]
    · refine ⟨i, Nat.le_refl _, by omega, fun J => ?_, fun q J => ?_, fun q J => ?_⟩
      · rw [lp_s (by omega)]
        generalize lp (lb_f_Rx_nextToken_100 4 J) (n - 1) = ih
        unfold lb_f_Rx_nextToken_100
        rw [s2_k (show (3 : Nat) ≠ 7 by decide), s2_at, h3, if_neg (nI_ge hi (by omega)), bd_e eb, bd_e (classOf_e _), e5, if_neg (fun q => hw ((nI_eq (by omega) (by omega)).mp q))]
      · rw [lp_s (by omega)]
        generalize lp (lb_m_nextToken_100 J) (n - 1) = ih
        unfold lb_m_nextToken_100
        rw [s2_k (by decide), s2_at, g3, if_neg (nI_ge hi (by omega)), Gd_t (Ix_n (by omega) (by decide)), ek, bd_e (isCap_e _), if_neg (show ¬ clv (c 5 i) = 1 from fun x => hw (x.trans q.symm)), if_pos rfl]
      · rw [lp_s (by omega)]
        generalize lp (lb_m_nextToken_165 J) (n - 1) = ih
        unfold lb_m_nextToken_165
        rw [s2_k (by decide), s2_at, g3, if_neg (nI_ge hi (by omega)), Gd_t (Ix_n (by omega) (by decide)), ek, bd_e (isDig_e _), if_neg (show ¬ clv (c 5 i) = 2 from fun x => hw (x.trans q.symm)), if_pos rfl]
