/-! the text: rows of legs, numbers -/

def ud (w : Nat → Int32) (j : Nat) (v : Int32) : Nat → Int32 := fun k => if k = j then v else w k
theorem ud_at {w : Nat → Int32} {j : Nat} {v : Int32} : ud w j v j = v := if_pos rfl
theorem ud_ne {w : Nat → Int32} {j k : Nat} {v : Int32} (h : k ≠ j) : ud w j v k = w k := if_neg h
def RC (c : St) (i : Nat) (w : Nat → Int32) : Prop := ∀ j, j < 14 → c 7 (i * 14 + j) = w j
def RM (m : St) (i : Nat) (w : Nat → Int32) : Prop := ∀ j, j < 14 → m 43 (14 * i + j) = w j
theorem RC.of {c c' : St} {i : Nat} {w : Nat → Int32} (h : RC c i w) (e : c' 7 = c 7) : RC c' i w := fun j p => by rw [e]; exact h j p
theorem RM.of {m m' : St} {i : Nat} {w : Nat → Int32} (h : RM m i w) (e : m' 43 = m 43) : RM m' i w := fun j p => by rw [e]; exact h j p
theorem RC.set {c : St} {i j : Nat} {w : Nat → Int32} {v : Int32} (h : RC c i w) : RC (s2 c 7 (i * 14 + j) v) i (ud w j v) := fun k p => by
  by_cases e : k = j
  · rw [e, s2_at, ud_at]
  · rw [s2_k (by omega), ud_ne e]; exact h k p
theorem RM.set {m : St} {i j : Nat} {w : Nat → Int32} {v : Int32} (h : RM m i w) : RM (s2 m 43 (14 * i + j) v) i (ud w j v) := fun k p => by
  by_cases e : k = j
  · rw [e, s2_at, ud_at]
  · rw [s2_k (by omega), ud_ne e]; exact h k p
/-- the reader within leg n: rows w (the class's), w' (the reference's) -/
def TG (c0 m0 : St) (L F n : Nat) (c m : St) (s a : Nat) (w w' : Nat → Int32) : Prop := TS c0 m0 L F n c m ∧ TK L c m s a ∧ RC c n w ∧ RM m n w'
/-- both read on, or both fail at one place -/
def OK3 (c0 m0 : St) (L F n s0 : Nat) (Q : (Nat → Int32) → (Nat → Int32) → Prop) (x y : Option (Int32 × St)) : Prop :=
  (∃ (c' m' : St) (s : Nat), x = some (0, c') ∧ y = some (0, m') ∧ TS c0 m0 L F n c' m' ∧ c' 4 6 = nI s ∧ m' 0 69 = nI s ∧ s ≤ L) ∨
  (∃ (c' m' : St) (s a : Nat) (w w' : Nat → Int32), x = some (1, c') ∧ y = some (1, m') ∧ TG c0 m0 L F n c' m' s a w w' ∧ s0 < s ∧ Q w w')
theorem OK3.mono {c0 m0 : St} {L F n s0 s1 : Nat} {Q Q' : (Nat → Int32) → (Nat → Int32) → Prop} {x y : Option (Int32 × St)} (h : OK3 c0 m0 L F n s0 Q x y) (hs : s1 ≤ s0) (hQ : ∀ w w', Q w w' → Q' w w') : OK3 c0 m0 L F n s1 Q' x y := by
  rcases h with h | ⟨c', m', s, a, w, w', h1, h2, h3, h4, h5⟩
  · exact Or.inl h
  · exact Or.inr ⟨c', m', s, a, w, w', h1, h2, h3, by omega, hQ _ _ h5⟩
theorem TS.tl {L : Nat} {c m : St} {s a : Nat} (k : TK L c m s a) : f_Rx_tokenLength c 4 = some (nI (a - s)) := by
  unfold f_Rx_tokenLength
  rw [k.ca, k.cs, pk_sub k.le]
theorem TS.ml {L : Nat} {c m : St} {s a : Nat} (k : TK L c m s a) : m 0 70 - m 0 69 = nI (a - s) := by
  rw [k.ma, k.ms, pk_sub k.le]
theorem TS.b {c0 m0 : St} {L F n : Nat} {c m : St} {s : Nat} (h : TS c0 m0 L F n c m) (hs : s ≤ L) : f_Rx_byteAt c 4 (nI s) = some (bya c L s) := byteAt_e h.L h.B.2.1 (by have := h.B.2.1; omega)
theorem bya_in {c : St} {L s : Nat} (h : s < L) : bya c L s = c 5 s := if_pos h
theorem bya_out {c : St} {L s : Nat} (h : ¬ s < L) : bya c L s = -1 := if_neg h
theorem TS.mb {c0 m0 : St} {L F n : Nat} {c m : St} {s : Nat} (h : TS c0 m0 L F n c m) (hs : s < L) : m 41 s = bya c L s := by
  rw [bya_in hs, (h.B.2.2.2.1 s hs).1]
theorem val_l {c0 m0 : St} {L F n : Nat} {c m : St} {s a : Nat} (h : TS c0 m0 L F n c m) (k : TK L c m s a) : ∀ (d i N : Nat) (v : Int32), i + d = a → d < N → ∃ v' : Int32, (∀ J : Int32 → Option (Int32 × St), lp (lb_f_Rx_readNumber_27 c 4 J) N (v, nI i) = J v') ∧ (∀ J : Int32 → Option (Int32 × St), lp (lb_m_readsNumber_49 m J) N (v, nI i) = J v') := by
  have hL := h.B.2.1
  have ha := k.aL
  intro d
  induction d with
  | zero =>
    intro i N v h1 h2
    refine ⟨v, fun J => ?_, fun J => ?_⟩
    · rw [lp_s (by omega)]
      generalize lp (lb_f_Rx_readNumber_27 c 4 J) (N - 1) = ih
      unfold lb_f_Rx_readNumber_27
      try dsimp only
      rw [k.ca, if_pos (nI_le (by omega) (by omega))]
    · rw [lp_s (by omega)]
      generalize lp (lb_m_readsNumber_49 m J) (N - 1) = ih
      unfold lb_m_readsNumber_49
      try dsimp only
      rw [k.ma, if_pos (nI_le (by omega) (by omega))]
  | succ d ihd =>
    intro i N v h1 h2
    obtain ⟨v', x1, x2⟩ := ihd (i + 1) (N - 1) ((v * 10 + bya c L i) - 48) (by omega) (by omega)
    refine ⟨v', fun J => ?_, fun J => ?_⟩
    · rw [lp_s (by omega), ← x1 J]
      generalize lp (lb_f_Rx_readNumber_27 c 4 J) (N - 1) = ih
      unfold lb_f_Rx_readNumber_27
      try dsimp only
      rw [k.ca, if_neg (nI_ge (by omega) (by omega)), bd_e (h.b (by omega)), Lt_e, Lt_e, nI_1]
    · rw [lp_s (by omega), ← x2 J]
      generalize lp (lb_m_readsNumber_49 m J) (N - 1) = ih
      have ek : m 41 (Int32.toNatClampNeg (nI i)) = bya c L i := by rw [nI_clamp (by omega), h.mb (by omega)]
      unfold lb_m_readsNumber_49
      try dsimp only
      rw [k.ma, if_neg (nI_ge (by omega) (by omega)), Gd_t (Ix_n (by omega) (by decide)), Lt_e, Lt_e, nI_1, ek, Int32.mul_comm]
theorem put7 {c : St} {n j : Nat} {pj v : Int32} (hD : Dm c) (hn : n < 12) (hj : j < 14) (hp : pj = nI j) : f_Tb_put c 6 (nI n) pj v = some (s2 c 7 (n * 14 + j) v) := Tb_put' hD.2.1 rfl hp hn hj
theorem get7 {c : St} {n j : Nat} {pj : Int32} (hD : Dm c) (hn : n < 12) (hj : j < 14) (hp : pj = nI j) : f_Tb_get c 6 (nI n) pj = some (c 7 (n * 14 + j)) := Tb_get' hD.2.1 rfl hp hn hj
theorem num_lock {c0 m0 : St} {L F n j lo' hi' : Nat} {c m : St} {s a : Nat} {pj lo hi : Int32} (h : TS c0 m0 L F n c m) (k : TK L c m s a) (hn : n < 12) (hj : j < 14) (hp : pj = nI j) (hl : lo = nI lo') (hh : hi = nI hi') (hl1 : lo' < 1000) (hh1 : hi' < 1000) :
    (f_Rx_readNumber c 4 (nI n) pj lo hi = some (0, c) ∧ m_readsNumber m lo hi = some (0, m)) ∨
    ∃ (c' m' : St) (s' a' v : Nat), lo' ≤ v ∧ v ≤ hi' ∧ f_Rx_readNumber c 4 (nI n) pj lo hi = some (1, s2 c' 7 (n * 14 + j) (nI v)) ∧ m_readsNumber m lo hi = some (1, m') ∧ m' 0 74 = nI v ∧ TS c0 m0 L F n c' m' ∧ TK L c' m' s' a' ∧ c' 7 = c 7 ∧ m' 43 = m 43 ∧ s < s' := by
  have hL := h.B.2.1
  have ha := k.aL
  have hle := k.le
  have k4 := clv_lt (bya c L s)
  unfold f_Rx_readNumber m_readsNumber
  rw [Jn_e, Jn_e, k.k, k.ms, h.B.2.2.1]
  by_cases h2 : clv (bya c L s) = 2
  · have hs : s < L := by
      rcases (show s < L ∨ ¬ s < L by omega) with q | q
      · exact q
      · rw [bya_out q] at h2; exact absurd h2 (by decide)
    have ek : m 41 (Int32.toNatClampNeg (nI s)) = bya c L s := by rw [nI_clamp (by omega), h.mb (by omega)]
    rw [if_pos (show nI (clv (bya c L s)) = 2 by rw [h2]; rfl), bd_e (TS.tl k), if_neg (show ¬ nI s = nI L from fun q => by have := (nI_eq (by omega) (by omega)).mp q; omega), Gd_t (Ix_n (by omega) (by decide)), ek, bd_e (isDig_e _), if_pos h2, if_neg n10, k.ma, pk_sub hle]
    by_cases h3 : a - s ≤ 3
    · rw [if_pos (show nI (a - s) ≤ 3 from nI_le (b := 3) h3 (by decide)), if_pos (show nI (a - s) ≤ 3 from nI_le (b := 3) h3 (by decide)), Lt_e, Lt_e, Jn_e, Jn_e, k.cs]
      obtain ⟨v, v1, v2⟩ := val_l h k (a - s) s 4000 0 (by omega) (by omega)
      rw [v1, v2]
      try dsimp only
      rcases wi (p := v) (a := lo) (b := hi) (a' := lo.toInt64) (b' := hi.toInt64) (tw _) (tw _) with ⟨a1, a2, l1, l2⟩ | ⟨a1, a2⟩
      · right
        have e1 : lo.toInt = (lo' : Int) := by rw [hl, nI_toInt (by omega)]
        have e2 : hi.toInt = (hi' : Int) := by rw [hh, nI_toInt (by omega)]
        obtain ⟨u, rfl, u2⟩ : ∃ u : Nat, v = nI u ∧ (u : Int) = v.toInt := ⟨v.toInt.toNat, i2 (by rw [nI_toInt (by omega)]; omega), by omega⟩
        have h' : TS c0 m0 L F n c (s2 m 0 74 (nI u)) := h.st h.D (fun _ _ _ => rfl) rfl (fun _ _ => rfl) (fun x p _ => s2_ne p) (fun k p => s2_k (by omega)) (s2_k (by decide)) (fun k _ => by rw [s2_ne (by decide)])
        obtain ⟨c', m', s', a', t1, t2, t3, t4, t5, t6, t7, t8, t9⟩ := nt_lock h' k.ca (by rw [s2_k (by decide)]; exact k.ma) ha
        have hsa := k.ne hs
        refine ⟨c', m', s', a', u, by omega, by omega, ?_, ?_, by rw [t8, s2_at], t3, t4, t6, by rw [t7, s2_ne (by decide)], by omega⟩
        · rw [bd_e a1, if_neg n10, bd_e t1, show rc 4 2 = 6 from rfl, bd_e (put7 t3.D hn hj hp)]
        · rw [bd_e a2, if_neg n10, Lt_e, bd_e t2]
      · left
        rw [bd_e a1, bd_e a2, if_pos rfl, if_pos rfl]
        exact ⟨rfl, rfl⟩
    · left
      rw [if_neg (show ¬ nI (a - s) ≤ 3 from nI_ge (b := a - s) (a := 3) (by omega) (by omega)), if_neg (show ¬ nI (a - s) ≤ 3 from nI_ge (b := a - s) (a := 3) (by omega) (by omega))]
      exact ⟨rfl, rfl⟩
  · left
    rw [if_neg (show ¬ nI (clv (bya c L s)) = 2 from fun q => h2 ((nI_eq (b := 2) (by omega) (by decide)).mp q))]
    refine ⟨rfl, ?_⟩
    by_cases hs : s = L
    · rw [if_pos (by rw [hs])]
    · have ek : m 41 (Int32.toNatClampNeg (nI s)) = bya c L s := by rw [nI_clamp (by omega), h.mb (by omega)]
      rw [if_neg (show ¬ nI s = nI L from fun q => hs ((nI_eq (by omega) (by omega)).mp q)), Gd_t (Ix_n (by omega) (by decide)), ek, bd_e (isDig_e _), if_neg h2, if_pos rfl]
theorem kx {n j : Nat} {pj : Int32} (hp : pj = nI j) : (14 : Int32) * nI n + pj = nI (14 * n + j) := by
  rw [hp, show (14 : Int32) = nI 14 from rfl, pk_mul, nI_add]
theorem kxg {m : St} {n j : Nat} {pj : Int32} (h : m 0 73 = nI n) (hn : n < 12) (hj : j < 14) (hp : pj = nI j) : Ix ((14 : Int32) * m 0 73 + pj) 168 ∧ Int32.toNatClampNeg ((14 : Int32) * m 0 73 + pj) = 14 * n + j := by
  rw [h, kx hp]
  exact ⟨Ix_n (by omega) (by decide), nI_clamp (by omega)⟩
theorem into_lock {c0 m0 : St} {L F n j lo' hi' : Nat} {c m : St} {s a : Nat} {pj lo hi : Int32} {w w' : Nat → Int32} (g : TG c0 m0 L F n c m s a w w') (hn : n < 12) (hj : j < 14) (hp : pj = nI j) (hl : lo = nI lo') (hh : hi = nI hi') (hl1 : lo' < 1000) (hh1 : hi' < 1000) :
    OK3 c0 m0 L F n s (fun u u' => ∃ v : Nat, lo' ≤ v ∧ v ≤ hi' ∧ u = ud w j (nI v) ∧ u' = ud w' j (nI v)) (f_Rx_readNumber c 4 (nI n) pj lo hi) (m_readsInto m pj lo hi) := by
  obtain ⟨h, k, r1, r2⟩ := g
  unfold m_readsInto
  rcases num_lock h k hn hj hp hl hh hl1 hh1 with ⟨a1, a2⟩ | ⟨c', m', s', a', v, v1, v2, a1, a2, a3, a4, a5, a6, a7, a8⟩
  · left
    refine ⟨c, s2 m 43 (14 * n + j) 0, s, a1, ?_, h.st h.D (fun _ _ _ => rfl) rfl (fun _ _ => rfl) (fun x _ q => s2_ne q) (fun k _ => by rw [s2_ne (by decide)]) (by rw [s2_ne (by decide)]) (fun k p => s2_k (by omega)), k.cs, by rw [s2_ne (by decide)]; exact k.ms, by have := k.le; have := k.aL; omega⟩
    rw [bd_e a2, Jn_e, if_pos rfl]
    try dsimp only
    rw [Gd_t (kxg h.n hn hj hp).1, Lt_e, (kxg h.n hn hj hp).2, Gd_t (by decide)]
  · right
    refine ⟨s2 c' 7 (n * 14 + j) (nI v), s2 m' 43 (14 * n + j) (nI v), s', a', ud w j (nI v), ud w' j (nI v), a1, ?_, ⟨a4.st (a4.D.s2 (by decide)) (fun x _ q => s2_ne q) (by rw [s2_ne (by decide)]) (fun k p => s2_k (by omega)) (fun x _ q => s2_ne q) (fun k _ => by rw [s2_ne (by decide)]) (by rw [s2_ne (by decide)]) (fun k p => s2_k (by omega)), a5.of (s2_ne (by decide)) (by rw [s2_ne (by decide)]) (by rw [s2_ne (by decide)]) (by rw [s2_ne (by decide)]) (by rw [s2_ne (by decide)]) (by rw [s2_ne (by decide)]), (r1.of a6).set, (r2.of a7).set⟩, a8, v, v1, v2, rfl, rfl⟩
    rw [bd_e a2, Jn_e, if_neg n10]
    try dsimp only
    rw [Gd_t (kxg a4.n hn hj hp).1, Lt_e, (kxg a4.n hn hj hp).2, a3, Gd_t (by decide)]
