/-! the text: a leg -/

theorem nI_m1 {r : Nat} (h : r < 2 ^ 31) : ¬ nI r = -1 := fun q => by
  have e := congrArg Int32.toInt q
  rw [nI_toInt h, show (-1 : Int32).toInt = -1 by decide] at e
  omega
theorem end_e {c0 m0 : St} {L F n : Nat} {c m : St} {s a : Nat} (h : TS c0 m0 L F n c m) (k : TK L c m s a) : (clv (bya c L s) = 0 ↔ s = L) ∧ (clv (bya c L s) = 0 ∨ bya c L s = 59 → f_Rx_atLegEnd c 4 = some 1) ∧ (¬ (clv (bya c L s) = 0 ∨ bya c L s = 59) → f_Rx_atLegEnd c 4 = some 0) := by
  have hL := h.B.2.1
  have ha := k.aL
  have hle := k.le
  have k4 := clv_lt (bya c L s)
  have hk := k.k
  have hcs := k.cs
  have hb := h.b (s := s) (by omega)
  refine ⟨⟨fun q => ?_, fun q => ?_⟩, fun q => ?_, fun q => ?_⟩
  · rcases (show s = L ∨ s < L by omega) with z | z
    · exact z
    · rw [bya_in z] at q
      exact absurd q (clv_b (h.B.2.2.2.1 s z).2.1)
  · rw [bya_out (by omega)]; decide
  · unfold f_Rx_atLegEnd
    rw [Jn_e, Jn_e, hk]
    by_cases z : clv (bya c L s) = 0
    · rw [if_pos (show nI (clv (bya c L s)) = 0 by rw [z]; rfl)]; first | exact Gd_t g0 | exact Gd_t g1
    · rw [if_neg (kn_ne (j := 0) (pj := 0) (by omega) rfl (by decide) z), hcs, bd_e hb, if_pos (q.resolve_left z)]; first | exact Gd_t g0 | exact Gd_t g1
  · unfold f_Rx_atLegEnd
    rw [Jn_e, Jn_e, hk, if_neg (kn_ne (j := 0) (pj := 0) (by omega) rfl (by decide) (fun z => q (Or.inl z))), hcs, bd_e hb, if_neg (fun z => q (Or.inr z))]; first | exact Gd_t g0 | exact Gd_t g1
theorem attr_no {c0 m0 : St} {L F n : Nat} {c m : St} {s a : Nat} {p : Int32} (h : TS c0 m0 L F n c m) (k : TK L c m s a) (hA : ¬ (a - s = 1 ∧ isA (bya c L s))) : f_Rx_readAttribute c 4 p = some (0, c) := by
  have ha := k.aL
  have hle := k.le
  have hL := h.B.2.1
  unfold f_Rx_readAttribute
  rw [bd_e (TS.tl k), Jn_e, k.cs]
  by_cases q : a - s = 1
  · rw [if_pos (show nI (a - s) = 1 by rw [q]; rfl), bd_e (h.b (by omega))]
    try dsimp only
    rw [Jn_e]
    try dsimp only
    rw [six' (fun z => hA ⟨q, z⟩)]
  · rw [if_neg (kn_ne (j := 1) (pj := 1) (by omega) rfl (by decide) q)]
    try dsimp only
    rw [Jn_e]
    try dsimp only
    rw [six' (show ¬ isA (-1) by unfold isA; decide)]
def AT (c0 m0 : St) (L F n k0 s : Nat) (x : (St → Option (Int32 × St)) → (St → Option (Int32 × St)) → Option (Int32 × St)) (y : (Int32 → St → Option (Int32 × St)) → Option (Int32 × St)) : Prop :=
  (∃ (c' m' : St) (z : Nat), (∀ J2 J4, x J2 J4 = J2 c') ∧ (∀ J, y J = J 0 m') ∧ TS c0 m0 L F n c' m' ∧ c' 4 6 = nI z ∧ m' 0 69 = nI z ∧ z ≤ L) ∨
  (∃ (c' m' : St) (s' a' : Nat) (w w' : Nat → Int32), (∀ J2 J4, x J2 J4 = J4 c') ∧ (∀ J, y J = J 1 m') ∧ TG c0 m0 L F n c' m' s' a' w w' ∧ WQ w w' ∧ KQ m0 F k0 w w' ∧ (clv (bya c' L s') = 0 ∨ bya c' L s' = 59) ∧ s ≤ s') ∨
  (∃ (c' m' : St) (s' a' : Nat), (∀ J2 J4, x J2 J4 = J2 c') ∧ (∀ J, y J = J 1 m') ∧ TS c0 m0 L F n c' m' ∧ TK L c' m' s' a' ∧ ¬ (clv (bya c' L s') = 0 ∨ bya c' L s' = 59))
theorem at_l {c0 m0 : St} {L F n k0 : Nat} (hn : n < 12) : ∀ (d many N N' : Nat) (c m : St) (s a : Nat) (w w' : Nat → Int32), TG c0 m0 L F n c m s a w w' → WQ w w' → KQ m0 F k0 w w' → many ≤ s → L - s ≤ d → d + 2 < N → d + 2 < N' →
    AT c0 m0 L F n k0 s (fun J2 J4 => lp (lb_f_Rx_readAttributes_2 4 (nI n) J2 J4) N (nI many, c)) (fun J => lp (lb_m_readsLeg_91 J) N' (1, m)) := by
  intro d
  induction d with
  | zero =>
    intro many N N' c m s a w w' g hw hq h1 h2 h3 h4
    obtain ⟨h, k, r1, r2⟩ := g
    have hL := h.B.2.1
    have ha := k.aL
    have hle := k.le
    obtain ⟨e1, e2, e3⟩ := end_e h k
    have hE : clv (bya c L s) = 0 := e1.mpr (by omega)
    right; left
    refine ⟨c, m, s, a, w, w', fun J2 J4 => ?_, fun J => ?_, ⟨h, k, r1, r2⟩, hw, hq, Or.inl hE, Nat.le_refl _⟩
    · dsimp only
      rw [lp_s (by omega)]
      generalize lp (lb_f_Rx_readAttributes_2 4 (nI n) J2 J4) (N - 1) = ih
      unfold lb_f_Rx_readAttributes_2
      try dsimp only
      by_cases q : 200 ≤ many
      · rw [if_pos (show (200 : Int32) ≤ nI many from nI_le (a := 200) q (by omega))]
      · rw [if_neg (show ¬ (200 : Int32) ≤ nI many from nI_ge (b := 200) (by omega) (by decide)), bd_e (e2 (Or.inl hE)), if_neg n10]
    · dsimp only
      rw [lp_s (by omega)]
      generalize lp (lb_m_readsLeg_91 J) (N' - 1) = ih
      unfold lb_m_readsLeg_91
      try dsimp only
      rw [if_neg n10, bd_e (att_n h k (fun q => by have := e1.mp hE; omega)), if_pos rfl]
  | succ d ihd =>
    intro many N N' c m s a w w' g hw hq h1 h2 h3 h4
    obtain ⟨h, k, r1, r2⟩ := g
    have hL := h.B.2.1
    have ha := k.aL
    have hle := k.le
    obtain ⟨e1, e2, e3⟩ := end_e h k
    by_cases hE : clv (bya c L s) = 0 ∨ bya c L s = 59
    · right; left
      have nA : ¬ (a - s = 1 ∧ isA (bya c L s)) := by
        rintro ⟨q1, q2⟩
        rcases hE with q | q
        · have := e1.mp q; omega
        · rw [q] at q2; revert q2; unfold isA; decide
      refine ⟨c, m, s, a, w, w', fun J2 J4 => ?_, fun J => ?_, ⟨h, k, r1, r2⟩, hw, hq, hE, Nat.le_refl _⟩
      · dsimp only
        rw [lp_s (by omega)]
        generalize lp (lb_f_Rx_readAttributes_2 4 (nI n) J2 J4) (N - 1) = ih
        unfold lb_f_Rx_readAttributes_2
        try dsimp only
        by_cases q : 200 ≤ many
        · rw [if_pos (show (200 : Int32) ≤ nI many from nI_le (a := 200) q (by omega))]
        · rw [if_neg (show ¬ (200 : Int32) ≤ nI many from nI_ge (b := 200) (by omega) (by decide)), bd_e (e2 hE), if_neg n10]
      · dsimp only
        rw [lp_s (by omega)]
        generalize lp (lb_m_readsLeg_91 J) (N' - 1) = ih
        unfold lb_m_readsLeg_91
        try dsimp only
        rw [if_neg n10, bd_e (att_n h k nA), if_pos rfl]
    · have hs : s < L := by
        rcases (show s = L ∨ s < L by omega) with z | z
        · exact absurd (Or.inl (e1.mpr z)) hE
        · exact z
      have m200 : ¬ (200 : Int32) ≤ nI many := nI_ge (b := 200) (by omega) (by decide)
      have cst : ∀ J2 J4, lp (lb_f_Rx_readAttributes_2 4 (nI n) J2 J4) N (nI many, c) = Option.bind (f_Rx_readAttribute c 4 (nI n)) fun x10 => if (x10.1 : Int32) = 0 then J2 x10.2 else lp (lb_f_Rx_readAttributes_2 4 (nI n) J2 J4) (N - 1) (nI (many + 1), x10.2) := fun J2 J4 => by
        rw [lp_s (by omega)]
        generalize lp (lb_f_Rx_readAttributes_2 4 (nI n) J2 J4) (N - 1) = ih
        unfold lb_f_Rx_readAttributes_2
        try dsimp only
        rw [if_neg m200, bd_e (e3 hE), if_pos rfl, nI_1]
        rfl
      have mst : ∀ J, lp (lb_m_readsLeg_91 J) N' (1, m) = Option.bind (m_isAttribute m) fun x18 => if (x18 : Int32) = 0 then J 1 m else Option.bind (m_readsAttribute m) fun x19 => lp (lb_m_readsLeg_91 J) (N' - 1) (x19.1, x19.2) := fun J => by
        rw [lp_s (by omega)]
        generalize lp (lb_m_readsLeg_91 J) (N' - 1) = ih
        unfold lb_m_readsLeg_91
        try dsimp only
        rw [if_neg n10]
      by_cases hA : a - s = 1 ∧ isA (bya c L s)
      · rcases attr_lock ⟨h, k, r1, r2⟩ hn hw hq hA.1 hA.2 with ⟨c', m', z, b1, b2, b3⟩ | ⟨c', m', s', a', u, u', b1, b2, b3, b4, b5, b6⟩
        · left
          refine ⟨c', m', z, fun J2 J4 => ?_, fun J => ?_, b3⟩
          · dsimp only
            rw [cst, bd_e b1, if_pos rfl]
          · dsimp only
            rw [mst, bd_e (att_y h k hA.1 hA.2), if_neg n10, bd_e b2, lp_s (by omega)]
            generalize lp (lb_m_readsLeg_91 J) (N' - 1 - 1) = ih
            unfold lb_m_readsLeg_91
            try dsimp only
            rw [if_pos rfl]
        · have ih := ihd (many + 1) (N - 1) (N' - 1) c' m' s' a' u u' b3 b5 b6 (by omega) (by omega) (by omega) (by omega)
          have ex : ∀ J2 J4, lp (lb_f_Rx_readAttributes_2 4 (nI n) J2 J4) N (nI many, c) = lp (lb_f_Rx_readAttributes_2 4 (nI n) J2 J4) (N - 1) (nI (many + 1), c') := fun J2 J4 => by rw [cst, bd_e b1, if_neg n10]
          have ey : ∀ J, lp (lb_m_readsLeg_91 J) N' (1, m) = lp (lb_m_readsLeg_91 J) (N' - 1) (1, m') := fun J => by rw [mst, bd_e (att_y h k hA.1 hA.2), if_neg n10, bd_e b2]
          rcases ih with ⟨C, M, z, x1, x2, x3⟩ | ⟨C, M, z, z', v, v', x1, x2, x3, x4, x5, x6, x7⟩ | ⟨C, M, z, z', x1, x2, x3⟩
          · exact Or.inl ⟨C, M, z, fun J2 J4 => (ex J2 J4).trans (x1 J2 J4), fun J => (ey J).trans (x2 J), x3⟩
          · exact Or.inr (Or.inl ⟨C, M, z, z', v, v', fun J2 J4 => (ex J2 J4).trans (x1 J2 J4), fun J => (ey J).trans (x2 J), x3, x4, x5, x6, by omega⟩)
          · exact Or.inr (Or.inr ⟨C, M, z, z', fun J2 J4 => (ex J2 J4).trans (x1 J2 J4), fun J => (ey J).trans (x2 J), x3⟩)
      · right; right
        refine ⟨c, m, s, a, fun J2 J4 => ?_, fun J => ?_, h, k, hE⟩
        · dsimp only
          rw [cst, bd_e (attr_no h k hA), if_pos rfl]
        · dsimp only
          rw [mst, bd_e (att_n h k hA), if_pos rfl]
def zrm (m : St) (n j : Nat) : St := fun a k => if a = 43 ∧ 14 * n ≤ k ∧ k < 14 * n + j then 0 else m a k
theorem zrm_s {m : St} {n j : Nat} : s2 (zrm m n j) 43 (14 * n + j) 0 = zrm m n (j + 1) := by
  funext a k
  by_cases h : a = 43 ∧ k = 14 * n + j
  · obtain ⟨rfl, rfl⟩ := h
    rw [s2_at]
    unfold zrm
    rw [if_pos ⟨rfl, by omega, by omega⟩]
  · rw [s2_nk (by omega)]
    unfold zrm
    by_cases q : a = 43 ∧ 14 * n ≤ k ∧ k < 14 * n + j
    · rw [if_pos q, if_pos (by omega)]
    · rw [if_neg q, if_neg (by omega)]
theorem zrm_ne {m : St} {n j x : Nat} (h : x ≠ 43) : zrm m n j x = m x := by
  funext k
  unfold zrm
  rw [if_neg (fun q => h q.1)]
theorem zrm_l {m : St} {n : Nat} (h : m 0 73 = nI n) (hn : n < 12) {J : St → Option (Int32 × St)} : ∀ (d j N : Nat), j + d = 14 → d < N → lp (lb_m_readsLeg_13 J) N (nI j, zrm m n j) = J (zrm m n 14) := by
  intro d
  induction d with
  | zero =>
    intro j N h1 h2
    rw [lp_s (by omega)]
    generalize lp (lb_m_readsLeg_13 J) (N - 1) = ih
    unfold lb_m_readsLeg_13
    try dsimp only
    rw [show j = 14 by omega, if_pos (show (14 : Int32) ≤ nI 14 by decide)]
  | succ d ihd =>
    intro j N h1 h2
    rw [lp_s (by omega), ← ihd (j + 1) (N - 1) (by omega) (by omega)]
    generalize lp (lb_m_readsLeg_13 J) (N - 1) = ih
    unfold lb_m_readsLeg_13
    try dsimp only
    rw [if_neg (show ¬ (14 : Int32) ≤ nI j from nI_ge (b := 14) (by omega) (by decide)), Gd_t (kxg (m := zrm m n j) (j := j) (by rw [zrm_ne (by decide)]; exact h) hn (by omega) rfl).1, Lt_e, Lt_e, (kxg (m := zrm m n j) (j := j) (by rw [zrm_ne (by decide)]; exact h) hn (by omega) rfl).2, zrm_s, nI_1]
/-- the class reads a leg -/
def CLg (c : St) (n : Nat) (r : Int32) (c' : St) : Prop := (r = 0 ∧ f_Rx_readKind c 4 (nI n) = some (0, c')) ∨ ∃ c1, f_Rx_readKind c 4 (nI n) = some (1, c1) ∧ f_Rx_readAttributes c1 4 (nI n) = some (r, c')
def LG (c m : St) (L F n s : Nat) : Prop :=
  (∃ (c' m' : St) (z : Nat), CLg c n 0 c' ∧ m_readsLeg m = some (0, m') ∧ TS c m L F n c' m' ∧ c' 4 6 = nI z ∧ m' 0 69 = nI z ∧ z ≤ L) ∨
  (∃ (c' m' : St) (s' a' k0 : Nat) (w w' : Nat → Int32), CLg c n 1 c' ∧ m_readsLeg m = some (1, s2 m' 0 73 (nI (n + 1))) ∧ TG c m L F n c' m' s' a' w w' ∧ WQ w w' ∧ KQ m F k0 w w' ∧ k0 < 8 ∧ (clv (bya c' L s') = 0 ∨ bya c' L s' = 59) ∧ s < s') ∨
  (∃ (c' m' : St) (s' a' : Nat), CLg c n 0 c' ∧ m_readsLeg m = some (1, s2 m' 0 73 (nI (n + 1))) ∧ TS c m L F n c' m' ∧ TK L c' m' s' a' ∧ ¬ (clv (bya c' L s') = 0 ∨ bya c' L s' = 59))
theorem leg_lock {c m : St} {L F n s a : Nat} (h : TS c m L F n c m) (k : TK L c m s a) (hn : n < 12) : LG c m L F n s := by
  have hL := h.B.2.1
  have ha := k.aL
  have hle := k.le
  rcases kind_lock h k with ⟨a1, a2⟩ | ⟨r, r8, a1, a2, hs⟩
  · left
    refine ⟨c, m, s, Or.inl ⟨rfl, ?_⟩, ?_, h, k.cs, k.ms, by omega⟩
    · unfold f_Rx_readKind
      rw [bd_e a1, if_pos rfl]
    · unfold m_readsLeg
      rw [bd_e a2, if_neg (by decide)]
  · obtain ⟨Z, eZ⟩ : ∃ Z, Z = zrm m n 14 := ⟨_, rfl⟩
    obtain ⟨M3, eM⟩ : ∃ M, M = s2 (s2 (s2 (s2 Z 43 (14 * n + 0) (nI r)) 43 (14 * n + 11) (999 : Int32)) 43 (14 * n + 9) (0 : Int32)) 43 (14 * n + 10) (450 : Int32) := ⟨_, rfl⟩
    have Zx : ∀ x, x ≠ 43 → Z x = m x := fun x q => by rw [eZ, zrm_ne q]
    have Mx : ∀ x, x ≠ 43 → M3 x = m x := fun x q => by rw [eM, s2_ne q, s2_ne q, s2_ne q, s2_ne q, Zx x q]
    have Z73 : Z 0 73 = nI n := by rw [Zx 0 (by decide)]; exact h.n
    have hM : TS c m L F n c M3 := h.st h.D (fun _ _ _ => rfl) rfl (fun _ _ => rfl) (fun x _ q => Mx x q) (fun k _ => by rw [Mx 0 (by decide)]) (by rw [Mx 0 (by decide)]) (fun k p => by
      rw [eM, s2_k (by omega), s2_k (by omega), s2_k (by omega), s2_k (by omega), eZ]
      unfold zrm
      rw [if_neg (by omega)])
    have RM3 : RM M3 n (plm (nI r)) := fun j hj => by
      unfold plm
      rw [eM]
      by_cases j0 : j = 0
      · rw [if_pos j0, j0, s2_k (by omega), s2_k (by omega), s2_k (by omega), s2_at]
      · rw [if_neg j0]
        by_cases j10 : j = 10
        · rw [if_pos j10, j10, s2_at]
        · rw [if_neg j10]
          by_cases j11 : j = 11
          · rw [if_pos j11, j11, s2_k (by omega), s2_k (by omega), s2_at]
          · rw [if_neg j11, s2_k (by omega)]
            by_cases j9 : j = 9
            · rw [j9, s2_at]
            · rw [s2_k (by omega), s2_k (by omega), s2_k (by omega), eZ]
              unfold zrm
              rw [if_pos ⟨rfl, by omega, by omega⟩]
    obtain ⟨c1, m1, s1, a1', t1, t2, t3, t4, t5, t6, t7, t8, t9⟩ := nt_lock hM k.ca (by rw [Mx 0 (by decide)]; exact k.ma) ha
    obtain ⟨c2, p1, p2, p3, p4⟩ := plain_c (kd := nI r) t3.D.2.1 (p := 7) rfl (by decide) hn
    have hsa := k.ne hs
    have T2 : TS c m L F n c2 m1 := t3.st (t3.D.of (fun t j ht => by rw [p2 t (fun e => by rw [e] at ht; exact absurd ht (by decide))])) (fun x _ q => p2 x q) (by rw [p2 4 (by decide)]) (fun k q => p3 k (by omega)) (fun _ _ _ => rfl) (fun _ _ => rfl) rfl (fun _ _ => rfl)
    have K2 : TK L c2 m1 s1 a1' := t4.of (p2 5 (by decide)) (by rw [p2 4 (by decide)]) (by rw [p2 4 (by decide)]) (by rw [p2 4 (by decide)]) rfl rfl
    have g2 : TG c m L F n c2 m1 s1 a1' (pln (nI r)) (plm (nI r)) := ⟨T2, K2, fun j hj => p4 j hj, RM3.of t7⟩
    have em : m_readsLeg m = Option.bind (m_readsKind m1 (nI r)) fun x8 => Jn (fun (x9 : Int32) (σ10 : St) => Jn (fun (x12 : Int32) => Lt (s2 σ10 0 73 ((σ10 0 73) + x12)) fun σ14 => Gd ((x9 : Int32) &&& 1 = x9) <| some (x9, σ14)) fun J13 => if (x9 : Int32) = 0 then J13 (0 : Int32) else J13 (1 : Int32)) fun J11 => lp (lb_m_readsLeg_91 J11) 4000 (x8.1, x8.2) := by
      have h0 : zrm m n 0 = m := by
        funext a k
        unfold zrm
        rw [if_neg (by omega)]
      have z := fun J => zrm_l (J := J) h.n hn 14 0 4000 (by decide) (by decide)
      rw [h0] at z
      unfold m_readsLeg
      rw [bd_e a2, if_pos (nI_pos' (by omega)), Jn_e]
      refine (z (fun σ2 => _)).trans ?_
      try dsimp only
      rw [← eZ, Gd_t (kxg (j := 0) (pj := 0) Z73 hn (by decide) rfl).1, Lt_e, (kxg (j := 0) (pj := 0) Z73 hn (by decide) rfl).2, Gd_t (kxg (j := 11) (pj := 11) (m := s2 Z 43 (14 * n + 0) (nI r)) (by rw [s2_ne (by decide)]; exact Z73) hn (by decide) rfl).1, Lt_e, (kxg (j := 11) (pj := 11) (m := s2 Z 43 (14 * n + 0) (nI r)) (by rw [s2_ne (by decide)]; exact Z73) hn (by decide) rfl).2, bd_e (win_m (n := n) (by rw [s2_ne (by decide), s2_ne (by decide)]; exact Z73) hn), ← eM, bd_e t2]
    have ec : ∃ x : Option (Int32 × St), f_Rx_readKind c 4 (nI n) = x ∧ OK3 c m L F n s (fun u u' => WQ u u' ∧ KQ m F r u u') x (m_readsKind m1 (nI r)) := by
      refine ⟨_, rfl, ?_⟩
      unfold f_Rx_readKind m_readsKind
      rw [bd_e a1, if_neg (nI_m1 (by omega)), bd_e t1, show rc 4 2 = 6 from rfl, bd_e p1, Jn_e]
      by_cases hf : hfx r
      · have n4 : r ≠ 4 := by unfold hfx at hf; omega
        have n5 : r ≠ 5 := by unfold hfx at hf; omega
        have n6 : r ≠ 6 := by unfold hfx at hf; omega
        rw [bd_e ((hasFix_e (show r < 9 by omega)).1 hf), Jn_e, if_neg n10, if_neg (kn_ne (j := 4) (pj := 4) (by omega) rfl (by decide) n4), if_neg (kn_ne (j := 5) (pj := 5) (by omega) rfl (by decide) n5), if_neg (kn_ne (j := 6) (pj := 6) (by omega) rfl (by decide) n6)]
        rcases fix_lock g2 hn with ⟨c3, m3, z, b1, b2, b3⟩ | ⟨c3, m3, s3, a3, u, u', b1, b2, b3, b4, f, f1, rfl, rfl⟩
        · left
          exact ⟨c3, m3, z, by rw [bd_e b1, if_pos rfl], by rw [bd_e b2, if_pos rfl], b3⟩
        · rw [bd_e b1, bd_e b2, if_neg n10, if_neg n10]
          refine tl1 b3 hn r8 (by omega) ?_ ?_
          · intro j hj
            have j2 := hj.1
            have j7 := hj.2.2.1
            have j8 := hj.2.2.2
            rw [ud_ne j8, ud_ne j7, ud_ne (by omega), ud_ne (by omega)]
            exact WQ_pl (nI r) j hj
          · refine ⟨rfl, rfl, fun _ => ⟨f, f1, rfl, rfl, rfl, rfl⟩, fun q => absurd hf q⟩
      · rw [bd_e ((hasFix_e (show r < 9 by omega)).2 hf), Jn_e, if_pos rfl]
        have hr : r = 4 ∨ r = 5 ∨ r = 6 := by unfold hfx at hf; omega
        have fin : OK3 c m L F n s (fun u u' => WQ u u' ∧ KQ m F r u u') (tlC1 c2 n r) (tlM1 m1 r) := tl1 g2 hn r8 (by omega) (WQ_pl _) ⟨rfl, rfl, fun q => absurd q hf, fun _ => rfl⟩
        by_cases q4 : r = 4
        · rw [if_pos (show nI r = 4 by rw [q4]; rfl)]
          exact fin
        · rw [if_neg (kn_ne (j := 4) (pj := 4) (by omega) rfl (by decide) q4)]
          by_cases q5 : r = 5
          · rw [if_pos (show nI r = 5 by rw [q5]; rfl)]
            exact fin
          · rw [if_neg (kn_ne (j := 5) (pj := 5) (by omega) rfl (by decide) q5), if_pos (show nI r = 6 by rw [show r = 6 by omega]; rfl)]
            exact fin
    obtain ⟨x, ex, hx⟩ := ec
    rcases hx with ⟨c3, m3, z, b1, b2, b3, b4, b5, b6⟩ | ⟨c3, m3, s3, a3, u, u', b1, b2, b3, b4, b5, b6⟩
    · left
      refine ⟨c3, s2 m3 0 73 (nI n), z, Or.inl ⟨rfl, ex.trans b1⟩, ?_, b3.st b3.D (fun _ _ _ => rfl) rfl (fun _ _ => rfl) (fun x q _ => s2_ne q) (fun k q => s2_k (by omega)) (by rw [s2_at, b3.n]) (fun k _ => by rw [s2_ne (by decide)]), b4, by rw [s2_k (by decide)]; exact b5, b6⟩
      rw [em, bd_e b2, Jn_e, lp_s (by decide)]
      generalize lp (lb_m_readsLeg_91 _) _ = ih
      unfold lb_m_readsLeg_91
      try dsimp only
      rw [if_pos rfl, Jn_e, if_pos rfl]
      try dsimp only
      rw [Lt_e, Gd_t g0, b3.n, Int32.add_zero]
    · have b3' := b3
      obtain ⟨h3, k3, -, -⟩ := b3
      have at0 := at_l (c0 := c) (m0 := m) (k0 := r) hn 200 0 4000 4000 c3 m3 s3 a3 u u' b3' b5 b6 (by omega) (by omega) (by decide) (by decide)
      have mfin : ∀ (M : St), TS c m L F n c3 m3 → M 0 73 = nI n → (Jn (fun (x12 : Int32) => Lt (s2 M 0 73 ((M 0 73) + x12)) fun σ14 => Gd ((1 : Int32) &&& 1 = 1) <| some ((1 : Int32), σ14)) fun J13 => if (1 : Int32) = 0 then J13 (0 : Int32) else J13 (1 : Int32)) = some ((1 : Int32), s2 M 0 73 (nI (n + 1))) := fun M _ e => by
        rw [Jn_e, if_neg n10]
        try dsimp only
        rw [Lt_e, Gd_t g1, e, nI_1]
      rcases at0 with ⟨C, M, z, x1, x2, x3, x4, x5, x6⟩ | ⟨C, M, z, z', v, v', x1, x2, x3, x4, x5, x6, x7⟩ | ⟨C, M, z, z', x1, x2, x3, x4, x5⟩
      · left
        refine ⟨C, s2 M 0 73 (nI n), z, Or.inr ⟨c3, ex.trans b1, ?_⟩, ?_, x3.st x3.D (fun _ _ _ => rfl) rfl (fun _ _ => rfl) (fun x q _ => s2_ne q) (fun k q => s2_k (by omega)) (by rw [s2_at, x3.n]) (fun k _ => by rw [s2_ne (by decide)]), x4, by rw [s2_k (by decide)]; exact x5, x6⟩
        · unfold f_Rx_readAttributes
          rw [Jn_e, Jn_e]
          exact x1 _ _
        · rw [em, bd_e b2, Jn_e]
          refine (x2 _).trans ?_
          rw [Jn_e, if_pos rfl]
          try dsimp only
          rw [Lt_e, Gd_t g0, x3.n, Int32.add_zero]
      · right; left
        obtain ⟨e1, e2, e3⟩ := end_e x3.1 x3.2.1
        refine ⟨C, M, z, z', r, v, v', Or.inr ⟨c3, ex.trans b1, ?_⟩, ?_, x3, x4, x5, r8, x6, by omega⟩
        · unfold f_Rx_readAttributes
          rw [Jn_e, Jn_e]
          refine (x1 _ _).trans ?_
          rw [bd_e (e2 x6)]; first | exact Gd_t g0 | exact Gd_t g1
        · rw [em, bd_e b2, Jn_e]
          refine (x2 _).trans ?_
          exact mfin M h3 x3.1.n
      · right; right
        refine ⟨C, M, z, z', Or.inr ⟨c3, ex.trans b1, ?_⟩, ?_, x3, x4, x5⟩
        · unfold f_Rx_readAttributes
          rw [Jn_e, Jn_e]
          exact x1 _ _
        · rw [em, bd_e b2, Jn_e]
          refine (x2 _).trans ?_
          exact mfin M h3 x3.n
