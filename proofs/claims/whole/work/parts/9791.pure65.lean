/-! the text: read whole -/

/-- the reference with the legs of the text in the place of its plans -/
def vt (m : St) : St := fun a k => if a = 1 then m 43 (k - 3) else m a k
theorem vt_1 {m : St} {i j : Nat} : vt m 1 (0 + 3 + 14 * i + j) = m 43 (14 * i + j) := by
  unfold vt
  rw [if_pos rfl, show 0 + 3 + 14 * i + j - 3 = 14 * i + j by omega]
theorem vt_ne {m : St} {x : Nat} (h : x ≠ 1) : vt m x = m x := by
  funext k
  unfold vt
  rw [if_neg h]
/-- a leg that was read -/
def DL (c m : St) (F i : Nat) : Prop := LegR c (vt m) 5 0 14200 i ∧ (c 7 (i * 14 + 13) = 0 ∧ m 43 (14 * i + 13) = 0) ∧ ∀ k : Nat, k < 9 → c 7 (i * 14 + 0) = nI k → k < 8 ∧ (hfx k → (c 7 (i * 14 + 1)).toInt < (F : Int))
theorem Nbf {x y : Int32} (h1 : -9999 ≤ x.toInt) (h2 : x.toInt ≤ 9999) (h3 : -9999 ≤ y.toInt) (h4 : y.toInt ≤ 9999) : Nb 14143 x y := by
  have a1 := (mulb (a := x.toInt) (b := x.toInt) (A := 9999) (B := 9999) h1 h2 h1 h2).2
  have a2 := (mulb (a := y.toInt) (b := y.toInt) (A := 9999) (B := 9999) h3 h4 h3 h4).2
  exact ⟨by decide, by omega⟩
theorem dl_of {c0 m0 : St} {L F n k0 : Nat} {c m : St} {s a : Nat} {w w' : Nat → Int32} (g : TG c0 m0 L F n c m s a w w') (hw : WQ w w') (hq : KQ m0 F k0 w w') (hk : k0 < 8) : DL c m F n := by
  obtain ⟨h, -, r1, r2⟩ := g
  obtain ⟨-, -, -, -, F1, F2, F3, F4⟩ := h.B
  have m3 : m 3 = m0 3 := h.2.2.2.2.2.2.1 3 (by decide) (by decide)
  have m4 : m 4 = m0 4 := h.2.2.2.2.2.2.1 4 (by decide) (by decide)
  obtain ⟨q1, q2, q3, q4⟩ := hq
  have col : ∀ j, clm j → ∃ v : Nat, (j = 11 → 100 ≤ v) ∧ v ≤ hjb j ∧ c (5 + 2) (n * 14 + j) = nI v ∧ vt m 1 (0 + 3 + 14 * n + j) = nI v := fun j hj => by
    obtain ⟨v, v1, v2, v3, v4⟩ := hw j hj
    exact ⟨v, v1, v2, (r1 j hj.2.1).trans v3, by rw [vt_1]; exact (r2 j hj.2.1).trans v4⟩
  have c1 : ∀ j B, clm j → hjb j = B → ∃ v : Nat, v ≤ B ∧ c (5 + 2) (n * 14 + j) = nI v ∧ vt m 1 (0 + 3 + 14 * n + j) = nI v := fun j B hj hB => by
    obtain ⟨v, v1, v2, v3⟩ := col j hj
    exact ⟨v, by rw [← hB]; exact v2, v3⟩
  have cc : ∀ j, 2 ≤ j → j < 14 → j ≠ 7 → j ≠ 8 → clm j := fun j p1 p2 p3 p4 => ⟨p1, p2, p3, p4⟩
  refine ⟨⟨⟨k0, by omega, (r1 0 (by decide)).trans q1, by rw [vt_1]; exact (r2 0 (by decide)).trans q2, fun hf => ?_, fun hf => (r1 1 (by decide)).trans (q4 hf), fun e => absurd e (by omega)⟩, c1 2 23 (cc 2 (by decide) (by decide) (by decide) (by decide)) rfl, c1 3 450 (cc 3 (by decide) (by decide) (by decide) (by decide)) rfl, c1 4 1 (cc 4 (by decide) (by decide) (by decide) (by decide)) rfl, c1 5 200 (cc 5 (by decide) (by decide) (by decide) (by decide)) rfl, c1 6 9 (cc 6 (by decide) (by decide) (by decide) (by decide)) rfl, c1 9 450 (cc 9 (by decide) (by decide) (by decide) (by decide)) rfl, c1 10 450 (cc 10 (by decide) (by decide) (by decide) (by decide)) rfl, ?_, c1 12 1 (cc 12 (by decide) (by decide) (by decide) (by decide)) rfl, ?_⟩, ?_, ?_⟩
  · obtain ⟨f, f1, f2, f3, f4, f5⟩ := q3 hf
    obtain ⟨x1, x2, x3, x4, x5, x6⟩ := F4 f f1
    rw [vt_ne (show (3 : Nat) ≠ 1 by decide), vt_ne (show (4 : Nat) ≠ 1 by decide)]
    exact ⟨f, F, f1, F1, trivial, (r1 1 (by decide)).trans f2, by rw [vt_1]; exact (r2 1 (by decide)).trans f3, by rw [m3]; exact (r1 7 (by decide)).trans f4, by rw [m4]; exact (r1 8 (by decide)).trans f5, Nbf x3 x4 x5 x6⟩
  · obtain ⟨v, v1, v2, v3⟩ := col 11 (cc 11 (by decide) (by decide) (by decide) (by decide))
    exact ⟨v, v1 rfl, v2, v3⟩
  · obtain ⟨v, v1, v2, v3⟩ := col 13 (cc 13 (by decide) (by decide) (by decide) (by decide))
    exact ⟨v, Nat.le_trans v2 (by decide), v3⟩
  · obtain ⟨v, v1, v2, v3, v4⟩ := hw 13 (cc 13 (by decide) (by decide) (by decide) (by decide))
    have : v = 0 := Nat.le_zero.mp v2
    subst this
    exact ⟨(r1 13 (by decide)).trans v3, (r2 13 (by decide)).trans v4⟩
  · intro k hk9 e
    have e' : nI k0 = nI k := q1.symm.trans ((r1 0 (by decide)).symm.trans e)
    have : k0 = k := (nI_eq (by omega) (by omega)).mp e'
    subst this
    refine ⟨hk, fun hf => ?_⟩
    obtain ⟨f, f1, f2, f3⟩ := q3 hf
    rw [r1 1 (by decide), f2, nI_toInt (by omega)]
    omega
theorem DL.of {c m c' m' : St} {F i : Nat} (h : DL c m F i) (h1 : ∀ k, k < (i + 1) * 14 → c' 7 k = c 7 k) (h2 : ∀ k, k < 14 * (i + 1) → m' 43 k = m 43 k) (m3 : m' 3 = m 3) (m4 : m' 4 = m 4) : DL c' m' F i := by
  obtain ⟨a1, a2, a3⟩ := h
  refine ⟨a1.tr (fun j hj => h1 _ (by omega)) (fun j hj => by rw [vt_1, vt_1]; exact h2 _ (by omega)) (by rw [vt_ne (by decide), vt_ne (by decide), m3]) (by rw [vt_ne (by decide), vt_ne (by decide), m4]) (Int.le_refl _) (fun e => ?_), ?_, ?_⟩
  · obtain ⟨k, k1, k2, k3, k4, k5, k6⟩ := a1.kd
    rw [k2] at e
    exact (k6 ((nIl 8 (by omega) (by decide)).mp e)).1
  · rw [h1 _ (by omega), h2 _ (by omega)]; exact a2
  · rw [h1 _ (by omega), h1 _ (by omega)]; exact a3
def FT (c0 m0 c m : St) : Prop := Dm c ∧ (∀ x, x ≠ 4 → x ≠ 7 → c x = c0 x) ∧ c 4 3 = c0 4 3 ∧ (∀ x, x ≠ 0 → x ≠ 43 → m x = m0 x) ∧ (∀ k, k < 69 ∨ 74 < k → m 0 k = m0 0 k)
theorem FT.ts {c0 m0 c m c' m' : St} {L F n : Nat} (h : FT c0 m0 c m) (hL : c 4 3 = nI L) (t : TS c m L F n c' m') : FT c0 m0 c' m' := by
  obtain ⟨a1, a2, a3, a4, a5⟩ := h
  obtain ⟨b1, b2, b3, b4, b5, b6, b7, b8, b9⟩ := t
  exact ⟨b1, fun x p q => (b5 x p q).trans (a2 x p q), (b3.trans hL.symm).trans a3, fun x p q => (b7 x p q).trans (a4 x p q), fun k p => (b8 k p).trans (a5 k p)⟩
theorem TS.base {c0 m0 : St} {L F n : Nat} {c m : St} (h : TS c0 m0 L F n c m) : TS c m L F n c m := ⟨h.D, h.B, h.L, h.n, fun _ _ _ => rfl, fun _ _ => rfl, fun _ _ _ => rfl, fun _ _ => rfl, fun _ _ => rfl⟩
/-- one leg more, at c, m but for the count -/
theorem TS.next {c0 m0 : St} {L F n n' : Nat} {c m c' m' : St} (h : TS c0 m0 L F n c m) (hD : Dm c') (h1 : ∀ x, x ≠ 4 → c' x = c x) (h2 : c' 4 3 = c 4 3) (g1 : ∀ x, x ≠ 0 → m' x = m x) (g2 : ∀ k, k < 69 ∨ 74 < k → m' 0 k = m 0 k) (g3 : m' 0 73 = nI n') : TS c' m' L F n' c' m' := by
  obtain ⟨a1, ⟨b1, b2, b3, b4, b5, b6, b7, b8⟩, a3, a4, -⟩ := h
  refine ⟨hD, ⟨b1.of (g1 _ (by decide)) (g1 _ (by decide)) (g1 _ (by decide)), b2, ?_, ?_, b5, ?_, ?_, ?_⟩, h2.trans a3, g3, fun _ _ _ => rfl, fun _ _ => rfl, fun _ _ _ => rfl, fun _ _ => rfl, fun _ _ => rfl⟩
  · rw [g2 68 (by decide)]; exact b3
  · rw [h1 5 (by decide), g1 41 (by decide)]; exact b4
  · rw [h1 1 (by decide)]; exact b6
  · rw [g2 7 (by decide)]; exact b7
  · rw [h1 3 (by decide), g1 3 (by decide), g1 4 (by decide)]; exact b8
def PR (c0 m0 : St) (L F : Nat) (x y : Option (Int32 × St)) : Prop :=
  (∃ (c' m' : St) (z : Nat), x = some (nI z, c') ∧ y = some (0, m') ∧ FT c0 m0 c' m' ∧ m' 0 69 = nI z ∧ z ≤ L) ∨
  (∃ (c' m' : St) (n : Nat), x = some (-1000000, c') ∧ y = some (1, m') ∧ FT c0 m0 c' m' ∧ c' 4 4 = nI n ∧ m' 0 73 = nI n ∧ 1 ≤ n ∧ n ≤ 12 ∧ 1 ≤ L ∧ ∀ i, i < n → DL c' m' F i)
theorem CLg.v {c c' : St} {n : Nat} {r : Int32} (h : CLg c n r c') (J5 K : St → Option (Int32 × St)) : (Option.bind (f_Rx_readKind c 4 (nI n)) fun x12 => if (x12.1 : Int32) = 0 then J5 x12.2 else Option.bind (f_Rx_readAttributes x12.2 4 (nI n)) fun x13 => if (x13.1 : Int32) = 0 then J5 x13.2 else K x13.2) = if r = 0 then J5 c' else K c' := by
  rcases h with ⟨e, h⟩ | ⟨c1, h1, h2⟩
  · rw [bd_e h, if_pos rfl, if_pos e]
  · rw [bd_e h1, if_neg n10, bd_e h2]
theorem rl_0 {N : Nat} {J : Int32 → St → Option (Int32 × St)} {m : St} (h : 0 < N) : lp (lb_m_reads_19 J) N (0, m) = J 0 m := by
  rw [lp_s h]
  generalize lp (lb_m_reads_19 J) (N - 1) = ih
  unfold lb_m_reads_19
  try dsimp only
  rw [if_pos rfl]
theorem pr_l {c0 m0 : St} {L F : Nat} : ∀ (d n N N' : Nat) (c m : St) (s a : Nat), n + d = 12 → 1 ≤ d → d + 1 < N → d + 1 < N' → FT c0 m0 c m → TS c m L F n c m → TK L c m s a → (∀ i, i < n → DL c m F i) →
    PR c0 m0 L F (lp (lb_f_Rx_parse_16 4 (fun σ4 => some ((σ4 4 6), σ4)) (fun σ6 => some ((-1000000 : Int32), σ6)) (fun σ8 => some ((σ8 4 6), σ8))) N (nI n, c)) (Option.bind (m_readsLeg m) fun x4 => lp (lb_m_reads_19 (fun (x5 : Int32) (σ6 : St) => Gd ((x5 : Int32) &&& 1 = x5) <| some (x5, σ6))) N' (x4.1, x4.2)) := by
  intro d
  induction d with
  | zero => intro n N N' c m s a h1 h2; omega
  | succ d ihd =>
    intro n N N' c m s a h1 h2 h3 h4 f h k hd
    have hn : n < 12 := by omega
    have hL := h.B.2.1
    obtain ⟨J5, eJ5⟩ : ∃ J : St → Option (Int32 × St), J = fun σ4 => some ((σ4 4 6), σ4) := ⟨_, rfl⟩
    obtain ⟨J7, eJ7⟩ : ∃ J : St → Option (Int32 × St), J = fun σ6 => some ((-1000000 : Int32), σ6) := ⟨_, rfl⟩
    obtain ⟨JM, eJM⟩ : ∃ J : Int32 → St → Option (Int32 × St), J = fun x5 σ6 => Gd ((x5 : Int32) &&& 1 = x5) <| some (x5, σ6) := ⟨_, rfl⟩
    have JM0 : ∀ M, JM 0 M = some (0, M) := fun M => by rw [eJM]; exact Gd_t (by decide)
    have JM1 : ∀ M, JM 1 M = some (1, M) := fun M => by rw [eJM]; exact Gd_t (by decide)
    rw [← eJ5, ← eJ7, ← eJM]
    have cst : ∀ (r : Int32) (c' : St), CLg c n r c' → lp (lb_f_Rx_parse_16 4 J5 J7 J5) N (nI n, c) = if r = 0 then J5 c' else (if (s2 c' 4 4 (nI (n + 1)) 4 5 : Int32) = 0 then J7 (s2 c' 4 4 (nI (n + 1))) else if (12 : Int32) ≤ (s2 c' 4 4 (nI (n + 1)) 4 4) then lp (lb_f_Rx_parse_16 4 J5 J7 J5) (N - 1) (nI (n + 1), s2 c' 4 4 (nI (n + 1))) else Option.bind (f_Rx_nextToken (s2 c' 4 4 (nI (n + 1))) 4) fun x18 => lp (lb_f_Rx_parse_16 4 J5 J7 J5) (N - 1) (nI (n + 1), x18)) := fun r c' hc => by
      have := hc.v J5 (fun σ => if (s2 σ 4 4 (nI (n + 1)) 4 5 : Int32) = 0 then J7 (s2 σ 4 4 (nI (n + 1))) else if (12 : Int32) ≤ (s2 σ 4 4 (nI (n + 1)) 4 4) then lp (lb_f_Rx_parse_16 4 J5 J7 J5) (N - 1) (nI (n + 1), s2 σ 4 4 (nI (n + 1))) else Option.bind (f_Rx_nextToken (s2 σ 4 4 (nI (n + 1))) 4) fun x18 => lp (lb_f_Rx_parse_16 4 J5 J7 J5) (N - 1) (nI (n + 1), x18))
      rw [← this, lp_s (show 0 < N by omega)]
      generalize lp (lb_f_Rx_parse_16 4 J5 J7 J5) (N - 1) = ih
      unfold lb_f_Rx_parse_16
      try dsimp only
      rw [if_neg (show ¬ (12 : Int32) ≤ nI n from nI_ge (b := 12) hn (by decide))]
      simp only [nI_1, Lt_e, Jn_e]
    rcases leg_lock h k hn with ⟨c', m', z, x1, x2, x3, x4, x5, x6⟩ | ⟨c', m', s', a', k0, w, w', x1, x2, x3, x4, x5, x6, x7, x8⟩ | ⟨c', m', s', a', x1, x2, x3, x4, x5⟩
    · left
      refine ⟨c', m', z, ?_, ?_, f.ts h.L x3, x5, x6⟩
      · rw [cst 0 c' x1, if_pos rfl, eJ5]
        try dsimp only
        rw [x4]
      · rw [bd_e x2, rl_0 (by omega), JM0]
    · have X3 := x3
      obtain ⟨h3', k3, -, -⟩ := x3
      obtain ⟨C, eC⟩ : ∃ C, C = s2 c' 4 4 (nI (n + 1)) := ⟨_, rfl⟩
      obtain ⟨M, eM⟩ : ∃ M, M = s2 m' 0 73 (nI (n + 1)) := ⟨_, rfl⟩
      have Cx : ∀ x, x ≠ 4 → C x = c' x := fun x q => by rw [eC, s2_ne q]
      have Ck : ∀ j, j ≠ 4 → C 4 j = c' 4 j := fun j q => by rw [eC, s2_k q]
      have Mx : ∀ x, x ≠ 0 → M x = m' x := fun x q => by rw [eM, s2_ne q]
      have Mk : ∀ j, j ≠ 73 → M 0 j = m' 0 j := fun j q => by rw [eM, s2_k q]
      have hC : TS C M L F (n + 1) C M := h3'.next (by rw [eC]; exact h3'.D.s2 (by decide)) Cx (Ck 3 (by decide)) Mx (fun k q => Mk k (by omega)) (by rw [eM, s2_at])
      have kC : TK L C M s' a' := k3.of (Cx 5 (by decide)) (Ck 5 (by decide)) (Ck 6 (by decide)) (Ck 7 (by decide)) (Mk 69 (by decide)) (Mk 70 (by decide))
      have fC : FT c0 m0 C M := by
        obtain ⟨b1, b2, b3, b4, b5⟩ := f.ts h.L h3'
        exact ⟨hC.D, fun x p q => (Cx x p).trans (b2 x p q), (Ck 3 (by decide)).trans b3, fun x p q => (Mx x p).trans (b4 x p q), fun k p => (Mk k (by omega)).trans (b5 k p)⟩
      have dC : ∀ i, i < n + 1 → DL C M F i := fun i hi => by
        by_cases e : i = n
        · subst e
          exact (dl_of X3 x4 x5 x6).of (fun k _ => by rw [Cx 7 (by decide)]) (fun k _ => by rw [Mx 43 (by decide)]) (Mx 3 (by decide)) (Mx 4 (by decide))
        · exact (hd i (by omega)).of (fun k q => by rw [Cx 7 (by decide)]; exact h3'.2.2.2.2.2.1 k (by omega)) (fun k q => by rw [Mx 43 (by decide)]; exact h3'.2.2.2.2.2.2.2.2 k (by omega)) ((Mx 3 (by decide)).trans (h3'.2.2.2.2.2.2.1 3 (by decide) (by decide))) ((Mx 4 (by decide)).trans (h3'.2.2.2.2.2.2.1 4 (by decide) (by decide)))
      have hb5 : bya C L s' = bya c' L s' := bya_of (Cx 5 (by decide))
      obtain ⟨e1, -, -⟩ := end_e hC kC
      have ha' := kC.aL
      have hle' := kC.le
      have k4 := clv_lt (bya C L s')
      rw [← hb5] at x7
      rw [cst 1 c' x1, if_neg n10, ← eC, bd_e x2, ← eM, kC.k]
      by_cases z0 : clv (bya C L s') = 0
      · right
        have hs' := e1.mp z0
        refine ⟨C, M, n + 1, ?_, ?_, fC, by rw [eC, s2_at], by rw [eM, s2_at], by omega, by omega, by omega, dC⟩
        · rw [if_pos (show nI (clv (bya C L s')) = 0 by rw [z0]; rfl), eJ7]
        · rw [lp_s (by omega)]
          generalize lp (lb_m_reads_19 JM) (N' - 1) = ih
          unfold lb_m_reads_19
          try dsimp only
          rw [if_neg n10, if_pos (show M 0 68 ≤ M 0 69 by rw [hC.B.2.2.1, kC.ms]; exact nI_le (by omega) (by omega)), JM1]
      · have z59 := x7.resolve_left z0
        have hs' : s' < L := by
          rcases (show s' = L ∨ s' < L by omega) with q | q
          · exact absurd (e1.mpr q) z0
          · exact q
        have h1a : a' - s' = 1 := by
          have := kC.k3 (by rw [z59]; decide)
          omega
        rw [if_neg (kn_ne (j := 0) (pj := 0) (by omega) rfl (by decide) z0), show C 4 4 = nI (n + 1) by rw [eC, s2_at]]
        have mst : lp (lb_m_reads_19 JM) N' (1, M) = (if (12 : Int32) ≤ nI (n + 1) then lp (lb_m_reads_19 JM) (N' - 1) (0, M) else Option.bind (m_nextToken M) fun x14 => Option.bind (m_readsLeg x14) fun x15 => lp (lb_m_reads_19 JM) (N' - 1) (x15.1, x15.2)) := by
          rw [lp_s (by omega)]
          generalize lp (lb_m_reads_19 JM) (N' - 1) = ih
          unfold lb_m_reads_19
          try dsimp only
          have lt1 : m_isLetter M 59 = some 1 := by rw [let_e hC kC, if_pos ⟨h1a, z59⟩]
          rw [if_neg n10, if_neg (show ¬ M 0 68 ≤ M 0 69 by rw [hC.B.2.2.1, kC.ms]; exact nI_ge hs' (by omega)), bd_e lt1, Jn_e, Jn_e, if_neg n10]
          by_cases q : (12 : Int32) ≤ nI (n + 1)
          · rw [if_pos (show (12 : Int32) ≤ M 0 73 by rw [hC.n]; exact q), if_pos q]
            try dsimp only
            rw [if_pos rfl]
          · rw [if_neg (show ¬ (12 : Int32) ≤ M 0 73 by rw [hC.n]; exact q), if_neg q]
            try dsimp only
            rw [if_neg n10]
        rw [mst]
        by_cases q : n + 1 = 12
        · rw [if_pos (show (12 : Int32) ≤ nI (n + 1) by rw [q]; decide), if_pos (show (12 : Int32) ≤ nI (n + 1) by rw [q]; decide)]
          left
          refine ⟨C, M, s', ?_, ?_, fC, kC.ms, by omega⟩
          · rw [lp_s (by omega)]
            generalize lp (lb_f_Rx_parse_16 4 J5 J7 J5) (N - 1 - 1) = ih
            unfold lb_f_Rx_parse_16
            try dsimp only
            rw [if_pos (show (12 : Int32) ≤ nI (n + 1) by rw [q]; decide), eJ5]
            try dsimp only
            rw [kC.cs]
          · rw [rl_0 (by omega), JM0]
        · rw [if_neg (show ¬ (12 : Int32) ≤ nI (n + 1) from nI_ge (b := 12) (by omega) (by decide)), if_neg (show ¬ (12 : Int32) ≤ nI (n + 1) from nI_ge (b := 12) (by omega) (by decide))]
          obtain ⟨c3, m3, s3, a3, t1, t2, t3, t4, t5, t6, t7, t8, t9⟩ := nt_lock hC kC.ca kC.ma ha'
          rw [bd_e t1, bd_e t2]
          have := ihd (n + 1) (N - 1) (N' - 1) c3 m3 s3 a3 (by omega) (by omega) (by omega) (by omega) (fC.ts hC.L t3) t3.base t4 (fun i hi => (dC i hi).of (fun k _ => by rw [t6]) (fun k _ => by rw [t7]) (t3.2.2.2.2.2.2.1 3 (by decide) (by decide)) (t3.2.2.2.2.2.2.1 4 (by decide) (by decide)))
          rw [← eJ5, ← eJ7, ← eJM] at this
          exact this
    · left
      have hs' : ¬ clv (bya c' L s') = 0 := fun q => x5 (Or.inl q)
      obtain ⟨e1, -, -⟩ := end_e x3 x4
      have ha' := x4.aL
      have hle' := x4.le
      have hlt : s' < L := by
        rcases (show s' = L ∨ s' < L by omega) with q | q
        · exact absurd (e1.mpr q) hs'
        · exact q
      obtain ⟨M, eM⟩ : ∃ M, M = s2 m' 0 73 (nI (n + 1)) := ⟨_, rfl⟩
      have Mx : ∀ x, x ≠ 0 → M x = m' x := fun x q => by rw [eM, s2_ne q]
      have Mk : ∀ j, j ≠ 73 → M 0 j = m' 0 j := fun j q => by rw [eM, s2_k q]
      have hC : TS c' M L F (n + 1) c' M := x3.next x3.D (fun _ _ => rfl) rfl Mx (fun k q => Mk k (by omega)) (by rw [eM, s2_at])
      have kC : TK L c' M s' a' := x4.of rfl rfl rfl rfl (Mk 69 (by decide)) (Mk 70 (by decide))
      refine ⟨c', M, s', ?_, ?_, ?_, kC.ms, by omega⟩
      · rw [cst 0 c' x1, if_pos rfl, eJ5]
        try dsimp only
        rw [x4.cs]
      · rw [bd_e x2, ← eM, lp_s (by omega)]
        have e0 := rl_0 (N := N' - 1) (J := JM) (m := M) (by omega)
        generalize lp (lb_m_reads_19 JM) (N' - 1) = ih at e0 ⊢
        unfold lb_m_reads_19
        try dsimp only
        have lt0 : m_isLetter M 59 = some 0 := by rw [let_e hC kC, if_neg (fun q => x5 (Or.inr q.2))]
        rw [if_neg n10, if_neg (show ¬ M 0 68 ≤ M 0 69 by rw [hC.B.2.2.1, kC.ms]; exact nI_ge hlt (by omega)), bd_e lt0, Jn_e, Jn_e, if_pos rfl]
        try dsimp only
        rw [if_pos rfl, e0, JM0]
      · obtain ⟨b1, b2, b3, b4, b5⟩ := f.ts h.L x3
        exact ⟨b1, b2, b3, fun x p q => (Mx x p).trans (b4 x p q), fun k p => (Mk k (by omega)).trans (b5 k p)⟩
theorem parse_lock {t na cur fl ed nm : Nat} {Ra : Int} {c m : St} (hB : IB t c m na cur fl ed nm Ra) : ∃ L F : Nat, L ≤ t ∧ F ≤ 16 ∧ c 1 1 = nI F ∧ PR c m L F (f_Rx_parse c 4) (m_reads m) := by
  obtain ⟨L, l1, l2, l3, l4, l5⟩ := hB.L
  obtain ⟨F, F1, F2, F3, F4, F5⟩ := hB.F
  refine ⟨L, F, l2, F1, F2, ?_⟩
  obtain ⟨C, eC⟩ : ∃ C, C = s2 (s2 c 4 4 (0 : Int32)) 4 7 (0 : Int32) := ⟨_, rfl⟩
  obtain ⟨M, eM⟩ : ∃ M, M = s2 (s2 m 0 73 (0 : Int32)) 0 70 (0 : Int32) := ⟨_, rfl⟩
  have Cx : ∀ x, x ≠ 4 → C x = c x := fun x q => by rw [eC, s2_ne q, s2_ne q]
  have Mx : ∀ x, x ≠ 0 → M x = m x := fun x q => by rw [eM, s2_ne q, s2_ne q]
  have C43 : C 4 3 = c 4 3 := by rw [eC, s2_k (by decide), s2_k (by decide)]
  have Mk : ∀ k, k < 69 ∨ 74 < k → M 0 k = m 0 k := fun k q => by rw [eM, s2_k (by omega), s2_k (by omega)]
  have CD : Dm C := by rw [eC]; exact (hB.D.s2 (by decide)).s2 (by decide)
  have hC : TS C M L F 0 C M := by
    refine ⟨CD, ⟨hB.K.of (Mx _ (by decide)) (Mx _ (by decide)) (Mx _ (by decide)), l1, ?_, ?_, F1, ?_, ?_, ?_⟩, C43.trans l3, by rw [eM, s2_k (by decide), s2_at]; rfl, fun _ _ _ => rfl, fun _ _ => rfl, fun _ _ _ => rfl, fun _ _ => rfl, fun _ _ => rfl⟩
    · rw [Mk 68 (by decide)]; exact l4
    · rw [Cx 5 (by decide), Mx 41 (by decide)]; exact l5
    · rw [Cx 1 (by decide)]; exact F2
    · rw [Mk 7 (by decide)]; exact F3
    · rw [Cx 3 (by decide), Mx 3 (by decide), Mx 4 (by decide)]; exact F5
  have fC : FT c m C M := ⟨CD, fun x p _ => Cx x p, C43, fun x p _ => Mx x p, Mk⟩
  obtain ⟨c1, m1, s1, a1, t1, t2, t3, t4, -⟩ := nt_lock (a := 0) hC (by rw [eC, s2_at]; rfl) (by rw [eM, s2_at]; rfl) (Nat.zero_le _)
  unfold f_Rx_parse m_reads
  rw [Lt_e, Lt_e, Lt_e, Lt_e, ← eC, ← eM, bd_e t1, bd_e t2, Jn_e, Jn_e, Jn_e]
  simp only [Jn_e]
  exact pr_l 12 0 4000 4000 c1 m1 s1 a1 (by decide) (by decide) (by decide) (by decide) (fC.ts hC.L t3) t3.base t4 (fun i hi => by omega)
theorem FT.inv {t : Nat} {c m c' m' : St} (h : INV t c m) (f : FT c m c' m') : INV t c' m' := by
  have h' := h
  obtain ⟨na, cur, fl, ed, nm, Ra, hB, hA, hM⟩ := h
  obtain ⟨L, l1, l2, l3, l4, l5⟩ := hB.L
  obtain ⟨a1, a2, a3, a4, a5⟩ := f
  refine h'.txt (Nat.le_refl _) a1 (fun a p1 _ p3 => a2 a p1 p3) (fun a p1 _ p3 => a4 a p1 p3) (fun k p => a5 k (by omega)) ⟨L, l1, l2, a3.trans l3, (a5 68 (by decide)).trans l4, ?_⟩
  rw [a2 5 (by decide) (by decide), a4 41 (by decide) (by decide)]
  exact l5
theorem k_textFault {t : Nat} {c m : St} (h : INV t c m) : AQ t (f_FL_textFault c) (m_textFault m) := by
  have h' := h
  obtain ⟨na, cur, fl, ed, nm, Ra, hB, hA, hM⟩ := h
  obtain ⟨L, F, l, F1, F2, hp⟩ := parse_lock hB
  unfold f_FL_textFault m_textFault
  rcases hp with ⟨c', m', z, x1, x2, x3, x4, x5⟩ | ⟨c', m', n, x1, x2, x3, -⟩
  · rw [bd_e x1, bd_e x2, Jn_e, if_pos rfl]
    try dsimp only
    rw [x4]
    exact ⟨_, _, _, rfl, rfl, (FT.inv h' x3).up⟩
  · rw [bd_e x1, bd_e x2, Jn_e, if_neg n10]
    exact ⟨_, _, _, rfl, rfl, (FT.inv h' x3).up⟩
