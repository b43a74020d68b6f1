/-! the next token, in lockstep -/

theorem clv_b {b : Int32} (h : 0 ≤ b.toInt) : clv b ≠ 0 := by
  unfold clv
  rw [if_neg (by omega)]
  (repeat' split) <;> decide
theorem nt_lock {c0 m0 : St} {L F n a : Nat} {c m : St} (h : TS c0 m0 L F n c m) (hc : c 4 7 = nI a) (hm : m 0 70 = nI a) (ha : a ≤ L) : ∃ (c' m' : St) (s' a' : Nat), f_Rx_nextToken c 4 = some c' ∧ m_nextToken m = some m' ∧ TS c0 m0 L F n c' m' ∧ TK L c' m' s' a' ∧ a ≤ s' ∧ c' 7 = c 7 ∧ m' 43 = m 43 ∧ m' 0 74 = m 0 74 ∧ c' 4 4 = c 4 4 := by
  obtain ⟨b1, b2, b3, b4, -⟩ := h.B
  have h3 := h.L
  have hb : ∀ k, k < L → c 5 k = m 41 k := fun k hk => (b4 k hk).1
  obtain ⟨s, s1, s2', s3, s4⟩ := skip_l h3 b3 b2 hb (L - a) a 4000 (by omega) (by omega)
  have k4 := clv_lt (bya c L s)
  obtain ⟨K, eK⟩ : ∃ K, K = clv (bya c L s) := ⟨_, rfl⟩
  obtain ⟨C, eC⟩ : ∃ C, C = s2 (s2 c 4 6 (nI s)) 4 5 (nI K) := ⟨_, rfl⟩
  obtain ⟨M, eM⟩ : ∃ M, M = s2 m 0 69 (nI s) := ⟨_, rfl⟩
  have C3 : C 4 3 = nI L := by rw [eC, s2_k (by decide), s2_k (by decide)]; exact h3
  have C4 : C 4 4 = c 4 4 := by rw [eC, s2_k (by decide), s2_k (by decide)]
  have C5 : C 4 5 = nI K := by rw [eC, s2_at]
  have C6 : C 4 6 = nI s := by rw [eC, s2_k (by decide), s2_at]
  have Cx : ∀ x, x ≠ 4 → C x = c x := fun x p => by rw [eC, s2_ne p, s2_ne p]
  have M68 : M 0 68 = nI L := by rw [eM, s2_k (by decide)]; exact b3
  have M69 : M 0 69 = nI s := by rw [eM, s2_at]
  have Mk : ∀ k, k ≠ 69 → M 0 k = m 0 k := fun k p => by rw [eM, s2_k p]
  have Mx : ∀ x, x ≠ 0 → M x = m x := fun x p => by rw [eM, s2_ne p]
  have CD : Dm C := by rw [eC]; exact (h.D.s2 (by decide)).s2 (by decide)
  have fin : ∀ e, s ≤ e → e ≤ L → (s < L → s < e) → (K = 3 → e = s + 1) → f_Rx_nextToken c 4 = some (s2 C 4 7 (nI e)) → m_nextToken m = some (s2 M 0 70 (nI e)) → ∃ (c' m' : St) (s' a' : Nat), f_Rx_nextToken c 4 = some c' ∧ m_nextToken m = some m' ∧ TS c0 m0 L F n c' m' ∧ TK L c' m' s' a' ∧ a ≤ s' ∧ c' 7 = c 7 ∧ m' 43 = m 43 ∧ m' 0 74 = m 0 74 ∧ c' 4 4 = c 4 4 := by
    intro e e1 e2 e3 e4 e5 e6
    have x5 : s2 C 4 7 (nI e) 5 = c 5 := by rw [s2_ne (by decide), Cx 5 (by decide)]
    have x7 : s2 C 4 7 (nI e) 7 = c 7 := by rw [s2_ne (by decide), Cx 7 (by decide)]
    have y43 : s2 M 0 70 (nI e) 43 = m 43 := by rw [s2_ne (by decide), Mx 43 (by decide)]
    refine ⟨_, _, s, e, e5, e6, h.st (CD.s2 (by decide)) (fun x p q => by rw [s2_ne p, Cx x p]) (by rw [s2_k (by decide), C3, h3]) (fun k _ => by rw [x7]) (fun x p q => by rw [s2_ne p, Mx x p]) (fun k p => by rw [s2_k (by omega), Mk k (by omega)]) (by rw [s2_k (by decide), Mk 73 (by decide)]) (fun k _ => by rw [y43]), ⟨e1, e2, ?_, ?_, s2_at, ?_, s2_at, e3, ?_⟩, s1, x7, y43, ?_, ?_⟩
    · rw [s2_k (by decide), C5, bya_of x5, eK]
    · rw [s2_k (by decide), C6]
    · rw [s2_k (by decide), M69]
    · rw [bya_of x5, ← eK]; exact e4
    · rw [s2_k (by decide), Mk 74 (by decide)]
    · rw [s2_k (by decide), C4]
  have eb : f_Rx_byteAt (s2 c 4 6 (nI s)) 4 (nI s) = some (bya c L s) := by
    rw [byteAt_e (L := L) (by rw [s2_k (by decide)]; exact h3) b2 (by omega)]
    exact congrArg some (bya_of (s2_ne (by decide)))
  have g5 : ∀ v : Int32, s2 C 4 7 v 4 5 = nI K := fun v => by rw [s2_k (by decide)]; exact C5
  have g68 : ∀ v : Int32, s2 M 0 70 v 0 68 = nI L := fun v => by rw [s2_k (by decide)]; exact M68
  have g69 : ∀ v : Int32, s2 M 0 70 v 0 69 = nI s := fun v => by rw [s2_k (by decide)]; exact M69
  have kn : ∀ j, j < 4 → (nI K = nI j ↔ K = j) := fun j p => nI_eq (by omega) (by omega)
  rcases (show s = L ∨ s < L by omega) with hs | hs
  · have hK : K = 0 := by rw [eK]; unfold bya; rw [if_neg (by omega)]; decide
    refine fin s (Nat.le_refl _) s2' (fun q => by omega) (fun q => by omega) ?_ ?_
    · unfold f_Rx_nextToken
      rw [Lt_e, hc, Jn_e, s3]
      try dsimp only
      rw [s2_at, bd_e eb, bd_e (classOf_e _), ← eK, ← eC, Lt_e, Jn_e, C5, C6, if_pos (show nI K = 0 by rw [hK]; rfl)]
      try dsimp only
      rw [Lt_e, Jn_e, Jn_e, g5, if_neg (show ¬ nI K = 1 by rw [hK]; decide), if_neg (show ¬ nI K = 2 by rw [hK]; decide)]
    · unfold m_nextToken
      rw [Lt_e, hm, Jn_e, s4]
      try dsimp only
      rw [← eM, Jn_e, M68, M69, if_pos (nI_le (by omega) (by omega))]
      try dsimp only
      rw [Lt_e, Jn_e, Jn_e, g68, g69, if_pos (nI_le (by omega) (by omega))]
      try dsimp only
      rw [if_pos (nI_le (by omega) (by omega))]
  · have hbt : bya c L s = c 5 s := by unfold bya; rw [if_pos hs]
    have eK' : clv (c 5 s) = K := by rw [eK, hbt]
    have hK : K ≠ 0 := by rw [← eK']; exact clv_b (b4 s hs).2.1
    have K4 : K < 4 := by rw [eK]; exact k4
    have ek : ∀ v : Int32, (s2 M 0 70 v) 41 (Int32.toNatClampNeg (nI s)) = c 5 s := fun v => by rw [nI_clamp (by omega), s2_ne (by decide), Mx 41 (by decide), hb s hs]
    have hix : Ix (nI s) 200 := Ix_n (by omega) (by decide)
    have ec : ∀ r : Option St, (K = 3 → r = some (s2 C 4 7 (nI (s + 1)))) → (K ≠ 3 → lp (lb_f_Rx_nextToken_100 4 (fun σ10 => some σ10)) 4000 (s2 C 4 7 (nI (s + 1))) = r) → f_Rx_nextToken c 4 = r := by
      intro r r3 rl
      unfold f_Rx_nextToken
      rw [Lt_e, hc, Jn_e, s3]
      try dsimp only
      rw [s2_at, bd_e eb, bd_e (classOf_e _), ← eK, ← eC, Lt_e, Jn_e, C5, C6, if_neg (show ¬ nI K = 0 from fun q => hK ((kn 0 (by decide)).mp q))]
      try dsimp only
      rw [nI_1, Lt_e, Jn_e, Jn_e, g5]
      by_cases q1 : K = 1
      · rw [if_pos (show nI K = 1 by rw [q1]; rfl)]
        exact rl (by omega)
      · rw [if_neg (show ¬ nI K = 1 from fun q => q1 ((kn 1 (by decide)).mp q))]
        by_cases q2 : K = 2
        · rw [if_pos (show nI K = 2 by rw [q2]; rfl)]
          exact rl (by omega)
        · rw [if_neg (show ¬ nI K = 2 from fun q => q2 ((kn 2 (by decide)).mp q))]
          exact (r3 (by omega)).symm
    have em : ∀ r : Option St, (K = 3 → r = some (s2 M 0 70 (nI (s + 1)))) → (K = 1 → lp (lb_m_nextToken_100 (fun σ10 => some σ10)) 4000 (s2 M 0 70 (nI (s + 1))) = r) → (K = 2 → lp (lb_m_nextToken_165 (fun σ10 => some σ10)) 4000 (s2 M 0 70 (nI (s + 1))) = r) → m_nextToken m = r := by
      intro r r3 r1 r2
      unfold m_nextToken
      rw [Lt_e, hm, Jn_e, s4]
      try dsimp only
      rw [← eM, Jn_e, M68, M69, if_neg (nI_ge hs (by omega))]
      try dsimp only
      rw [nI_1, Lt_e, Jn_e, Jn_e, g68, g69, if_neg (nI_ge hs (by omega)), Gd_t hix, ek, bd_e (isCap_e _), eK']
      by_cases q1 : K = 1
      · rw [if_pos q1, if_neg n10]
        exact r1 q1
      · rw [if_neg q1, if_pos rfl]
        try dsimp only
        rw [if_neg (nI_ge hs (by omega)), Gd_t hix, bd_e (isDig_e _), eK']
        by_cases q2 : K = 2
        · rw [if_pos q2, if_neg n10]
          exact r2 q2
        · rw [if_neg q2, if_pos rfl]
          exact (r3 (by omega)).symm
    by_cases q3 : K = 3
    · exact fin (s + 1) (by omega) (by omega) (fun _ => by omega) (fun _ => rfl) (ec _ (fun _ => rfl) (fun q => absurd q3 q)) (em _ (fun _ => rfl) (fun q => by omega) (fun q => by omega))
    · obtain ⟨e, x1, x2, x3, x4, x5⟩ := ext_l (c := C) (m := M) (K := K) C3 C5 M68 b2 (by omega) (fun k hk => by rw [Cx 5 (by decide), Mx 41 (by decide)]; exact hb k hk) (L - (s + 1)) (s + 1) 4000 (by omega) (by omega)
      exact fin e (by omega) x2 (fun _ => by omega) (fun q => absurd q q3) (ec _ (fun q => absurd q q3) (fun _ => x3 _)) (em _ (fun q => absurd q q3) (fun q => x4 q _) (fun q => x5 q _))
