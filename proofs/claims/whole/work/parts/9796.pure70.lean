/-! going direct: the new plan, in lockstep -/

theorem LegR.anyR {c m : St} {q P i : Nat} {R R' : Int} (h : LegR c m q P R i) (hk : ¬ c (q + 2) (i * 14 + 0) = 8) : LegR c m q P R' i := by
  obtain ⟨⟨k, k1, k2, k3, k4, k5, k6⟩, a⟩ := h
  exact ⟨⟨k, k1, k2, k3, k4, k5, fun e => absurd (by rw [k2, e]; rfl) hk⟩, a⟩
theorem LegR.mod1 {c m c' m' : St} {q P q' P' i i' k' : Nat} {R R' : Int} (h : LegR c m q P R i) (hf : ∀ k, k < 9 → c (q + 2) (i * 14 + 0) = nI k → hfx k) (h1 : ∀ j, 1 ≤ j → j < 13 → c' (q' + 2) (i' * 14 + j) = c (q + 2) (i * 14 + j)) (h2 : ∀ j, 1 ≤ j → j < 13 → m' 1 (P' + 3 + 14 * i' + j) = m 1 (P + 3 + 14 * i + j)) (hk : k' < 9) (hk' : hfx k') (c0 : c' (q' + 2) (i' * 14 + 0) = nI k') (m0 : m' 1 (P' + 3 + 14 * i' + 0) = nI k') (c13 : c' (q' + 2) (i' * 14 + 13) = nI 0) (m13 : m' 1 (P' + 3 + 14 * i' + 13) = nI 0) (m3 : m' 3 = m 3) (m4 : m' 4 = m 4) : LegR c' m' q' P' R' i' := by
  obtain ⟨⟨k, k1, k2, k3, k4, k5, k6⟩, a2, a3, a4, a5, a6, a7, a8, a9, a10, a11⟩ := h
  refine ⟨⟨k', hk, c0, m0, fun _ => ?_, fun q => absurd hk' q, fun e => ?_⟩, ?_, ?_, ?_, ?_, ?_, ?_, ?_, ?_, ?_, ⟨0, by decide, c13, m13⟩⟩
  · rw [h1 1 (by decide) (by decide), h2 1 (by decide) (by decide), h1 7 (by decide) (by decide), h1 8 (by decide) (by decide), m3, m4]
    exact k4 (hf k k1 k2)
  · rw [e] at hk'; unfold hfx at hk'; omega
  · rw [h1 2 (by decide) (by decide), h2 2 (by decide) (by decide)]; exact a2
  · rw [h1 3 (by decide) (by decide), h2 3 (by decide) (by decide)]; exact a3
  · rw [h1 4 (by decide) (by decide), h2 4 (by decide) (by decide)]; exact a4
  · rw [h1 5 (by decide) (by decide), h2 5 (by decide) (by decide)]; exact a5
  · rw [h1 6 (by decide) (by decide), h2 6 (by decide) (by decide)]; exact a6
  · rw [h1 9 (by decide) (by decide), h2 9 (by decide) (by decide)]; exact a7
  · rw [h1 10 (by decide) (by decide), h2 10 (by decide) (by decide)]; exact a8
  · rw [h1 11 (by decide) (by decide), h2 11 (by decide) (by decide)]; exact a9
  · rw [h1 12 (by decide) (by decide), h2 12 (by decide) (by decide)]; exact a10
theorem msets {m : St} {P i j : Nat} {v : Int32} (hP : P ≤ 2376) (hi : i < 21) (hj : j < 14) : m_sets m (nI P) (nI i) (nI j) v = some (s2 m 1 (P + 3 + 14 * i + j) v) := by
  unfold m_sets
  rw [ix1, Gd_t (Ix_n (by omega) (by decide)), Lt_e, nI_clamp (by omega)]
theorem ld1_l {m : St} {P i n : Nat} (hP : P ≤ 297) (hn : n ≤ 20) {J : St → Option St} : ∀ (d l N : Nat), l + d = n → i ≤ l → d < N → lp (lb_m_laysDirect_9 (nI P) (nI i) (nI n) J) N (nI l, bcp m 1 (P + 3 + 14 * i) 611 (14 * (l - i))) = J (bcp m 1 (P + 3 + 14 * i) 611 (14 * (n - i))) := by
  intro d
  induction d with
  | zero =>
    intro l N h1 h0 h2
    rw [lp_s (by omega)]
    generalize lp (lb_m_laysDirect_9 (nI P) (nI i) (nI n) J) (N - 1) = ih
    unfold lb_m_laysDirect_9
    try dsimp only
    rw [if_pos (nI_le (by omega) (by omega)), show l = n by omega]
  | succ d ihd =>
    intro l N h1 h0 h2
    rw [lp_s (by omega), ← ihd (l + 1) (N - 1) (by omega) (by omega) (by omega)]
    generalize lp (lb_m_laysDirect_9 (nI P) (nI i) (nI n) J) (N - 1) = ih
    have e := copyLeg_m (m := bcp m 1 (P + 3 + 14 * i) 611 (14 * (l - i))) (P := P) (i := l) (Q := 594) (j := 1 + l - i) (by omega) (by omega) (by decide) (by omega) (by omega)
    have e2 := bcp_add (m := m) (A := 1) (sp := P + 3 + 14 * i) (dp := 611) (x := 14 * (l - i)) (y := 14) (by omega)
    rw [show P + 3 + 14 * l = P + 3 + 14 * i + 14 * (l - i) by omega, show 594 + 3 + 14 * (1 + l - i) = 611 + 14 * (l - i) by omega, e2, show 14 * (l - i) + 14 = 14 * (l + 1 - i) by omega] at e
    have a1 : ((1 : Int32) + nI l) - nI i = nI (1 + l - i) := by rw [show (1 : Int32) = nI 1 from rfl, nI_add, pk_sub (by omega)]
    unfold lb_m_laysDirect_9
    try dsimp only
    rw [if_neg (nI_ge (by omega) (by omega)), a1, show (594 : Int32) = nI 594 from rfl, bd_e e, Lt_e, nI_1]
def ztr (m : St) (j : Nat) : St := fun a k => if a = 1 ∧ 597 ≤ k ∧ k < 597 + j then 0 else m a k
theorem ztr_s {m : St} {j : Nat} : s2 (ztr m j) 1 (597 + j) 0 = ztr m (j + 1) := by
  funext a k
  by_cases h : a = 1 ∧ k = 597 + j
  · obtain ⟨rfl, rfl⟩ := h
    rw [s2_at]
    unfold ztr
    rw [if_pos ⟨rfl, by omega, by omega⟩]
  · rw [s2_nk (by omega)]
    unfold ztr
    by_cases q : a = 1 ∧ 597 ≤ k ∧ k < 597 + j
    · rw [if_pos q, if_pos (by omega)]
    · rw [if_neg q, if_neg (by omega)]
theorem ld2_l {m : St} {J : St → Option St} : ∀ (d j N : Nat), j + d = 14 → d < N → lp (lb_m_laysDirect_53 J) N (nI j, ztr m j) = J (ztr m 14) := by
  intro d
  induction d with
  | zero =>
    intro j N h1 h2
    rw [lp_s (by omega)]
    generalize lp (lb_m_laysDirect_53 J) (N - 1) = ih
    unfold lb_m_laysDirect_53
    try dsimp only
    rw [show j = 14 by omega, if_pos (show (14 : Int32) ≤ nI 14 by decide)]
  | succ d ihd =>
    intro j N h1 h2
    rw [lp_s (by omega), ← ihd (j + 1) (N - 1) (by omega) (by omega)]
    generalize lp (lb_m_laysDirect_53 J) (N - 1) = ih
    have e : m_sets (ztr m j) (594 : Int32) (0 : Int32) (nI j) (0 : Int32) = _ := msets (P := 594) (i := 0) (j := j) (v := 0) (by decide) (by decide) (by omega)
    rw [show 594 + 3 + 14 * 0 + j = 597 + j by omega, ztr_s] at e
    unfold lb_m_laysDirect_53
    try dsimp only
    rw [if_neg (show ¬ (14 : Int32) ≤ nI j from nI_ge (b := 14) (by omega) (by decide)), bd_e e, Lt_e, nI_1]
/-- the reference's row of the present position -/
def ppr (x y k : Int32) : Nat → Int32 := fun j => if j = 0 then 8 else if j = 2 then k else if j = 7 then x else if j = 8 then y else if j = 10 then 450 else if j = 11 then 999 else 0
theorem ld_m {m : St} {P i n k : Nat} (hP : P ≤ 297) (hn : n ≤ 20) (hi : i < n) (hm : m 1 P = nI n) (hk : m 1 (P + 3 + 14 * i + 0) = nI k) (hk9 : k < 9) : ∃ m2, m_laysDirect m (nI P) (nI i) = some m2 ∧ (∀ a, a ≠ 1 → m2 a = m a) ∧ (∀ z, z < 594 ∨ 891 ≤ z → m2 1 z = m 1 z) ∧ m2 1 594 = nI (n - i + 1) ∧ (∀ j, j < 14 → m2 1 (597 + j) = ppr (m 0 64) (m 0 65) (m 0 66) j) ∧ m2 1 (611 + 0) = (if k = 7 then nI 7 else 2) ∧ m2 1 (611 + 13) = 0 ∧ (∀ j, 1 ≤ j → j < 13 → m2 1 (611 + j) = m 1 (P + 3 + 14 * i + j)) ∧ ∀ z, 14 ≤ z → z < 14 * (n - i) → m2 1 (611 + z) = m 1 (P + 3 + 14 * i + z) := by
  obtain ⟨A, eA⟩ : ∃ A, A = bcp m 1 (P + 3 + 14 * i) 611 (14 * (n - i)) := ⟨_, rfl⟩
  obtain ⟨B, eB⟩ : ∃ B, B = s2 A 1 594 (nI (n - i + 1)) := ⟨_, rfl⟩
  obtain ⟨Z, eZ⟩ : ∃ Z, Z = ztr B 14 := ⟨_, rfl⟩
  have Zx : ∀ a, a ≠ 1 → Z a = m a := fun a p => by
    rw [eZ]
    have : ztr B 14 a = B a := by
      funext z
      unfold ztr
      rw [if_neg (fun q => p q.1)]
    rw [this, eB, s2_ne p, eA, bcp_ne p]
  have Z1 : ∀ z, z < 597 ∨ 611 ≤ z → Z 1 z = B 1 z := fun z p => by
    rw [eZ]
    unfold ztr
    rw [if_neg (by omega)]
  have Z0 : ∀ j, j < 14 → Z 1 (597 + j) = 0 := fun j p => by
    rw [eZ]
    unfold ztr
    rw [if_pos ⟨rfl, by omega, by omega⟩]
  obtain ⟨Y, eY⟩ : ∃ Y, Y = s2 (s2 (s2 (s2 (s2 (s2 (s2 Z 1 597 (8 : Int32)) 1 599 (m 0 66)) 1 604 (m 0 64)) 1 605 (m 0 65)) 1 607 (450 : Int32)) 1 608 (999 : Int32)) 1 624 (0 : Int32) := ⟨_, rfl⟩
  have st : ∀ (S : St) (r cc : Nat) (pr pc v : Int32) (z : Nat), pr = nI r → pc = nI cc → r < 21 → cc < 14 → z = 594 + 3 + 14 * r + cc → m_sets S (594 : Int32) pr pc v = some (s2 S 1 z v) := fun S r cc pr pc v z e1 e2 h1 h2 e3 => by
    rw [e1, e2, e3]
    exact msets (P := 594) (by decide) h1 h2
  have m0 : ∀ S : St, (∀ a, a ≠ 1 → S a = m a) → ∀ j, S 0 j = m 0 j := fun S h j => by rw [h 0 (by decide)]
  have Y611 : Y 1 611 = nI k := by
    rw [eY, s2_k (by decide), s2_k (by decide), s2_k (by decide), s2_k (by decide), s2_k (by decide), s2_k (by decide), s2_k (by decide), Z1 _ (by omega), eB, s2_k (by decide), eA]
    have := bcp_in (m := m) (A := 1) (sp := P + 3 + 14 * i) (dp := 611) (n := 14 * (n - i)) (k := 0) (by omega)
    exact this.trans hk
  have gk : m_of Y (594 : Int32) (1 : Int32) (0 : Int32) = some (nI k) := (mof (P := 594) (i := 1) (j := 0) (by decide) (by decide) (by decide)).trans (congrArg some Y611)
  obtain ⟨V, eV, Vx, V1, V2⟩ : ∃ V, (if nI k = (7 : Int32) then some Y else some (s2 Y 1 611 (2 : Int32))) = some V ∧ (∀ a, a ≠ 1 → V a = Y a) ∧ (∀ z, z ≠ 611 → V 1 z = Y 1 z) ∧ V 1 611 = (if k = 7 then nI 7 else 2) := by
    by_cases q : k = 7
    · refine ⟨Y, by rw [if_pos (show nI k = 7 by rw [q]; rfl)], fun _ _ => rfl, fun _ _ => rfl, ?_⟩
      rw [if_pos q, Y611, q]
    · refine ⟨_, by rw [if_neg (kn_ne (j := 7) (pj := 7) (by omega) rfl (by decide) q)], fun a p => s2_ne p, fun z p => s2_k p, ?_⟩
      rw [if_neg q, s2_at]
  have lo1 := fun J => ld1_l (m := m) (P := P) (i := i) (n := n) (J := J) hP hn (n - i) i 4000 (by omega) (Nat.le_refl _) (by omega)
  rw [show 14 * (i - i) = 0 by omega, bcp_0, ← eA] at lo1
  have lo2 := fun J => ld2_l (m := B) (J := J) 14 0 4000 (by decide) (by decide)
  have zt0 : ztr B 0 = B := by
    funext a z
    unfold ztr
    rw [if_neg (by omega)]
  rw [zt0, ← eZ] at lo2
  have lo2' : ∀ J, lp (lb_m_laysDirect_53 J) 4000 ((0 : Int32), B) = J Z := lo2
  have e594 : (nI n - nI i) + (1 : Int32) = nI (n - i + 1) := by rw [pk_sub (by omega), nI_1]
  have q0 : ∀ j, s2 Z 1 597 (8 : Int32) 0 j = m 0 j := fun j => by rw [s2_ne (by decide), Zx 0 (by decide)]
  have q1 : ∀ j, s2 (s2 Z 1 597 (8 : Int32)) 1 599 (m 0 66) 0 j = m 0 j := fun j => by rw [s2_ne (by decide), q0]
  have q2 : ∀ j, s2 (s2 (s2 Z 1 597 (8 : Int32)) 1 599 (m 0 66)) 1 604 (m 0 64) 0 j = m 0 j := fun j => by rw [s2_ne (by decide), q1]
  have em : m_laysDirect m (nI P) (nI i) = some V := by
    unfold m_laysDirect
    rw [bd_e (mcount (by omega)), hm, Jn_e, lo1]
    try dsimp only
    rw [Gd_t (by decide), Lt_e, e594, show Int32.toNatClampNeg (594 : Int32) = 594 by decide, ← eB, Jn_e, lo2']
    try dsimp only
    rw [bd_e (st Z 0 0 0 0 8 597 rfl rfl (by decide) (by decide) rfl), q0, bd_e (st _ 0 2 0 2 (m 0 66) 599 rfl rfl (by decide) (by decide) rfl), q1, bd_e (st _ 0 7 0 7 (m 0 64) 604 rfl rfl (by decide) (by decide) rfl), q2, bd_e (st _ 0 8 0 8 (m 0 65) 605 rfl rfl (by decide) (by decide) rfl), bd_e (st _ 0 10 0 10 450 607 rfl rfl (by decide) (by decide) rfl), bd_e (st _ 0 11 0 11 999 608 rfl rfl (by decide) (by decide) rfl), bd_e (st _ 1 13 1 13 0 624 rfl rfl (by decide) (by decide) rfl), ← eY, bd_e gk, Jn_e]
    rw [← eV]
    by_cases q : nI k = (7 : Int32)
    · rw [if_pos q, if_pos q]
    · rw [if_neg q, if_neg q, bd_e (st Y 1 0 1 0 2 611 rfl rfl (by decide) (by decide) rfl)]
  have Yx : ∀ a, a ≠ 1 → Y a = m a := fun a p => by rw [eY, s2_ne p, s2_ne p, s2_ne p, s2_ne p, s2_ne p, s2_ne p, s2_ne p, Zx a p]
  have Yk : ∀ z, z ≠ 597 → z ≠ 599 → z ≠ 604 → z ≠ 605 → z ≠ 607 → z ≠ 608 → z ≠ 624 → Y 1 z = Z 1 z := fun z p1 p2 p3 p4 p5 p6 p7 => by rw [eY, s2_k p7, s2_k p6, s2_k p5, s2_k p4, s2_k p3, s2_k p2, s2_k p1]
  refine ⟨V, em, fun a p => (Vx a p).trans (Yx a p), fun z p => ?_, ?_, fun j hj => ?_, V2, ?_, fun j j1 j2 => ?_, fun z z1 z2 => ?_⟩
  · rw [V1 z (by omega), Yk z (by omega) (by omega) (by omega) (by omega) (by omega) (by omega) (by omega), Z1 z (by omega), eB, s2_k (by omega), eA, bcp_k (by omega)]
  · rw [V1 594 (by decide), Yk 594 (by decide) (by decide) (by decide) (by decide) (by decide) (by decide) (by decide), Z1 594 (by omega), eB, s2_at]
  · rw [V1 _ (by omega)]
    unfold ppr
    by_cases j0 : j = 0
    · rw [if_pos j0, j0, eY, s2_k (by decide), s2_k (by decide), s2_k (by decide), s2_k (by decide), s2_k (by decide), s2_k (by decide), s2_at]
    · rw [if_neg j0]
      by_cases j2 : j = 2
      · rw [if_pos j2, j2, eY, s2_k (by decide), s2_k (by decide), s2_k (by decide), s2_k (by decide), s2_k (by decide), s2_at]
      · rw [if_neg j2]
        by_cases j7 : j = 7
        · rw [if_pos j7, j7, eY, s2_k (by decide), s2_k (by decide), s2_k (by decide), s2_k (by decide), s2_at]
        · rw [if_neg j7]
          by_cases j8 : j = 8
          · rw [if_pos j8, j8, eY, s2_k (by decide), s2_k (by decide), s2_k (by decide), s2_at]
          · rw [if_neg j8]
            by_cases j10 : j = 10
            · rw [if_pos j10, j10, eY, s2_k (by decide), s2_k (by decide), s2_at]
            · rw [if_neg j10]
              by_cases j11 : j = 11
              · rw [if_pos j11, j11, eY, s2_k (by decide), s2_at]
              · rw [if_neg j11, Yk _ (by omega) (by omega) (by omega) (by omega) (by omega) (by omega) (by omega), Z0 j hj]
  · rw [V1 _ (by decide), eY, s2_at]
  · rw [V1 _ (by omega), Yk _ (by omega) (by omega) (by omega) (by omega) (by omega) (by omega) (by omega), Z1 _ (by omega), eB, s2_k (by omega), eA, bcp_in (by omega)]
  · rw [V1 _ (by omega), Yk _ (by omega) (by omega) (by omega) (by omega) (by omega) (by omega) (by omega), Z1 _ (by omega), eB, s2_k (by omega), eA, bcp_in z2]
