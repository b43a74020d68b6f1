/-! block copies of the reference; load, delete -/

def bcp (m : St) (A sp dp n : Nat) : St := fun a k => if a = 1 ∧ dp ≤ k ∧ k < dp + n then m A (sp + (k - dp)) else m a k
theorem bcp_in {m : St} {A sp dp n k : Nat} (h : k < n) : bcp m A sp dp n 1 (dp + k) = m A (sp + k) := by
  unfold bcp
  rw [if_pos ⟨rfl, by omega, by omega⟩, show dp + k - dp = k by omega]
theorem bcp_ne {m : St} {A sp dp n a : Nat} (h : a ≠ 1) : bcp m A sp dp n a = m a := by
  funext k
  unfold bcp
  rw [if_neg (fun q => h q.1)]
theorem bcp_k {m : St} {A sp dp n k : Nat} (h : k < dp ∨ dp + n ≤ k) : bcp m A sp dp n 1 k = m 1 k := by
  unfold bcp
  rw [if_neg (fun q => by omega)]
theorem bcp_0 {m : St} {A sp dp : Nat} : bcp m A sp dp 0 = m := by
  funext a k
  unfold bcp
  rw [if_neg (by omega)]
theorem bcp_A {m : St} {A sp dp n i : Nat} (h : A ≠ 1 ∨ i < dp ∨ dp + n ≤ i) : bcp m A sp dp n A i = m A i := by
  unfold bcp
  rw [if_neg (by omega)]
theorem bcp_s {m : St} {A sp dp i : Nat} (h : A ≠ 1 ∨ dp ≤ sp ∨ sp + i < dp) : s2 (bcp m A sp dp i) 1 (dp + i) (bcp m A sp dp i A (sp + i)) = bcp m A sp dp (i + 1) := by
  rw [bcp_A (by omega)]
  funext a k
  by_cases q : a = 1 ∧ k = dp + i
  · obtain ⟨rfl, rfl⟩ := q
    rw [s2_at, bcp_in (by omega)]
  · rw [s2_nk (by omega)]
    unfold bcp
    by_cases q : a = 1 ∧ dp ≤ k ∧ k < dp + i
    · rw [if_pos q, if_pos (by omega)]
    · rw [if_neg q, if_neg (by omega)]
theorem bcp_add {m : St} {A sp dp x y : Nat} (h : A ≠ 1 ∨ dp ≤ sp ∨ sp + x + y ≤ dp) : bcp (bcp m A sp dp x) A (sp + x) (dp + x) y = bcp m A sp dp (x + y) := by
  funext a k
  by_cases q : a = 1 ∧ dp + x ≤ k ∧ k < dp + x + y
  · obtain ⟨rfl, q1, q2⟩ := q
    obtain ⟨r, rfl⟩ : ∃ r, k = dp + x + r := ⟨k - (dp + x), by omega⟩
    rw [bcp_in (by omega), bcp_A (by omega), show dp + x + r = dp + (x + r) by omega, bcp_in (by omega), show sp + x + r = sp + (x + r) by omega]
  · have e : bcp (bcp m A sp dp x) A (sp + x) (dp + x) y a k = bcp m A sp dp x a k := by
      conv => lhs; unfold bcp
      rw [if_neg q]
      rfl
    rw [e]
    unfold bcp
    by_cases q' : a = 1 ∧ dp ≤ k ∧ k < dp + x
    · rw [if_pos q', if_pos (by omega)]
    · rw [if_neg q', if_neg (by omega)]
theorem ix1 {P i j : Nat} : (nI P + (3 : Int32)) + (14 : Int32) * nI i + nI j = nI (P + 3 + 14 * i + j) := by
  rw [show (14 : Int32) = nI 14 from rfl, pk_mul, show nI P + (3 : Int32) = nI (P + 3) from nI_add P 3, nI_add, nI_add]
theorem told_m {m : St} {k P i : Nat} (hk : k < 12) (hP : P ≤ 2376) (hi : i < 21) : m_laysTold m (nI k) (nI P) (nI i) = some (bcp m 43 (14 * k) (P + 3 + 14 * i) 14) := by
  have key : ∀ (d j n : Nat) (J : St → Option St), j + d = 14 → d < n → lp (lb_m_laysTold_3 (nI k) (nI P) (nI i) J) n (nI j, bcp m 43 (14 * k) (P + 3 + 14 * i) j) = J (bcp m 43 (14 * k) (P + 3 + 14 * i) 14) := by
    intro d
    induction d with
    | zero =>
      intro j n J h1 h2
      rw [lp_s (by omega)]
      generalize lp (lb_m_laysTold_3 (nI k) (nI P) (nI i) J) (n - 1) = ih
      unfold lb_m_laysTold_3
      try dsimp only
      rw [show j = 14 by omega, if_pos (show (14 : Int32) ≤ nI 14 by decide)]
    | succ d ihd =>
      intro j n J h1 h2
      rw [lp_s (by omega), ← ihd (j + 1) (n - 1) J (by omega) (by omega)]
      generalize lp (lb_m_laysTold_3 (nI k) (nI P) (nI i) J) (n - 1) = ih
      have e1 : (14 : Int32) * nI k + nI j = nI (14 * k + j) := kx rfl
      have e2 : (nI P + (3 : Int32)) + (14 : Int32) * nI i + nI j = nI (P + 3 + 14 * i + j) := ix1
      have x1 : Ix ((14 : Int32) * nI k + nI j) 168 := by rw [e1]; exact Ix_n (by omega) (by decide)
      have x2 : Ix ((nI P + (3 : Int32)) + (14 : Int32) * nI i + nI j) 2673 := by rw [e2]; exact Ix_n (by omega) (by decide)
      have y1 : Int32.toNatClampNeg ((14 : Int32) * nI k + nI j) = 14 * k + j := by rw [e1]; exact nI_clamp (by omega)
      have y2 : Int32.toNatClampNeg ((nI P + (3 : Int32)) + (14 : Int32) * nI i + nI j) = P + 3 + 14 * i + j := by rw [e2]; exact nI_clamp (by omega)
      unfold lb_m_laysTold_3
      try dsimp only
      rw [if_neg (show ¬ (14 : Int32) ≤ nI j from nI_ge (b := 14) (by omega) (by decide)), Gd_t x1, Gd_t x2, Lt_e, Lt_e, y1, y2, bcp_s (by omega), nI_1]
  have e := key 14 0 4000
  rw [bcp_0] at e
  unfold m_laysTold
  rw [Jn_e]
  exact e _ (by decide) (by decide)
theorem copyLeg_m {m : St} {P i Q j : Nat} (hP : P ≤ 2376) (hi : i < 21) (hQ : Q ≤ 2376) (hj : j < 21) (hd : Q + 3 + 14 * j ≤ P + 3 + 14 * i ∨ P + 3 + 14 * i + 14 ≤ Q + 3 + 14 * j) : m_copyLeg m (nI P) (nI i) (nI Q) (nI j) = some (bcp m 1 (P + 3 + 14 * i) (Q + 3 + 14 * j) 14) := by
  have key : ∀ (d l n : Nat) (J : St → Option St), l + d = 14 → d < n → lp (lb_m_copyLeg_3 (nI P) (nI i) (nI Q) (nI j) J) n (nI l, bcp m 1 (P + 3 + 14 * i) (Q + 3 + 14 * j) l) = J (bcp m 1 (P + 3 + 14 * i) (Q + 3 + 14 * j) 14) := by
    intro d
    induction d with
    | zero =>
      intro l n J h1 h2
      rw [lp_s (by omega)]
      generalize lp (lb_m_copyLeg_3 (nI P) (nI i) (nI Q) (nI j) J) (n - 1) = ih
      unfold lb_m_copyLeg_3
      try dsimp only
      rw [show l = 14 by omega, if_pos (show (14 : Int32) ≤ nI 14 by decide)]
    | succ d ihd =>
      intro l n J h1 h2
      rw [lp_s (by omega), ← ihd (l + 1) (n - 1) J (by omega) (by omega)]
      generalize lp (lb_m_copyLeg_3 (nI P) (nI i) (nI Q) (nI j) J) (n - 1) = ih
      have e1 : (nI P + (3 : Int32)) + (14 : Int32) * nI i + nI l = nI (P + 3 + 14 * i + l) := ix1
      have e2 : (nI Q + (3 : Int32)) + (14 : Int32) * nI j + nI l = nI (Q + 3 + 14 * j + l) := ix1
      have x1 : Ix ((nI P + (3 : Int32)) + (14 : Int32) * nI i + nI l) 2673 := by rw [e1]; exact Ix_n (by omega) (by decide)
      have x2 : Ix ((nI Q + (3 : Int32)) + (14 : Int32) * nI j + nI l) 2673 := by rw [e2]; exact Ix_n (by omega) (by decide)
      have y1 : Int32.toNatClampNeg ((nI P + (3 : Int32)) + (14 : Int32) * nI i + nI l) = P + 3 + 14 * i + l := by rw [e1]; exact nI_clamp (by omega)
      have y2 : Int32.toNatClampNeg ((nI Q + (3 : Int32)) + (14 : Int32) * nI j + nI l) = Q + 3 + 14 * j + l := by rw [e2]; exact nI_clamp (by omega)
      unfold lb_m_copyLeg_3
      try dsimp only
      rw [if_neg (show ¬ (14 : Int32) ≤ nI l from nI_ge (b := 14) (by omega) (by decide)), Gd_t x1, Gd_t x2, Lt_e, Lt_e, y1, y2, bcp_s (by omega), nI_1]
  have e := key 14 0 4000
  rw [bcp_0] at e
  unfold m_copyLeg
  rw [Jn_e]
  exact e _ (by decide) (by decide)
/-- as BG.inv; the trial plan may have changed too -/
theorem BG.inv2 {t na cur fl ed nm n' cu rs : Nat} {Ra R : Int} {c m c1 m1 c2 m2 : St} (hB : IB t c m na cur fl ed nm Ra) (hA : CA c na) (ht : 1 ≤ t) (G : BG t c m c1 m1 na cur fl ed nm) (hD : Dm c2) (hc : ∀ a, a ≠ 11 → a ≠ 13 → c2 a = c1 a) (hm : ∀ a, a ≠ 1 → m2 a = m1 a) (hm1 : ∀ k, k < 297 ∨ 891 ≤ k → m2 1 k = m1 1 k)
  (q1 : c2 11 1 = nI n') (q2 : m2 1 297 = nI n') (q3 : c2 11 2 = nI cu) (q4 : m2 1 298 = nI cu) (q5 : c2 11 3 = nI rs) (q6 : m2 1 299 = nI rs) (hM : MP (t + 1) c2 m2 11 297 n' cu rs R cur fl) : INV (t + 1) c2 m2 := by
  refine INV.ed hB hA hD (fun a p => by rw [hc a (by omega) (by omega), G.fc a (by omega) (by omega) (by omega) (by omega) (by omega) (by omega) (by omega)]) (by rw [hc 52 (by decide) (by decide), G.fc 52 (by decide) (by decide) (by decide) (by decide) (by decide) (by decide) (by decide)]) (by rw [hc 0 (by decide) (by decide)]; exact G.c10) (by rw [hm 0 (by decide)]; exact G.m01) (by rw [hc 27 (by decide) (by decide)]; exact G.c27) (fun a p _ => by rw [hm a (by omega), G.fm a p]) (fun k p => by rw [hm1 k (by omega), G.f1 k (by omega)]) (fun k p1 p2 _ => by rw [hm 0 (by decide), G.g0 k p1 p2]) ht ⟨cu, rs, R, q1, q2, q3, q4, q5, q6, hM⟩ ?_
  obtain ⟨sz, nx, a1, a2, a3, a4, a5, a6⟩ := G.H
  refine ⟨sz, nx, a1, a2, by rw [hc 47 (by decide) (by decide)]; exact a3, by rw [hm 0 (by decide)]; exact a4, by rw [hc 47 (by decide) (by decide)]; exact a5, fun j hj => (a6 j hj).up.tr (fun k _ => by rw [hc 49 (by decide) (by decide)]) (fun k _ => by rw [hc 51 (by decide) (by decide)]) (by rw [hc 1 (by decide) (by decide)]) (fun k hk => hm1 _ (by omega)) (by rw [hm 2 (by decide)]) (hm _ (by decide)) (hm _ (by decide)) (fun q => q)⟩
theorem LegR.k8 {c m : St} {q P i : Nat} {R : Int} (h : LegR c m q P R i) (e : c (q + 2) (i * 14 + 0) = 8) : i = 0 := by
  obtain ⟨k, k1, k2, k3, k4, k5, k6⟩ := h.kd
  rw [k2] at e
  exact (k6 ((nIl 8 (by omega) (by decide)).mp e)).1
/-- a leg of the text put into a plan -/
theorem DL.leg {c m c2 m2 : St} {F i i' : Nat} {R : Int} (h : DL c m F i) (h1 : ∀ j, j < 14 → c2 13 (i' * 14 + j) = c 7 (i * 14 + j)) (h2 : ∀ j, j < 14 → m2 1 (297 + 3 + 14 * i' + j) = m 43 (14 * i + j)) (m3 : m2 3 = m 3) (m4 : m2 4 = m 4) (hR : 14200 ≤ R) : LegR c2 m2 11 297 R i' :=
  h.1.tr (q' := 11) (P' := 297) (i' := i') h1 (fun j hj => by rw [vt_1]; exact h2 j hj) (by rw [vt_ne (by decide)]; exact m3) (by rw [vt_ne (by decide)]; exact m4) hR (fun e => absurd (h.2.2 8 (by decide) e).1 (by decide))
theorem load_l {m : St} {tl : Nat} (h : m 0 73 = nI tl) (ht : tl ≤ 12) {J : St → Option (Int32 × St)} : ∀ (d k N : Nat), k + d = tl → d < N → lp (lb_m_load_17 J) N (nI k, bcp m 43 0 300 (14 * k)) = J (bcp m 43 0 300 (14 * tl)) := by
  intro d
  induction d with
  | zero =>
    intro k N h1 h2
    rw [lp_s (by omega)]
    generalize lp (lb_m_load_17 J) (N - 1) = ih
    unfold lb_m_load_17
    try dsimp only
    rw [if_pos (show bcp m 43 0 300 (14 * k) 0 73 ≤ nI k by rw [bcp_ne (by decide), h]; exact nI_le (by omega) (by omega)), show k = tl by omega]
  | succ d ihd =>
    intro k N h1 h2
    rw [lp_s (by omega), ← ihd (k + 1) (N - 1) (by omega) (by omega)]
    generalize lp (lb_m_load_17 J) (N - 1) = ih
    have e := told_m (m := bcp m 43 0 300 (14 * k)) (k := k) (P := 297) (i := k) (by omega) (by decide) (by omega)
    have e2 := bcp_add (m := m) (A := 43) (sp := 0) (dp := 300) (x := 14 * k) (y := 14) (Or.inl (by decide))
    rw [show 0 + 14 * k = 14 * k by omega] at e2
    rw [show 297 + 3 + 14 * k = 300 + 14 * k by omega, e2] at e
    unfold lb_m_load_17
    try dsimp only
    rw [if_neg (show ¬ bcp m 43 0 300 (14 * k) 0 73 ≤ nI k by rw [bcp_ne (by decide), h]; exact nI_ge (by omega) (by omega)), show (297 : Int32) = nI 297 from rfl, bd_e e, Lt_e, nI_1]
    rfl
theorem nI_nn {z : Nat} (h : z < 2 ^ 31) : ¬ nI z = -1000000 := fun q => by
  have e := congrArg Int32.toInt q
  rw [nI_toInt h, show (-1000000 : Int32).toInt = -1000000 by decide] at e
  omega
theorem k_load {t : Nat} {c m : St} (ht : t ≤ 511) (h : INV t c m) : AQ t (f_FL_load c) (m_load m) := by
  have h' := h
  obtain ⟨na, cur, fl, ed, nm, Ra, hB, hA, hM⟩ := h
  obtain ⟨L, F, hl, F1, F2, hp⟩ := parse_lock hB
  unfold f_FL_load m_load
  rcases hp with ⟨c', m', z, x1, x2, x3, x4, x5⟩ | ⟨c', m', n, x1, x2, x3, x4, x5, x6, x7, x8, x9⟩
  · rw [bd_e x1, bd_e x2, if_neg (nI_nn (by omega)), if_pos rfl]
    exact ⟨_, _, _, rfl, rfl, (FT.inv h' x3).up⟩
  · have hI' := FT.inv h' x3
    obtain ⟨na', cur', fl', ed', nm', Ra', hB', hA', hM'⟩ := hI'
    obtain ⟨c1, m1, ec, em, G⟩ := begin_lock hB'
    have G4 : c1 4 = c' 4 := G.fc 4 (by decide) (by decide) (by decide) (by decide) (by decide) (by decide) (by decide)
    have G7 : c1 7 = c' 7 := G.fc 7 (by decide) (by decide) (by decide) (by decide) (by decide) (by decide) (by decide)
    have G1 : c1 1 = c' 1 := G.fc 1 (by decide) (by decide) (by decide) (by decide) (by decide) (by decide) (by decide)
    have c1F : c' 1 1 = nI F := by rw [x3.2.1 1 (by decide) (by decide)]; exact F2
    have g73 : m1 0 73 = nI n := by rw [G.g0 73 (by decide) (by decide)]; exact x5
    have g43 : m1 43 = m' 43 := G.fm 43 (by decide)
    have T12 : TabOK c1 12 21 14 := G.D.2.2.2.2.1.2.1
    have T6 : TabOK c1 6 12 14 := G.D.2.1
    obtain ⟨X, eX⟩ : ∃ X, X = scp c1 7 13 (0 * 14) (0 * 14) (n * 14) := ⟨_, rfl⟩
    have cp := Tb_copy (i := 0) (j := 0) T12 T6 (show 0 < n by omega) (by omega) (by omega)
    rw [show rc 6 2 = 7 from rfl, show rc 12 2 = 13 from rfl, ← eX] at cp
    have cp' : f_Tb_copyRows c1 12 6 (0 : Int32) (0 : Int32) (nI n) = some X := cp
    obtain ⟨C, eC⟩ : ∃ C, C = s2 (s2 (s2 X 11 1 (nI n)) 11 2 (0 : Int32)) 11 3 (1 : Int32) := ⟨_, rfl⟩
    obtain ⟨M, eM⟩ : ∃ M, M = s2 (s2 (s2 (bcp m1 43 0 300 (14 * n)) 1 297 (nI n)) 1 298 (0 : Int32)) 1 299 (1 : Int32) := ⟨_, rfl⟩
    have hr : f_Pl_replaceAll c1 11 6 (nI n) = some C := by
      unfold f_Pl_replaceAll f_Pl_restart
      rw [show rc 11 0 = 12 from rfl, bd_e cp', Lt_e, Lt_e, Lt_e, eC]
      rfl
    have lo := load_l (m := m1) (J := fun σ3 => Gd (Ix (297 : Int32) 2673) <| Lt (s2 σ3 1 (Int32.toNatClampNeg (297 : Int32)) (σ3 0 73)) fun σ5 => Gd (Ix (298 : Int32) 2673) <| Lt (s2 σ5 1 (Int32.toNatClampNeg (298 : Int32)) (0 : Int32)) fun σ6 => Gd (Ix (299 : Int32) 2673) <| Lt (s2 σ6 1 (Int32.toNatClampNeg (299 : Int32)) (1 : Int32)) fun σ7 => some ((σ7 0 73), σ7)) g73 x7 n 0 4000 (by omega) (by omega)
    rw [show 14 * 0 = 0 from rfl, bcp_0] at lo
    have k7 : Int32.toNatClampNeg (297 : Int32) = 297 := by decide
    have k8 : Int32.toNatClampNeg (298 : Int32) = 298 := by decide
    have k9 : Int32.toNatClampNeg (299 : Int32) = 299 := by decide
    have hmm : (lp (lb_m_load_17 (fun σ3 => Gd (Ix (297 : Int32) 2673) <| Lt (s2 σ3 1 (Int32.toNatClampNeg (297 : Int32)) (σ3 0 73)) fun σ5 => Gd (Ix (298 : Int32) 2673) <| Lt (s2 σ5 1 (Int32.toNatClampNeg (298 : Int32)) (0 : Int32)) fun σ6 => Gd (Ix (299 : Int32) 2673) <| Lt (s2 σ6 1 (Int32.toNatClampNeg (299 : Int32)) (1 : Int32)) fun σ7 => some ((σ7 0 73), σ7))) 4000 ((0 : Int32), m1)) = some (nI n, M) := by
      refine Eq.trans lo ?_
      have M73 : M 0 73 = nI n := by rw [eM, s2_ne (by decide), s2_ne (by decide), s2_ne (by decide), bcp_ne (by decide)]; exact g73
      rw [Gd_t (by decide), Lt_e, Gd_t (by decide), Lt_e, Gd_t (by decide), Lt_e, k7, k8, k9, bcp_ne (show (0 : Nat) ≠ 1 by decide), g73, ← eM, M73]
    have C11 : C 11 1 = nI n := by rw [eC, s2_k (by decide), s2_k (by decide), s2_at]
    have Cx : ∀ a, a ≠ 11 → a ≠ 13 → C a = c1 a := fun a p q => by rw [eC, s2_ne p, s2_ne p, s2_ne p, eX, scp_ne q]
    have C13 : ∀ k, k < n * 14 → C 13 k = c' 7 k := fun k hk => by
      rw [eC, s2_ne (by decide), s2_ne (by decide), s2_ne (by decide), eX]
      have := scp_in (c := c1) (i := 7) (j := 13) (sp := 0 * 14) (dp := 0 * 14) (n := n * 14) hk
      rw [show 0 * 14 + k = k by omega, G7] at this
      exact this
    have Mx : ∀ a, a ≠ 1 → M a = m1 a := fun a p => by rw [eM, s2_ne p, s2_ne p, s2_ne p, bcp_ne p]
    have M1 : ∀ k, k < 297 ∨ 594 ≤ k → M 1 k = m1 1 k := fun k p => by rw [eM, s2_k (by omega), s2_k (by omega), s2_k (by omega), bcp_k (by omega)]
    have M13 : ∀ i j, i < n → j < 14 → M 1 (297 + 3 + 14 * i + j) = m' 43 (14 * i + j) := fun i j hi hj => by
      rw [eM, s2_k (by omega), s2_k (by omega), s2_k (by omega), show 297 + 3 + 14 * i + j = 300 + (14 * i + j) by omega, bcp_in (by omega), g43, show 0 + (14 * i + j) = 14 * i + j by omega]
    have m3 : M 3 = m' 3 := (Mx 3 (by decide)).trans (G.fm 3 (by decide))
    have m4 : M 4 = m' 4 := (Mx 4 (by decide)).trans (G.fm 4 (by decide))
    rw [bd_e x1, bd_e x2, if_pos rfl, if_neg n10, bd_e ec, bd_e em, Jn_e]
    rw [G4, x4, bd_e hr]
    refine ⟨nI n, C, M, by rw [C11], hmm, ?_⟩
    refine BG.inv (n' := n) (cu := 0) (rs := 1) (R := 14200) hB' hA' (by omega) G ?_ Cx Mx M1 C11 ?_ ?_ ?_ ?_ ?_ ?_
    · rw [eC, eX]; exact (((G.D.scp (by decide)).s2 (by decide)).s2 (by decide)).s2 (by decide)
    · rw [eM, s2_k (by decide), s2_k (by decide), s2_at]
    · rw [eC, s2_k (by decide), s2_at]; rfl
    · rw [eM, s2_k (by decide), s2_at]; rfl
    · rw [eC, s2_at]; rfl
    · rw [eM, s2_at]; rfl
    · have zb := zp_b C 11 n
      refine ⟨x6, by omega, fun i hi => (x9 i hi).leg (fun j hj => C13 _ (by omega)) (fun j hj => M13 i j hi hj) m3 m4 (Int.le_refl _), ⟨by omega, ?_⟩, by decide, by decide, fun _ => ⟨rfl, by omega⟩, fun q => absurd q (by decide)⟩
      intro i k hi hk k9 hf
      have e0 : C 13 (i * 14 + 0) = c' 7 (i * 14 + 0) := C13 _ (by omega)
      have e1 : C 13 (i * 14 + 1) = c' 7 (i * 14 + 1) := C13 _ (by omega)
      have hk' : C 13 (i * 14 + 0) = nI k := hk
      show (C 13 (i * 14 + 1)).toInt < (C 1 1).toInt
      rw [e1, Cx 1 (by decide) (by decide), G1, c1F, nI_toInt (by omega)]
      exact ((x9 i hi).2.2 k k9 (e0.symm.trans hk')).2 hf
