/-! delete -/

theorem del_l {m : St} {i n' : Nat} (hn : n' ≤ 20) {J : St → Option (Int32 × St)} : ∀ (d l N : Nat), l + d = n' → i ≤ l → d < N → lp (lb_m_delete_51 (nI n') J) N (nI l, bcp m 1 (300 + 14 * (i + 1)) (300 + 14 * i) (14 * (l - i))) = J (bcp m 1 (300 + 14 * (i + 1)) (300 + 14 * i) (14 * (n' - i))) := by
  intro d
  induction d with
  | zero =>
    intro l N h1 h0 h2
    rw [lp_s (by omega)]
    generalize lp (lb_m_delete_51 (nI n') J) (N - 1) = ih
    unfold lb_m_delete_51
    try dsimp only
    rw [if_pos (nI_le (by omega) (by omega)), show l = n' by omega]
  | succ d ihd =>
    intro l N h1 h0 h2
    rw [lp_s (by omega), ← ihd (l + 1) (N - 1) (by omega) (by omega) (by omega)]
    generalize lp (lb_m_delete_51 (nI n') J) (N - 1) = ih
    have e := copyLeg_m (m := bcp m 1 (300 + 14 * (i + 1)) (300 + 14 * i) (14 * (l - i))) (P := 297) (i := l + 1) (Q := 297) (j := l) (by decide) (by omega) (by decide) (by omega) (by omega)
    have e2 := bcp_add (m := m) (A := 1) (sp := 300 + 14 * (i + 1)) (dp := 300 + 14 * i) (x := 14 * (l - i)) (y := 14) (by omega)
    rw [show 297 + 3 + 14 * (l + 1) = 300 + 14 * (i + 1) + 14 * (l - i) by omega, show 297 + 3 + 14 * l = 300 + 14 * i + 14 * (l - i) by omega, e2, show 14 * (l - i) + 14 = 14 * (l + 1 - i) by omega] at e
    unfold lb_m_delete_51
    try dsimp only
    rw [if_neg (nI_ge (by omega) (by omega)), nI_1, show (297 : Int32) = nI 297 from rfl, bd_e e, Lt_e]
theorem PE.cu' {t na cur fl ed nm q P n cu n0 cu' : Nat} {c m c1 : St} (hP : PE c m q P n cu ed nm na) (z4 : c1 11 2 = nI cu') (z8 : c1 11 2 = c (if ed = 1 then 11 else 8) 2) (h : cu' < 1000) : cu' = cu := by
  have e := hP.c2
  rw [hP.eq, ← z8, z4] at e
  have := hP.cu20
  exact (nI_eq (by omega) (by omega)).mp e
theorem PE.t1 {t na cur fl ed nm q P n cu : Nat} {Ra : Int} {c m : St} (hP : PE c m q P n cu ed nm na) (hB : IB t c m na cur fl ed nm Ra) (hn : 0 < n) : 2 ≤ t := by
  rcases (show ed = 1 ∨ ed ≠ 1 by omega) with x | x
  · exact hB.E.2.2.2 x
  · have := hP.en
    rw [if_neg x] at this
    have := (hB.an.2 (by omega)).2; omega
theorem k_delete {t : Nat} {c m : St} (h : INV t c m) (p1 : Int32) : AQ t (f_FL_delete c p1) (m_delete m p1) := by
  have h' := h
  obtain ⟨na, cur, fl, ed, nm, Ra, hB, hA, hM⟩ := h
  obtain ⟨q, P, n, cu, hP⟩ := pe_of hB
  have n20 := hP.n20
  have cu20 := hP.cu20
  unfold f_FL_delete m_delete
  rw [bd_e hP.q, bd_e hP.P]
  rcases hP.leg p1 with ⟨a, b⟩ | ⟨i, hi, e, a, b⟩
  · rw [bd_e a, bd_e b, if_pos rfl, if_pos rfl]
    exact ⟨_, c, m, rfl, rfl, h'.up⟩
  have cc : (c q 2 < p1) ↔ cu < i := by
    rw [hP.c2, e]
    constructor
    · intro x
      rcases (show cu < i ∨ i ≤ cu by omega) with y | y
      · exact y
      · exact absurd x (nI_nlt y (by omega))
    · intro x; exact nI_lt x (by omega)
  have cm : (m 1 (Int32.toNatClampNeg (nI P + (1 : Int32))) < p1) ↔ cu < i := by
    rw [hP.cur.2, ← hP.c2]; exact cc
  rw [bd_e a, bd_e b, if_neg n10, if_neg n10, Gd_t hP.cur.1]
  by_cases hcu : cu < i
  rotate_left
  · rw [if_neg (fun x => hcu (cc.mp x)), if_neg (fun x => hcu (cm.mp x))]
    exact ⟨_, c, m, rfl, rfl, h'.up⟩
  rw [if_pos (cc.mpr hcu), if_pos (cm.mpr hcu), e]
  obtain ⟨c1, m1, ec, em, G⟩ := begin_lock hB
  obtain ⟨n0, cu', rs, R, z0, z1, z2, z3, z4, z5, z6, z7, z8, z9⟩ := G.M
  have hn : n0 = n := z0.trans hP.en.symm
  subst hn
  have hMP := z9 (by omega)
  have hcu' : cu' = cu := hP.cu' (t := 0) (na := na) (cur := 0) (fl := 0) (n0 := 0) z4 z8 (by have := hMP.2.2.2.1.1; omega)
  subst hcu'
  have ht := hP.t1 hB (by omega)
  have T12 : TabOK c1 12 21 14 := G.D.2.2.2.2.1.2.1
  have cp : ∃ X, f_Tb_copyRows c1 12 12 (nI i + (1 : Int32)) (nI i) ((nI n0 - nI i) - (1 : Int32)) = some X ∧ Dm X ∧ (∀ a, a ≠ 13 → X a = c1 a) ∧ (∀ k, k < i * 14 → X 13 k = c1 13 k) ∧ ∀ k, k < (n0 - i - 1) * 14 → X 13 (i * 14 + k) = c1 13 ((i + 1) * 14 + k) := by
    have e1 : (nI n0 - nI i) - (1 : Int32) = nI (n0 - i - 1) := by rw [pk_sub (by omega), show (1 : Int32) = nI 1 from rfl, pk_sub (by omega)]
    rw [e1, nI_1]
    rcases (show n0 - i - 1 = 0 ∨ 0 < n0 - i - 1 by omega) with z | z
    · rw [z]
      exact ⟨c1, Tb_copy0 (r1 := 0) (w := 14) T12.2.1 T12.2.1, G.D, fun _ _ => rfl, fun _ _ => rfl, fun k hk => by omega⟩
    · have := Tb_copy (i := i + 1) (j := i) T12 T12 z (by omega) (by omega)
      rw [show rc 12 2 = 13 from rfl] at this
      exact ⟨_, this, G.D.scp (by decide), fun a p => scp_ne p, fun k hk => scp_out (by omega), fun k hk => scp_in hk⟩
  obtain ⟨X, eX, DX, X1, X2, X3⟩ := cp
  obtain ⟨C, eC⟩ : ∃ C, C = s2 X 11 1 (nI (n0 - 1)) := ⟨_, rfl⟩
  obtain ⟨M, eM⟩ : ∃ M, M = s2 (bcp m1 1 (300 + 14 * (i + 1)) (300 + 14 * i) (14 * (n0 - 1 - i))) 1 297 (nI (n0 - 1)) := ⟨_, rfl⟩
  have CD : Dm C := by rw [eC]; exact DX.s2 (by decide)
  have C11 : C 11 1 = nI (n0 - 1) := by rw [eC, s2_at]
  have C11k : ∀ k, k ≠ 1 → C 11 k = c1 11 k := fun k p => by rw [eC, s2_k p, X1 11 (by decide)]
  have Cx : ∀ a, a ≠ 11 → a ≠ 13 → C a = c1 a := fun a p q => by rw [eC, s2_ne p, X1 a q]
  have C13 : C 13 = X 13 := by rw [eC, s2_ne (by decide)]
  have Mx : ∀ a, a ≠ 1 → M a = m1 a := fun a p => by rw [eM, s2_ne p, bcp_ne p]
  have M1 : ∀ k, k < 297 ∨ 297 < k → k < 300 + 14 * i ∨ 594 ≤ k → M 1 k = m1 1 k := fun k p p' => by rw [eM, s2_k (by omega), bcp_k (by omega)]
  have M297 : M 1 297 = nI (n0 - 1) := by rw [eM, s2_at]
  have M13 : ∀ l j, i ≤ l → l < n0 - 1 → j < 14 → M 1 (297 + 3 + 14 * l + j) = m1 1 (297 + 3 + 14 * (l + 1) + j) := fun l j p p' hj => by
    rw [eM, s2_k (by omega), show 297 + 3 + 14 * l + j = 300 + 14 * i + (14 * (l - i) + j) by omega, bcp_in (by omega), show 300 + 14 * (i + 1) + (14 * (l - i) + j) = 297 + 3 + 14 * (l + 1) + j by omega]
  have x13 : ∀ l j, i ≤ l → l < n0 - 1 → j < 14 → C 13 (l * 14 + j) = c1 13 ((l + 1) * 14 + j) := fun l j p p' hj => by
    rw [C13, show l * 14 + j = i * 14 + ((l - i) * 14 + j) by omega, X3 _ (by omega), show (i + 1) * 14 + ((l - i) * 14 + j) = (l + 1) * 14 + j by omega]
  have y13 : ∀ l j, l < i → j < 14 → C 13 (l * 14 + j) = c1 13 (l * 14 + j) := fun l j p hj => by rw [C13, X2 _ (by omega)]
  have m3 : M 3 = m1 3 := Mx 3 (by decide)
  have m4 : M 4 = m1 4 := Mx 4 (by decide)
  have legs : ∀ l, l < n0 - 1 → LegR C M 11 297 R l := fun l hl => by
    rcases (show l < i ∨ i ≤ l by omega) with p | p
    · have hL := hMP.2.2.1 l (by omega)
      exact hL.tr (fun j hj => y13 l j p hj) (fun j hj => M1 _ (by omega) (by omega)) m3 m4 (Int.le_refl _) (fun x => hL.k8 x)
    · have hL := hMP.2.2.1 (l + 1) (by omega)
      exact hL.tr (fun j hj => x13 l j p hl hj) (fun j hj => M13 l j p hl hj) m3 m4 (Int.le_refl _) (fun x => by have := hL.k8 x; omega)
  have C1 : C 1 = c1 1 := Cx 1 (by decide) (by decide)
  have fb : FB C 11 (n0 - 1) := by
    intro l k hl hk k9 hf
    have F0 := hMP.2.2.2.1.2
    have hk' : C 13 (l * 14 + 0) = nI k := hk
    show (C 13 (l * 14 + 1)).toInt < (C 1 1).toInt
    rw [C1]
    rcases (show l < i ∨ i ≤ l by omega) with p | p
    · rw [y13 l 0 p (by decide)] at hk'
      rw [y13 l 1 p (by decide)]
      exact F0 l k (by omega) hk' k9 hf
    · rw [x13 l 0 p hl (by decide)] at hk'
      rw [x13 l 1 p hl (by decide)]
      exact F0 (l + 1) k (by omega) hk' k9 hf
  have fin : ∀ C2 M2 : St, Dm C2 → (∀ a, a ≠ 13 → C2 a = C a) → (∀ a, a ≠ 1 → M2 a = M a) → (∀ k, k < 300 ∨ 594 ≤ k → M2 1 k = M 1 k) → (∀ l, l < n0 - 1 → LegR C2 M2 11 297 R l) → FB C2 11 (n0 - 1) → INV (t + 1) C2 M2 := by
    intro C2 M2 d1 d2 d3 d4 d5 d6
    refine BG.inv (n' := n0 - 1) (cu := cu') (rs := rs) (R := R) hB hA (by omega) G d1 (fun a p q => (d2 a q).trans (Cx a p q)) (fun a p => (d3 a p).trans (Mx a p)) (fun k p => by rw [d4 k (by omega), M1 k (by omega) (by omega)]) (by rw [d2 11 (by decide)]; exact C11) (by rw [d4 297 (by omega)]; exact M297) (by rw [d2 11 (by decide), C11k 2 (by decide)]; exact z4) (by rw [d4 298 (by omega), M1 298 (by omega) (by omega)]; exact z5) (by rw [d2 11 (by decide), C11k 3 (by decide)]; exact z6) (by rw [d4 299 (by omega), M1 299 (by omega) (by omega)]; exact z7) ?_
    exact hMP.ch (by omega) (by omega) d5 d6 (by omega)
  have er : f_Pl_removeLeg c1 11 (nI i) = (if nI (n0 - 1) ≤ nI i then some C else some (s2 C 13 (i * 14 + 13) (nI 1))) := by
    have pc : f_Tb_put C 12 (nI i) (13 : Int32) (1 : Int32) = some (s2 C 13 (i * 14 + 13) (nI 1)) := put_c (j := 13) (v := 1) CD (show i < 21 by omega) (by decide)
    unfold f_Pl_removeLeg
    rw [show rc 11 0 = 12 from rfl, z2, bd_e eX, X1 11 (by decide), z2, show nI n0 - (1 : Int32) = nI (n0 - 1) by rw [show (1 : Int32) = nI 1 from rfl, pk_sub (by omega)], ← eC, Lt_e, Jn_e, C11]
    by_cases z : nI (n0 - 1) ≤ nI i
    · rw [if_pos z, if_pos z]
    · rw [if_neg z, if_neg z, bd_e pc]
  have mc : m_count m1 (297 : Int32) = some (nI n0) := (mcount (P := 297) (by decide)).trans (congrArg some z3)
  have lo := fun J => del_l (m := m1) (i := i) (n' := n0 - 1) (J := J) (by omega) (n0 - 1 - i) i 4000 (by omega) (Nat.le_refl _) (by omega)
  rw [show 14 * (i - i) = 0 by omega, bcp_0] at lo
  rw [bd_e ec, bd_e em, bd_e mc, Lt_e, show nI n0 - (1 : Int32) = nI (n0 - 1) by rw [show (1 : Int32) = nI 1 from rfl, pk_sub (by omega)], Jn_e, lo]
  try dsimp only
  rw [er, Gd_t (by decide), Lt_e, show Int32.toNatClampNeg (297 : Int32) = 297 by decide, ← eM, Jn_e]
  by_cases z : n0 - 1 ≤ i
  · have z' : nI (n0 - 1) ≤ nI i := nI_le z (by omega)
    rw [if_pos z', if_pos z', bd_e rfl]
    exact ⟨nI (n0 - 1), C, M, by rw [C11], rfl, fin C M CD (fun _ _ => rfl) (fun _ _ => rfl) (fun _ _ => rfl) legs fb⟩
  · have z' : ¬ nI (n0 - 1) ≤ nI i := nI_ge (by omega) (by omega)
    have pm : m_sets M (297 : Int32) (nI i) (13 : Int32) (1 : Int32) = some (s2 M 1 (297 + 3 + 14 * i + 13) (nI 1)) := sets_m (j := 13) (v := 1) (show i < 21 by omega) (by decide)
    rw [if_neg z', if_neg z', bd_e rfl, bd_e pm]
    refine ⟨nI (n0 - 1), _, _, by rw [s2_ne (by decide), C11], rfl, fin _ _ (CD.s2 (by decide)) (fun a p => s2_ne p) (fun a p => s2_ne p) (fun k p => s2_k (by omega)) (fun l hl => (legs l hl).set (q := 11) (P := 297) (j := 13) (by decide) (by decide) (Or.inr (Or.inr ⟨by decide, by decide⟩))) (FB.set (q := 11) fb (by decide) (by decide) (by decide))⟩
