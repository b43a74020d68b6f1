/-! insert: the call -/

theorem FT.pe {t na ed nm na' cur' fl' ed' nm' q P n cu : Nat} {Ra' : Int} {c m c' m' : St} (f : FT c m c' m') (hP : PE c m q P n cu ed nm na) (hB' : IB t c' m' na' cur' fl' ed' nm' Ra') : PE c' m' q P n cu ed' nm' na' := by
  obtain ⟨q', P', n', cu', hP'⟩ := pe_of hB'
  have n20 := hP.n20
  have n20' := hP'.n20
  have u20 := hP.cu20
  have u20' := hP'.cu20
  have Pl := hP.Pl
  have Pl' := hP'.Pl
  obtain ⟨b, hI⟩ := hP.I
  have hlt := hI.lt
  have e1 : f_FL_planToEdit c' = f_FL_planToEdit c := by
    unfold f_FL_planToEdit
    rw [f.2.1 0 (by decide) (by decide)]
  have e2 : m_edited m' = m_edited m := by
    unfold m_edited
    rw [f.2.2.2.2 1 (by decide)]
  have eq : q' = q := by
    have := hP'.q
    rw [e1, hP.q] at this
    exact (Option.some.inj this).symm
  subst eq
  have eP : P' = P := by
    have := hP'.P
    rw [e2, hP.P] at this
    exact ((nI_eq (by omega) (by omega)).mp (Option.some.inj this)).symm
  subst eP
  have cq : c' q' = c q' := f.2.1 q' (by omega) (by omega)
  have en : n' = n := by
    have := hP'.cc
    rw [cq, hP.cc] at this
    exact ((nI_eq (by omega) (by omega)).mp this).symm
  subst en
  have ec : cu' = cu := by
    have := hP'.c2
    rw [cq, hP.c2] at this
    exact ((nI_eq (by omega) (by omega)).mp this).symm
  subst ec
  exact hP'
theorem k_insert {t : Nat} {c m : St} (ht : t ≤ 511) (h : INV t c m) (p1 : Int32) : AQ t (f_FL_insert c p1) (m_insert m p1) := by
  have h' := h
  obtain ⟨na, cur, fl, ed, nm, Ra, hB, hA, hM⟩ := h
  obtain ⟨q, P, n, cu, hP⟩ := pe_of hB
  have n20 := hP.n20
  have cu20 := hP.cu20
  have Pl := hP.Pl
  have mc : m_count m (nI P) = some (nI n) := (mcount (by omega)).trans (congrArg some hP.cm)
  unfold f_FL_insert m_insert
  rw [bd_e hP.q, bd_e hP.P, bd_e mc, hP.cc]
  rcases wi (p := p1) (a := 0) (b := nI n) (a' := 0) (b' := (nI n).toInt64) (by decide) (tw _) with ⟨a, b, lo, hi⟩ | ⟨a, b⟩
  rotate_left
  · rw [bd_e a, bd_e b, if_pos rfl, if_pos rfl]
    exact ⟨_, c, m, rfl, rfl, h'.up⟩
  have lo : 0 ≤ p1.toInt := lo
  rw [nI_toInt (by omega)] at hi
  obtain ⟨idx, rfl, hidx⟩ : ∃ i : Nat, p1 = nI i ∧ i ≤ n := ⟨p1.toInt.toNat, i2 (by rw [nI_toInt (by omega)]; omega), by omega⟩
  rw [bd_e a, bd_e b, if_neg n10, if_neg n10]
  obtain ⟨L, F, hl, F1, F2, hp⟩ := parse_lock hB
  rcases hp with ⟨c', m', z, x1, x2, x3, x4, x5⟩ | ⟨c', m', tl, x1, x2, x3, x4, x5, x6, x7, x8, x9⟩
  · rw [bd_e x1, bd_e x2, Jn_e, if_neg (nI_nn (by omega)), Jn_e, if_pos rfl]
    exact ⟨_, _, _, rfl, rfl, (FT.inv h' x3).up⟩
  have hI' := FT.inv h' x3
  have hI2 := hI'
  obtain ⟨na', cur', fl', ed', nm', Ra', hB', hA', hM'⟩ := hI'
  have hP' := x3.pe hP hB'
  have c1F : c' 1 1 = nI F := by rw [x3.2.1 1 (by decide) (by decide)]; exact F2
  rw [bd_e x1, bd_e x2, Jn_e, if_pos rfl, Jn_e, Jn_e, if_neg n10, Jn_e]
  try dsimp only
  have core : (0 < n → cu < idx) → AQ t
      (Option.bind (f_Tb_get c' 6 ((c' 4 4) - (1 : Int32)) (1 : Int32)) fun x6 => Option.bind (f_Pl_legsUpToFix c' q (nI idx) x6) fun x7 => if (((c' q 1) - x7) + (c' 4 4) : Int32) ≤ (20 : Int32) then (Option.bind (f_FL_beginEdit c') fun x8 => Option.bind (f_Pl_splice x8 11 (nI idx) x7 6 (x8 4 4)) fun x9 => some ((x9 11 1), x9)) else some ((-1000004 : Int32), c'))
      (Option.bind (m_joined m' (nI P) (nI idx)) fun x7 => Jn (fun (x8 : Int32) => Lt ((((nI idx + (m' 0 73)) + nI n) - x8) : Int32) fun x10 => if (x10 : Int32) ≤ (20 : Int32) then (Option.bind (m_begins m') fun x11 => Option.bind (m_copyPlan x11 (297 : Int32) (594 : Int32)) fun x12 => Jn (fun (σ13 : St) => Jn (fun (σ15 : St) => Gd (Ix (297 : Int32) 2673) <| Lt (s2 σ15 1 (Int32.toNatClampNeg (297 : Int32)) x10) fun σ17 => Jn (fun (σ18 : St) => some (x10, σ18)) fun J19 => if (0 : Int32) ≤ x7 then J19 σ17 else if (nI n : Int32) ≤ nI idx then J19 σ17 else Option.bind (m_sets σ17 (297 : Int32) (nI idx + (σ17 0 73)) (13 : Int32) (1 : Int32)) fun x20 => J19 x20) fun J16 => lp (lb_m_insert_149 (nI idx) (nI n) x8 J16) 4000 (x8, σ13)) fun J14 => lp (lb_m_insert_117 (nI idx) J14) 4000 ((0 : Int32), x12)) else some ((-1000004 : Int32), m')) fun J9 => if (0 : Int32) ≤ x7 then J9 (x7 + (1 : Int32)) else J9 (nI idx)) := by
    intro hcu
    obtain ⟨x, rem, g1, g2, g3, g4⟩ := join_lock hB'.D hP' F1 x4 x5 x6 x7 (x9 (tl - 1) (by omega)) hidx
    rw [hP'.cc, x4, bd_e g1, bd_e g2, x5]
    have e1 : (nI n - nI rem) + nI tl = nI (n - rem + tl) := by rw [pk_sub (by omega), nI_add]
    obtain ⟨xj, ej, ej0, ejn⟩ : ∃ xj : Int32, m_joined m' (nI P) (nI idx) = some xj ∧ ((0 : Int32) ≤ xj ↔ 0 < rem) ∧ (if (0 : Int32) ≤ xj then xj + (1 : Int32) else nI idx) = nI (idx + rem) := by
      rcases g4 with ⟨r0, r1⟩ | ⟨r0, r1⟩
      · exact ⟨-1, r1, ⟨fun q => absurd q (by decide), fun q => by omega⟩, by rw [if_neg (by decide), r0]; rfl⟩
      · exact ⟨_, r1, ⟨fun _ => r0, fun _ => nI_pos' (by omega)⟩, by rw [if_pos (nI_pos' (by omega)), nI_1, show idx + rem - 1 + 1 = idx + rem by omega]⟩
    rw [bd_e ej, Jn_if, ejn, Lt_e, e1]
    have e2 : ((nI idx + nI tl) + nI n) - nI (idx + rem) = nI (n - rem + tl) := by rw [nI_add, nI_add, pk_sub (by omega), show idx + tl + n - (idx + rem) = n - rem + tl by omega]
    rw [e2]
    by_cases h20 : n - rem + tl ≤ 20
    rotate_left
    · have z : ¬ nI (n - rem + tl) ≤ (20 : Int32) := nI_ge (b := n - rem + tl) (a := 20) (by omega) (by omega)
      rw [if_neg z, if_neg z]
      exact ⟨_, c', m', rfl, rfl, hI2.up⟩
    have z20 : nI (n - rem + tl) ≤ (20 : Int32) := nI_le (b := 20) h20 (by decide)
    rw [if_pos z20, if_pos z20]
    obtain ⟨c1, m1, ec, em, G⟩ := begin_lock hB'
    obtain ⟨n0, cu', rs, R0, z0, z1, z2, z3, z4, z5, z6, z7, z8, z9⟩ := G.M
    have hn : n0 = n := z0.trans hP'.en.symm
    subst hn
    have G4 : c1 4 = c' 4 := G.fc 4 (by decide) (by decide) (by decide) (by decide) (by decide) (by decide) (by decide)
    have G7 : c1 7 = c' 7 := G.fc 7 (by decide) (by decide) (by decide) (by decide) (by decide) (by decide) (by decide)
    have G1 : c1 1 = c' 1 := G.fc 1 (by decide) (by decide) (by decide) (by decide) (by decide) (by decide) (by decide)
    have g73 : m1 0 73 = nI tl := by rw [G.g0 73 (by decide) (by decide)]; exact x5
    have g43 : m1 43 = m' 43 := G.fm 43 (by decide)
    have T12 : TabOK c1 12 21 14 := G.D.2.2.2.2.1.2.1
    -- the class's rows
    have cp1 : ∃ X, f_Tb_copyRows c1 12 12 (nI idx + nI rem) (nI idx + nI tl) ((nI n0 - nI idx) - nI rem) = some X ∧ Dm X ∧ (∀ a, a ≠ 13 → X a = c1 a) ∧ (∀ k, k < idx * 14 → X 13 k = c1 13 k) ∧ ∀ k, k < (n0 - idx - rem) * 14 → X 13 ((idx + tl) * 14 + k) = c1 13 ((idx + rem) * 14 + k) := by
      have e1 : (nI n0 - nI idx) - nI rem = nI (n0 - idx - rem) := by rw [pk_sub (by omega), pk_sub (by omega)]
      rw [e1, nI_add, nI_add]
      rcases (show n0 - idx - rem = 0 ∨ 0 < n0 - idx - rem by omega) with z | z
      · rw [z]
        exact ⟨c1, Tb_copy0 (r1 := 0) (w := 14) T12.2.1 T12.2.1, G.D, fun _ _ => rfl, fun _ _ => rfl, fun k hk => by omega⟩
      · have := Tb_copy (i := idx + rem) (j := idx + tl) T12 T12 z (by omega) (by omega)
        rw [show rc 12 2 = 13 from rfl] at this
        exact ⟨_, this, G.D.scp (by decide), fun a p => scp_ne p, fun k hk => scp_out (by omega), fun k hk => scp_in hk⟩
    obtain ⟨X, eX, DX, X1, X2, X3⟩ := cp1
    have cp2 := Tb_copy (i := 0) (j := idx) (t := 12) (u := 6) DX.2.2.2.2.1.2.1 DX.2.1 (show 0 < tl by omega) (by omega) (by omega)
    rw [show rc 6 2 = 7 from rfl, show rc 12 2 = 13 from rfl] at cp2
    obtain ⟨Y, eY⟩ : ∃ Y, Y = scp X 7 13 (0 * 14) (idx * 14) (tl * 14) := ⟨_, rfl⟩
    rw [← eY] at cp2
    have cp2' : f_Tb_copyRows X 12 6 (0 : Int32) (nI idx) (nI tl) = some Y := cp2
    have DY : Dm Y := by rw [eY]; exact DX.scp (by decide)
    have Y1 : ∀ a, a ≠ 13 → Y a = c1 a := fun a p => by rw [eY, scp_ne p, X1 a p]
    have ya : ∀ l j, l < idx → j < 14 → Y 13 (l * 14 + j) = c1 13 (l * 14 + j) := fun l j p hj => by rw [eY, scp_out (by omega), X2 _ (by omega)]
    have yb : ∀ l j, l < tl → j < 14 → Y 13 ((idx + l) * 14 + j) = c' 7 (l * 14 + j) := fun l j p hj => by
      rw [eY, show (idx + l) * 14 + j = idx * 14 + (l * 14 + j) by omega, scp_in (by omega), X1 7 (by decide), G7, show 0 * 14 + (l * 14 + j) = l * 14 + j by omega]
    have yc : ∀ l j, l < n0 - idx - rem → j < 14 → Y 13 ((idx + tl + l) * 14 + j) = c1 13 ((idx + rem + l) * 14 + j) := fun l j p hj => by
      rw [eY, scp_out (by omega), show (idx + tl + l) * 14 + j = (idx + tl) * 14 + (l * 14 + j) by omega, X3 _ (by omega), show (idx + rem) * 14 + (l * 14 + j) = (idx + rem + l) * 14 + j by omega]
    -- the reference's rows
    obtain ⟨M2, eM2⟩ : ∃ M, M = plc m1 297 594 297 := ⟨_, rfl⟩
    obtain ⟨M3, eM3⟩ : ∃ M, M = bcp M2 43 0 (300 + 14 * idx) (14 * tl) := ⟨_, rfl⟩
    obtain ⟨M4, eM4⟩ : ∃ M, M = bcp M3 1 (597 + 14 * (idx + rem)) (300 + 14 * (idx + tl)) (14 * (n0 - (idx + rem))) := ⟨_, rfl⟩
    obtain ⟨M, eM⟩ : ∃ M, M = s2 M4 1 297 (nI (n0 - rem + tl)) := ⟨_, rfl⟩
    have M2x : ∀ a, a ≠ 1 → M2 a = m1 a := fun a p => by rw [eM2, plc_ne p]
    have M3x : ∀ a, a ≠ 1 → M3 a = m1 a := fun a p => by rw [eM3, bcp_ne p, M2x a p]
    have M4x : ∀ a, a ≠ 1 → M4 a = m1 a := fun a p => by rw [eM4, bcp_ne p, M3x a p]
    have Mx : ∀ a, a ≠ 1 → M a = m1 a := fun a p => by rw [eM, s2_ne p, M4x a p]
    have M1 : ∀ k, k ≠ 297 → k < 300 + 14 * idx ∨ 891 ≤ k → k < 594 ∨ 891 ≤ k → M 1 k = m1 1 k := fun k p p1 p2 => by rw [eM, s2_k p, eM4, bcp_k (by omega), eM3, bcp_k (by omega), eM2, plc_k (by omega)]
    have ma : ∀ l j, l < idx → j < 14 → M 1 (297 + 3 + 14 * l + j) = m1 1 (297 + 3 + 14 * l + j) := fun l j p hj => M1 _ (by omega) (by omega) (by omega)
    have mb : ∀ l j, l < tl → j < 14 → M 1 (297 + 3 + 14 * (idx + l) + j) = m' 43 (14 * l + j) := fun l j p hj => by
      rw [eM, s2_k (by omega), eM4, bcp_k (by omega), eM3, show 297 + 3 + 14 * (idx + l) + j = 300 + 14 * idx + (14 * l + j) by omega, bcp_in (by omega), M2x 43 (by decide), g43, show 0 + (14 * l + j) = 14 * l + j by omega]
    have mc' : ∀ l j, l < n0 - idx - rem → j < 14 → M 1 (297 + 3 + 14 * (idx + tl + l) + j) = m1 1 (297 + 3 + 14 * (idx + rem + l) + j) := fun l j p hj => by
      rw [eM, s2_k (by omega), eM4, show 297 + 3 + 14 * (idx + tl + l) + j = 300 + 14 * (idx + tl) + (14 * l + j) by omega, bcp_in (by omega), eM3, bcp_k (by omega), eM2, show 597 + 14 * (idx + rem) + (14 * l + j) = 594 + (3 + 14 * (idx + rem + l) + j) by omega, plc_at (by omega), show 297 + (3 + 14 * (idx + rem + l) + j) = 297 + 3 + 14 * (idx + rem + l) + j by omega]
    have m3 : M 3 = m1 3 := Mx 3 (by decide)
    have m4 : M 4 = m1 4 := Mx 4 (by decide)
    have m3' : M 3 = m' 3 := m3.trans (G.fm 3 (by decide))
    have m4' : M 4 = m' 4 := m4.trans (G.fm 4 (by decide))
    have ht1 : 1 ≤ t := by omega
    -- the new plan's bounds, its current leg
    obtain ⟨cu2, rs2, R, w1, w2, w3, w4, w5, w6, w7⟩ : ∃ (cu2 rs2 : Nat) (R : Int), c1 11 2 = nI cu2 ∧ m1 1 298 = nI cu2 ∧ c1 11 3 = nI rs2 ∧ m1 1 299 = nI rs2 ∧ 14200 ≤ R ∧ cu2 < n0 - rem + tl ∧ ∀ (C2 M2 : St), (∀ l, l < n0 - rem + tl → (0 < n0 → ∀ i, i < n0 → LegR c1 m1 11 297 R i) → LegR C2 M2 11 297 R l) → ((0 < n0 → FB c1 11 n0) → FB C2 11 (n0 - rem + tl)) → MP (t + 1) C2 M2 11 297 (n0 - rem + tl) cu2 rs2 R cur' fl' := by
      rcases (show n0 = 0 ∨ 0 < n0 by omega) with z | z
      · have he : ed' = 0 := by
          rcases (show ed' = 0 ∨ ed' = 1 by have := hB'.E.1; omega) with y | y
          · exact y
          · obtain ⟨_, _, _, _, _, _, _, _, _, b7⟩ := hB'.M y
            rw [if_pos y] at z0
            have := b7.1
            omega
        have hna : na' = 0 := by rw [if_neg (by omega)] at z0; omega
        obtain ⟨hc0, hf0⟩ := hB'.an.1 hna
        have hcu0 : c1 11 2 = nI 0 := by rw [z8, if_neg (by omega), hB'.ac.1, hc0]
        have hm0 : m1 1 298 = nI 0 := by rw [z5, ← z4]; exact hcu0
        refine ⟨0, rs, 14200, hcu0, hm0, z6, z7, Int.le_refl _, by omega, fun C2 M2 d1 d2 => ?_⟩
        have zb := zp_b C2 11 (n0 - rem + tl)
        have sb : sp cur' fl' = 0 := by rw [hc0, hf0]; rfl
        refine ⟨by omega, h20, fun l hl => d1 l hl (fun y => by omega), ⟨by omega, d2 (fun y => by omega)⟩, z1.2.1, Int.le_refl _, fun _ => ⟨rfl, by omega⟩, fun _ => ⟨hc0.symm, by rw [sb]; omega⟩⟩
      · have hMP := z9 z
        have hcu' : cu' = cu := hP'.cu' (t := 0) (na := na') (cur := 0) (fl := 0) (n0 := 0) z4 z8 (by have := hMP.2.2.2.1.1; omega)
        have := hcu z
        exact ⟨cu', rs, R0, z4, z5, z6, z7, hMP.2.2.2.2.2.1, by omega, fun C2 M2 d1 d2 => hMP.ch (by omega) h20 (fun l hl => d1 l hl (fun _ => hMP.2.2.1)) (d2 (fun _ => hMP.2.2.2.1.2)) (by omega)⟩
    have hcase : ∀ l, l < n0 - rem + tl → l < idx ∨ (∃ k, k < tl ∧ l = idx + k) ∨ ∃ k, k < n0 - idx - rem ∧ l = idx + tl + k := fun l hl => by
      rcases (show l < idx ∨ (idx ≤ l ∧ l < idx + tl) ∨ idx + tl ≤ l by omega) with p | p | p
      · exact Or.inl p
      · exact Or.inr (Or.inl ⟨l - idx, by omega, by omega⟩)
      · exact Or.inr (Or.inr ⟨l - idx - tl, by omega, by omega⟩)
    have legs : ∀ l, l < n0 - rem + tl → (0 < n0 → ∀ i, i < n0 → LegR c1 m1 11 297 R i) → LegR Y M 11 297 R l := fun l hl hold => by
      rcases hcase l hl with p | ⟨k, p, rfl⟩ | ⟨k, p, rfl⟩
      · have hL := hold (by omega) l (by omega)
        exact hL.tr (fun j hj => ya l j p hj) (fun j hj => ma l j p hj) m3 m4 (Int.le_refl _) (fun x => hL.k8 x)
      · exact (x9 k p).leg (fun j hj => yb k j p hj) (fun j hj => mb k j p hj) m3' m4' w5
      · have hL := hold (by omega) (idx + rem + k) (by omega)
        have := hcu (by omega)
        exact hL.tr (fun j hj => yc k j p hj) (fun j hj => mc' k j p hj) m3 m4 (Int.le_refl _) (fun x => by have := hL.k8 x; omega)
    have Yc1 : Y 1 = c1 1 := Y1 1 (by decide)
    have fb : (0 < n0 → FB c1 11 n0) → FB Y 11 (n0 - rem + tl) := fun hold => by
      intro l k hl hk k9 hf
      have hk' : Y 13 (l * 14 + 0) = nI k := hk
      show (Y 13 (l * 14 + 1)).toInt < (Y 1 1).toInt
      rw [Yc1]
      rcases hcase l hl with p | ⟨r, p, rfl⟩ | ⟨r, p, rfl⟩
      · rw [ya l 0 p (by decide)] at hk'
        rw [ya l 1 p (by decide)]
        exact hold (by omega) l k (by omega) hk' k9 hf
      · rw [yb r 0 p (by decide)] at hk'
        rw [yb r 1 p (by decide), G1, c1F, nI_toInt (by omega)]
        exact ((x9 r p).2.2 k k9 hk').2 hf
      · rw [yc r 0 p (by decide)] at hk'
        rw [yc r 1 p (by decide)]
        exact hold (by omega) (idx + rem + r) k (by omega) hk' k9 hf
    -- both calls
    have lo1 := fun J => ins1_l (m := M2) (idx := idx) (tl := tl) (J := J) (by rw [M2x 0 (by decide)]; exact g73) x7 (by omega) tl 0 4000 (by omega) (by omega)
    rw [show 14 * 0 = 0 from rfl, bcp_0, ← eM3] at lo1
    have lo1' : ∀ J, lp (lb_m_insert_117 (nI idx) J) 4000 ((0 : Int32), M2) = J M3 := lo1
    have lo2 := fun J => ins2_l (m := M3) (idx := idx) (tl := tl) (n := n0) (nx := idx + rem) (J := J) (by rw [M3x 0 (by decide)]; exact g73) x7 n20 g3 (by omega) (n0 - (idx + rem)) (idx + rem) 4000 (by omega) (Nat.le_refl _) (by omega)
    rw [show 14 * (idx + rem - (idx + rem)) = 0 by omega, bcp_0, ← eM4] at lo2
    have cpl : m_copyPlan m1 (297 : Int32) (594 : Int32) = some M2 := by rw [eM2]; exact cpl_m (P := 297) (Q := 594) (by decide) (by decide) (by decide)
    have M73 : M 0 73 = nI tl := by rw [Mx 0 (by decide)]; exact g73
    have Y11 : Y 11 1 = nI n0 := by rw [Y1 11 (by decide)]; exact z2
    have fin : ∀ C2 N2 : St, Dm C2 → (∀ a, a ≠ 11 → a ≠ 13 → C2 a = c1 a) → C2 11 1 = nI (n0 - rem + tl) → (∀ k, k ≠ 1 → C2 11 k = c1 11 k) → (∀ a, a ≠ 1 → N2 a = M a) → (∀ k, k < 300 ∨ 594 ≤ k → N2 1 k = M 1 k) → (∀ l, l < n0 - rem + tl → (0 < n0 → ∀ i, i < n0 → LegR c1 m1 11 297 R i) → LegR C2 N2 11 297 R l) → ((0 < n0 → FB c1 11 n0) → FB C2 11 (n0 - rem + tl)) → INV (t + 1) C2 N2 := by
      intro C2 N2 d1 d2 d3 d4 d5 d6 d7 d8
      exact BG.inv2 (n' := n0 - rem + tl) (cu := cu2) (rs := rs2) (R := R) hB' hA' ht1 G d1 d2 (fun a p => (d5 a p).trans (Mx a p)) (fun k p => by rw [d6 k (by omega), M1 k (by omega) (by omega) (by omega)]) d3 (by rw [d6 297 (by omega), eM, s2_at]) (by rw [d4 2 (by decide)]; exact w1) (by rw [d6 298 (by omega), M1 298 (by omega) (by omega) (by omega)]; exact w2) (by rw [d4 3 (by decide)]; exact w3) (by rw [d6 299 (by omega), M1 299 (by omega) (by omega) (by omega)]; exact w4) (w7 C2 N2 d7 d8)
    rw [bd_e ec, bd_e em, bd_e cpl, G4, x4, Jn_e, lo1']
    try dsimp only
    rw [Jn_e, lo2]
    try dsimp only
    rw [Gd_t (by decide), Lt_e, show Int32.toNatClampNeg (297 : Int32) = 297 by decide, ← eM, Jn_e]
    by_cases hg : rem = 0 ∧ idx < n0
    · obtain ⟨r0, r1⟩ := hg
      have hst : ∀ C : St, Dm C → f_Tb_put C 12 (nI (idx + tl)) (13 : Int32) (1 : Int32) = some (s2 C 13 ((idx + tl) * 14 + 13) (nI 1)) := fun C hD => put_c (j := 13) (v := 1) hD (show idx + tl < 21 by omega) (by decide)
      have hsm : m_sets M (297 : Int32) (nI (idx + tl)) (13 : Int32) (1 : Int32) = some (s2 M 1 (297 + 3 + 14 * (idx + tl) + 13) (nI 1)) := sets_m (j := 13) (v := 1) (show idx + tl < 21 by omega) (by decide)
      have es : f_Pl_splice c1 11 (nI idx) (nI rem) 6 (nI tl) = some (s2 (s2 Y 13 ((idx + tl) * 14 + 13) (nI 1)) 11 1 (nI (n0 - rem + tl))) := by
        unfold f_Pl_splice
        rw [show rc 11 0 = 12 from rfl, z2, bd_e eX, bd_e cp2', Jn_e, if_pos (show nI rem = 0 by rw [r0]; rfl), Y11, if_neg (nI_ge r1 (by omega)), nI_add, bd_e (hst Y DY)]
        try dsimp only
        rw [Lt_e, s2_ne (show (11 : Nat) ≠ 13 by decide), Y11, e1]
      rw [bd_e es, if_neg (fun y => by have := ej0.mp y; omega), if_neg (nI_ge r1 (by omega)), M73, nI_add, bd_e hsm]
      refine ⟨nI (n0 - rem + tl), _, _, by rw [s2_at], rfl, fin _ _ ((DY.s2 (by decide)).s2 (by decide)) (fun a p p' => by rw [s2_ne p, s2_ne p', Y1 a p']) s2_at (fun k p => by rw [s2_k p, s2_ne (by decide), Y1 11 (by decide)]) (fun a p => s2_ne p) (fun k p => s2_k (by omega)) (fun l hl hold => ?_) (fun hold => ?_)⟩
      · exact ((legs l hl hold).set (q := 11) (P := 297) (i := idx + tl) (j := 13) (v := 1) (by decide) (by decide) (Or.inr (Or.inr ⟨by decide, by decide⟩))).of1 (s2_ne (by decide)) rfl rfl rfl
      · exact (FB.set (q := 11) (i := idx + tl) (j := 13) (v := 1) (fb hold) (by decide) (by decide) (by decide)).of (s2_ne (by decide)) (by rw [s2_ne (by decide)])
    · have es : f_Pl_splice c1 11 (nI idx) (nI rem) 6 (nI tl) = some (s2 Y 11 1 (nI (n0 - rem + tl))) := by
        unfold f_Pl_splice
        rw [show rc 11 0 = 12 from rfl, z2, bd_e eX, bd_e cp2', Jn_e, Y11]
        by_cases r0 : rem = 0
        · rw [if_pos (show nI rem = 0 by rw [r0]; rfl), if_pos (nI_le (by omega) (by omega))]
          try dsimp only
          rw [Lt_e, Y11, e1]
        · rw [if_neg (show ¬ nI rem = 0 from fun y => r0 ((nI_eq (b := 0) (by omega) (by decide)).mp y))]
          try dsimp only
          rw [Lt_e, Y11, e1]
      rw [bd_e es]
      have em2 : (if (0 : Int32) ≤ xj then (fun (σ18 : St) => some (nI (n0 - rem + tl), σ18)) M else if (nI n0 : Int32) ≤ nI idx then (fun (σ18 : St) => some (nI (n0 - rem + tl), σ18)) M else Option.bind (m_sets M (297 : Int32) (nI idx + (M 0 73)) (13 : Int32) (1 : Int32)) fun x20 => (fun (σ18 : St) => some (nI (n0 - rem + tl), σ18)) x20) = some (nI (n0 - rem + tl), M) := by
        by_cases r0 : 0 < rem
        · rw [if_pos (ej0.mpr r0)]
        · rw [if_neg (fun y => r0 (ej0.mp y)), if_pos (nI_le (by omega) (by omega))]
      refine ⟨nI (n0 - rem + tl), _, _, by rw [s2_at], em2, fin _ _ (DY.s2 (by decide)) (fun a p p' => by rw [s2_ne p, Y1 a p']) s2_at (fun k p => by rw [s2_k p, Y1 11 (by decide)]) (fun _ _ => rfl) (fun _ _ => rfl) (fun l hl hold => (legs l hl hold).of1 (s2_ne (by decide)) rfl rfl rfl) (fun hold => (fb hold).of (s2_ne (by decide)) (by rw [s2_ne (by decide)]))⟩
  by_cases z0 : n = 0
  · have z0' : nI n ≤ 0 := by rw [z0]; decide
    rw [if_pos (show c' q 1 ≤ 0 by rw [hP'.cc]; exact z0'), if_pos z0']
    exact core (fun y => by omega)
  · have z0' : ¬ nI n ≤ 0 := nI_nle (by omega) (by omega)
    have mcu : m' 1 (Int32.toNatClampNeg (nI P + (1 : Int32))) = nI cu := hP'.cur.2
    rw [if_neg (show ¬ c' q 1 ≤ 0 by rw [hP'.cc]; exact z0'), if_neg z0', Gd_t hP.cur.1]
    by_cases hcu : cu < idx
    · rw [if_pos (show c' q 2 < nI idx by rw [hP'.c2]; exact nI_lt hcu (by omega)), if_pos (show m' 1 (Int32.toNatClampNeg (nI P + (1 : Int32))) < nI idx by rw [mcu]; exact nI_lt hcu (by omega))]
      exact core (fun _ => hcu)
    · rw [if_neg (show ¬ c' q 2 < nI idx by rw [hP'.c2]; exact nI_nlt (by omega) (by omega)), if_neg (show ¬ m' 1 (Int32.toNatClampNeg (nI P + (1 : Int32))) < nI idx by rw [mcu]; exact nI_nlt (by omega) (by omega))]
      exact ⟨_, _, _, rfl, rfl, hI2.up⟩
