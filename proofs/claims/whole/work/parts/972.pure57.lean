/-! setWindow, closeGap -/

theorem BsOK_20 {m : St} {P n : Nat} {R0 : Int} (h : 14200 ≤ R0) (hn : n ≤ 20) : BsOK m P (fun _ => R0) R0 (R0 + 45400) n :=
  ⟨Int.le_refl _, fun _ => h, fun _ _ => by dsimp only; omega, fun i _ _ => ⟨by dsimp only; omega, by dsimp only; omega, Or.inl (Int.le_refl _)⟩⟩
theorem md_lock {t : Nat} {c m : St} (ht : t ≤ 512) (h : INV t c m) (h1 : c 0 10 = 1) : ∃ (c' m' : St) (n : Nat) (R : Int), f_FL_freshPathOf c 1 = some (27, c') ∧ m_lays m (297 : Int32) = some m' ∧ VR c' m' 27 297 n ∧ WF m' 297 R n ∧ Dm c' ∧ c' 11 1 = nI n ∧ m' 1 297 = nI n ∧ n ≤ 20 ∧ INV t c' m' := by
  obtain ⟨na, cur, fl, ed, nm, Ra, hB, hA, hM⟩ := h
  have he : ed = 1 := by
    obtain ⟨e1, e2, -⟩ := hB.E
    rw [h1] at e2
    rcases (show ed = 0 ∨ ed = 1 by omega) with z | z
    · rw [z] at e2; exact absurd e2 (by decide)
    · exact z
  subst he
  have hI : PI 27 11 := Or.inr (Or.inl ⟨rfl, rfl⟩)
  obtain ⟨cu, rs, R, b1, b2, b3, b4, b5, b6, b7⟩ := hB.M rfl
  have n20 := b7.2.1
  have hP : PlanR c m 11 297 R nm := ⟨by omega, b1, b2, Or.inr (Or.inl rfl), b7.2.2.1⟩
  have hR : 14200 ≤ R ∧ R + 45400 ≤ 5940000 := by
    obtain ⟨a1, a2, a3, a4, a5, a6, a7, a8⟩ := b7
    have b := zp_b c 11 nm
    have d := sp_b cur fl
    refine ⟨a6, ?_⟩
    rcases (show rs = 0 ∨ rs = 1 by omega) with e | e
    · have := (a8 e).2; omega
    · have := (a7 e).2; omega
  obtain ⟨c', m', e1, e2, e3, e4, e5, e6, e7, e8⟩ := refresh_lock hI hB.D hB.K hB.S hP (BsOK_20 hR.1 n20) (by omega) hR.2 (hM rfl)
  have hB' := e5.ib hI hB
  obtain ⟨cu2, rs2, R2, x1, x2, -⟩ := hB'.M rfl
  refine ⟨c', m', nm, _, ?_, e2, e3, e4, hB'.D, x1, x2, n20, na, cur, fl, 1, nm, Ra, hB', hA.of (fun a p => e5.fc a (by omega) (by omega) (by omega) (by omega) (by omega) (by omega)), fun _ _ => ⟨m', e7, e3⟩⟩
  unfold f_FL_freshPathOf
  rw [bd_e (pathOf_c c 1), if_neg (by decide), bd_e e1]
theorem k_closeGap {t : Nat} {c m : St} (ht : t ≤ 511) (h : INV t c m) (p1 : Int32) : AQ t (f_FL_closeGap c p1) (m_closeGap m p1) := by
  have h' := h
  obtain ⟨na, cur, fl, ed, nm, Ra, hB, hA, hM⟩ := h
  obtain ⟨q, P, n, cu, hP⟩ := pe_of hB
  have n20 := hP.n20
  have cu20 := hP.cu20
  have hPl := hP.Pl
  unfold f_FL_closeGap m_closeGap
  rw [bd_e hP.q, bd_e hP.P]
  rcases hP.leg p1 with ⟨a, b⟩ | ⟨i, hi, e, a, b⟩
  · rw [bd_e a, bd_e b, if_pos rfl, if_pos rfl]
    exact ⟨_, c, m, rfl, rfl, h'.up⟩
  rw [bd_e a, bd_e b, if_neg n10, if_neg n10, Gd_t hP.cur.1, Jn_e, Jn_e, hP.cur.2, hP.c2, e]
  by_cases hcu : i ≤ cu
  · rw [if_pos (nI_le hcu (by omega)), if_pos (nI_le hcu (by omega))]
    exact ⟨_, c, m, rfl, rfl, h'.up⟩
  · obtain ⟨R0, hl⟩ := hP.lg
    obtain ⟨w, w1, w2, w3⟩ := (hl i hi).gap
    have gm : m_of m (nI P) (nI i) (13 : Int32) = some (nI w) := (mof (j := 13) (show P ≤ 2376 by omega) (show i < 21 by omega) (by decide)).trans (congrArg some w3)
    have gc : f_Tb_get c (rc q 0) (nI i) (13 : Int32) = some (nI w) := by
      have hq := hP.eq
      rcases (show ed = 1 ∨ ed ≠ 1 by omega) with z | z
      · rw [if_pos z] at hq
        subst hq
        exact (Tb_get (t := 12) (j := 13) hB.D.2.2.2.2.1.2.1 (show i < 21 by omega) (by decide)).trans (congrArg some w2)
      · rw [if_neg z] at hq
        subst hq
        exact (Tb_get (t := 9) (j := 13) hB.D.2.2.2.2.1.1 (show i < 21 by omega) (by decide)).trans (congrArg some w2)
    rw [if_neg (nI_ge (by omega) (by omega)), if_neg (nI_ge (by omega) (by omega)), bd_e gc, bd_e gm]
    by_cases hw : w = 0
    · rw [if_pos (by rw [hw]; rfl), if_pos (by rw [hw]; rfl)]
      exact ⟨_, c, m, rfl, rfl, h'.up⟩
    · obtain ⟨c1, m1, ec, em, G⟩ := begin_lock hB
      have pc : f_Tb_put c1 12 (nI i) (13 : Int32) (0 : Int32) = _ := put_c (j := 13) (v := 0) G.D (show i < 21 by omega) (by decide)
      have pm : m_sets m1 (297 : Int32) (nI i) (13 : Int32) (0 : Int32) = _ := sets_m (j := 13) (v := 0) (show i < 21 by omega) (by decide)
      have hi1 := BG.set1 (j := 13) (v := 0) hB hA G hP.en hi (by decide) (by decide) (Or.inr (Or.inr ⟨by decide, by decide⟩))
      obtain ⟨c2, m2, n2, R2, f1, f2, f3, f4, f5, f6, f7, f8, f9⟩ := md_lock (by omega) hi1 (by rw [s2_ne (by decide)]; exact G.c10)
      have hI : PI 27 11 := Or.inr (Or.inl ⟨rfl, rfl⟩)
      have g1 := gaps_c hI f5 f6 (by omega) f3 f4
      have g2 : m_gaps m2 (297 : Int32) = _ := gaps_m (P := 297) (by decide) (show n2 ≤ 21 by omega) f7
      rw [if_neg (nI_ne0 (by omega) (by omega)), if_neg (nI_ne0 (by omega) (by omega)), bd_e ec, bd_e em, bd_e pc, bd_e pm, bd_e f1, bd_e f2, bd_e g2]
      dsimp only
      rw [bd_e g1]
      exact ⟨_, c2, m2, rfl, rfl, f9⟩
theorem k_setWindow {t : Nat} {c m : St} (ht : t ≤ 511) (h : INV t c m) (p1 p2 p3 : Int32) : AQ t (f_FL_setWindow c p1 p2 p3) (m_setWindow m p1 p2 p3) := by
  have h' := h
  obtain ⟨na, cur, fl, ed, nm, Ra, hB, hA, hM⟩ := h
  obtain ⟨q, P, n, cu, hP⟩ := pe_of hB
  have n20 := hP.n20
  have cu20 := hP.cu20
  unfold f_FL_setWindow m_setWindow
  rw [bd_e hP.q, bd_e hP.P]
  rcases hP.leg p1 with ⟨a, b⟩ | ⟨i, hi, e, a, b⟩
  · rw [bd_e a, bd_e b, if_pos rfl, if_pos rfl]
    exact ⟨_, c, m, rfl, rfl, h'.up⟩
  rw [bd_e a, bd_e b, if_neg n10, if_neg n10]
  rcases wi (p := p2) (a := 0) (b := 450) (a' := 0) (b' := 450) (by decide) (by decide) with ⟨a, b, lo, hi2⟩ | ⟨a, b⟩
  rotate_left
  · rw [bd_e a, bd_e b, Jn_e, Jn_e, if_pos rfl, if_pos rfl]
    exact ⟨_, c, m, rfl, rfl, h'.up⟩
  have lo : 0 ≤ p2.toInt := lo
  have hi2 : p2.toInt ≤ 450 := hi2
  rw [bd_e a, bd_e b, Jn_e, Jn_e, if_neg n10, if_neg n10]
  rcases wi (p := p3) (a := p2) (b := 450) (a' := p2.toInt64) (b' := 450) (tw _) (by decide) with ⟨a, b, lo3, hi3⟩ | ⟨a, b⟩
  rotate_left
  · rw [bd_e a, bd_e b, if_pos rfl, if_pos rfl]
    exact ⟨_, c, m, rfl, rfl, h'.up⟩
  have hi3 : p3.toInt ≤ 450 := hi3
  rw [bd_e a, bd_e b, if_neg n10, if_neg n10, Gd_t hP.cur.1, hP.cur.2, hP.c2, e]
  by_cases hcu : cu ≤ i
  · obtain ⟨v, ev, hv⟩ : ∃ v : Nat, p2 = nI v ∧ v ≤ 450 := ⟨p2.toInt.toNat, i2 (by rw [nI_toInt (by omega)]; omega), by omega⟩
    obtain ⟨v', ev', hv'⟩ : ∃ v : Nat, p3 = nI v ∧ v ≤ 450 := ⟨p3.toInt.toNat, i2 (by rw [nI_toInt (by omega)]; omega), by omega⟩
    rw [ev, ev']
    obtain ⟨c1, m1, ec, em, G⟩ := begin_lock hB
    obtain ⟨n0, cu', rs, R, z0, z1, z2, z3, z4, z5, z6, z7, z8, z9⟩ := G.M
    have hn : n0 = n := z0.trans hP.en.symm
    subst hn
    have hMP := z9 (by omega)
    have htt : 1 ≤ t := by
      rcases (show ed = 1 ∨ ed ≠ 1 by omega) with x | x
      · have := hB.E.2.2.2 x; omega
      · have := hP.en
        rw [if_neg x] at this
        have := (hB.an.2 (by omega)).2; omega
    obtain ⟨C, eC⟩ : ∃ C, C = s2 (s2 c1 13 (i * 14 + 9) (nI v)) 13 (i * 14 + 10) (nI v') := ⟨_, rfl⟩
    obtain ⟨M, eM⟩ : ∃ M, M = s2 (s2 m1 1 (297 + 3 + 14 * i + 9) (nI v)) 1 (297 + 3 + 14 * i + 10) (nI v') := ⟨_, rfl⟩
    have pc : f_Tb_put c1 12 (nI i) (9 : Int32) (nI v) = _ := put_c (j := 9) G.D (show i < 21 by omega) (by decide)
    have pm : m_sets m1 (297 : Int32) (nI i) (9 : Int32) (nI v) = _ := sets_m (j := 9) (show i < 21 by omega) (by decide)
    have pc2 : f_Tb_put (s2 c1 13 (i * 14 + 9) (nI v)) 12 (nI i) (10 : Int32) (nI v') = some C := by rw [eC]; exact put_c (j := 10) (G.D.s2 (by decide)) (show i < 21 by omega) (by decide)
    have pm2 : m_sets (s2 m1 1 (297 + 3 + 14 * i + 9) (nI v)) (297 : Int32) (nI i) (10 : Int32) (nI v') = some M := by rw [eM]; exact sets_m (j := 10) (show i < 21 by omega) (by decide)
    have hi1 : INV (t + 1) C M := by
      rw [eC, eM]
      refine BG.inv (n' := n0) (cu := cu') (rs := rs) (R := R) hB hA htt G ((G.D.s2 (by decide)).s2 (by decide)) (fun a p q => by rw [s2_ne q, s2_ne q]) (fun a p => by rw [s2_ne p, s2_ne p]) (fun k p => by rw [s2_k (by omega), s2_k (by omega)]) (by rw [s2_ne (by decide), s2_ne (by decide)]; exact z2) (by rw [s2_k (by omega), s2_k (by omega)]; exact z3) (by rw [s2_ne (by decide), s2_ne (by decide)]; exact z4) (by rw [s2_k (by omega), s2_k (by omega)]; exact z5) (by rw [s2_ne (by decide), s2_ne (by decide)]; exact z6) (by rw [s2_k (by omega), s2_k (by omega)]; exact z7) ?_
      exact hMP.ch hMP.1 hMP.2.1 (fun i' hi' => ((hMP.2.2.1 i' hi').set (q := 11) (P := 297) (j := 9) (by decide) (by decide) (Or.inl ⟨by decide, hv⟩)).set (q := 11) (P := 297) (j := 10) (by decide) (by decide) (Or.inl ⟨by decide, hv'⟩)) (FB.set (q := 11) (FB.set (q := 11) hMP.2.2.2.1.2 (by decide) (by decide) (by decide)) (by decide) (by decide) (by decide)) hMP.2.2.2.1.1
    obtain ⟨c2, m2, n2, R2, f1, f2, f3, f4, f5, f6, f7, f8, f9⟩ := md_lock (by omega) hi1 (by rw [eC, s2_ne (by decide), s2_ne (by decide)]; exact G.c10)
    have hI : PI 27 11 := Or.inr (Or.inl ⟨rfl, rfl⟩)
    have g1 := viol_c hI f5 f6 (by omega) f3
    have g2 : m_violations m2 (297 : Int32) = _ := viol_m (P := 297) (by decide) (show n2 ≤ 21 by omega) f7
    rw [if_pos (nI_le hcu (by omega)), if_pos (nI_le hcu (by omega)), bd_e ec, bd_e em, bd_e pc, bd_e pm, bd_e pc2, bd_e pm2, bd_e f1, bd_e f2, bd_e g2]
    dsimp only
    rw [bd_e g1]
    exact ⟨_, c2, m2, rfl, rfl, f9⟩
  · rw [if_neg (nI_ge (by omega) (by omega)), if_neg (nI_ge (by omega) (by omega))]
    exact ⟨_, c, m, rfl, rfl, h'.up⟩
