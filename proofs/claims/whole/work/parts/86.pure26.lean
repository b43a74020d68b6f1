/-! a whole segment, on both sides -/

theorem over_lock {c m : St} {b q P n p g k kd : Nat} {R : Int} (hI : PI b q) (hP : P ≤ 2376) (hR : R ≤ 5940000) (hD : Dm c) (hK : RefK m) (hp : PcR c m b R p) (hx : XY c m b R) (h126 : p + 2 < 126) (hk : k < 42) (hS : SF3 c m b n R k g) (h2 : m 24 k = 2) (hk9 : kd < 9) (kc : c (q + 2) (g * 14 + 0) = nI kd) (km : m 1 (P + 3 + 14 * g + 0) = nI kd) :
    ∃ c' m' p', f_Pc_drawSegment c (b + 6) (nI k) = some c' ∧ m_laysOver m (nI P) (nI k) (c (b + 5) (k * 16 + 15)) = some m' ∧ p' ≤ p + 3 ∧ (kd = 7 → p' ≤ p + 2) ∧ PS c m c' m' b R p p' g ∧ Dm c' := by
  have g42 : Ix (nI k) 42 := Ix_n hk (by decide)
  have hlt := hI.lt
  have nt := hI.nt.2.2.2.2.1
  have hSg := hS.sg
  have h0 := hSg.nbs.1
  have hsb := hSg.nbs.ab
  obtain ⟨v, hv, vc, vm⟩ := hSg.crs
  rcases hS.tg.tt with q | ⟨-, a, v1, ha, hv1, e25, e14, e8, r1, r2, e28⟩
  · rw [h2] at q; exact absurd q (by decide)
  obtain ⟨sd, esd, hsd⟩ : ∃ sd : Int32, sd = (if m 25 k ≤ 0 then (-6 : Int32) else 6) ∧ (sd = -6 ∨ sd = 6) := by
    refine ⟨_, rfl, ?_⟩
    split
    · exact Or.inl rfl
    · exact Or.inr rfl
  have sq1 : (sn (nI v1 + sd)).toInt * (sn (nI v1 + sd)).toInt + (sn (nI v1 + sd + 6)).toInt * (sn (nI v1 + sd + 6)).toInt ≤ 1002001 := by
    rcases hsd with e | e <;> rw [e]
    · exact (snP v1 hv1).2
    · exact (snP v1 hv1).1
  have sq2 : (sn (nI v + sd)).toInt * (sn (nI v + sd)).toInt + (sn (nI v + sd + 6)).toInt * (sn (nI v + sd + 6)).toInt ≤ 1002001 := by
    rcases hsd with e | e <;> rw [e]
    · exact (snP v hv).2
    · exact (snP v hv).1
  obtain ⟨ox, eox⟩ : ∃ ox, ox = axo (m 26 k) (nI v1 + sd) (nI v + sd) := ⟨_, rfl⟩
  obtain ⟨oy, eoy⟩ : ∃ oy, oy = axo (m 26 k) (nI v1 + sd + 6) (nI v + sd + 6) := ⟨_, rfl⟩
  have hox := (axo_v (r := m 26 k) (nI v1 + sd) (nI v + sd) (by omega) r2).2
  have hoy := (axo_v (r := m 26 k) (nI v1 + sd + 6) (nI v + sd + 6) (by omega) r2).2
  have hmx := axo_m (r := m 26 k) (s := m 8 k) (nI v1 + sd) (nI v + sd) (by omega) r2 (by omega)
  have hmy := axo_m (r := m 26 k) (s := m 9 k) (nI v1 + sd + 6) (nI v + sd + 6) (by omega) r2 (by omega)
  have hod := axo_d (r := m 26 k) (p := nI v1 + sd) (q := nI v + sd) (by omega) r2 sq1 sq2
  rw [← eox] at hox hmx hod
  rw [← eoy] at hoy hmy hod
  obtain ⟨ax, eax⟩ : ∃ ax, ax = m 8 k + ox := ⟨_, rfl⟩
  obtain ⟨ay, eay⟩ : ∃ ay, ay = m 9 k + oy := ⟨_, rfl⟩
  rw [← eax] at hmx
  rw [← eay] at hmy
  have hA : Nb (R + 308) ax ay := by
    refine ⟨by omega, ?_⟩
    rw [hmx.2, hmy.2]
    have := tri (x := (m 8 k).toInt) (y := (m 9 k).toInt) (u := ox.toInt) (v := oy.toInt) (R := R) (L := 308) h0 (by decide) hSg.nbs.2 (by omega)
    exact this
  have hAd : dsq ax ay (m 8 k) (m 9 k) ≤ 308 * 308 := by
    rw [dsq_comm]
    unfold dsq
    rw [hmx.2, hmy.2, show ∀ p q : Int, p + q - p = q from fun p q => by omega, show ∀ p q : Int, p + q - p = q from fun p q => by omega]
    omega
  obtain ⟨C, eC⟩ : ∃ C, C = s2 (s2 c (b + 6) 9 ax) (b + 6) 10 ay := ⟨_, rfl⟩
  have Co : ∀ x, x ≠ b + 6 → C x = c x := fun x p => by rw [eC, s2_ne p, s2_ne p]
  have C6 : ∀ z, z ≠ 9 → z ≠ 10 → C (b + 6) z = c (b + 6) z := fun z p1 p2 => by rw [eC, s2_k p2, s2_k p1]
  have C9 : C (b + 6) 9 = ax := by rw [eC, s2_k (by decide), s2_at]
  have C10 : C (b + 6) 10 = ay := by rw [eC, s2_at]
  have hDC : Dm C := by rw [eC]; exact (hD.s2 nt).s2 nt
  have hpC : PcR C m b R p := hp.of (C6 5 (by decide) (by decide)) (Co _ (by omega)) rfl (fun _ _ _ => rfl)
  have hxC : XY C m b R := ⟨by rw [C6 7 (by decide) (by decide)]; exact hx.x, by rw [C6 8 (by decide) (by decide)]; exact hx.y, hx.nb⟩
  have hSC : SF3 C m b n R k g := ⟨hSg.of (fun j _ => by rw [Co _ (by omega)]) (fun _ _ _ => rfl) (fun _ => rfl), hS.tg.of (fun j _ => by rw [Co _ (by omega)]) (fun _ _ _ => rfl) rfl, by unfold NL; rw [Co _ (by omega)]; exact hS.nl, hS.gm, hS.gn⟩
  obtain ⟨c1, m1, p1, q1, q2, q3, q4, q9, q10, q5⟩ := arc_lock hI hDC hpC hxC (by omega) hk hSC.sg hSC.tg (by rw [h2]; decide) hS.gm (hA.le (by omega))
  have hPS : PS c m c1 m1 b R p p1 g := ⟨q4.le, q4.pr, q4.xy, fun x p1 p2 => (q4.fc x p1 p2).trans (Co x p1), q4.f6.trans (C6 6 (by decide) (by decide)), q4.fm, q4.f0, q4.nw, q4.old⟩
  have hS1 := hPS.sf hS
  have hK1 : RefK m1 := hK.of (q4.fm _ (by decide) (by decide)) (q4.fm _ (by decide) (by decide)) (q4.fm _ (by decide) (by decide))
  have c1e : c1 (b + 5) (k * 16 + 15) = c (b + 5) (k * 16 + 15) := by rw [hPS.fc _ (by omega) (by omega)]
  have hf : ∀ x, x ≠ 0 → x < 29 → m1 x = m x := fun x p1 p2 => hPS.fm x p1 (by omega)
  have hcls : f_Pc_drawSegment c (b + 6) (nI k) = if kd = 2 ∨ kd = 7 then f_Pc_drawDirect c1 (b + 6) (nI k) else f_Pc_drawRegaining c1 (b + 6) (nI k) := by
    have op : ∀ o : Option St, (Option.bind o fun x => some x) = o := fun o => by cases o <;> rfl
    have hao : f_Pc_drawArcOver c (b + 6) (nI k) = some c1 := by
      unfold f_Pc_drawArcOver
      rw [rc_b63 hI, bd_e (sgg hI hD hk (by decide)), hS.tg.t2, Jn_if, ← esd, bd_e (sgg hI hD hk (by decide)), e8, Lt_e, bd_e (sgg hI hD hk (by decide)), vc, Lt_e, bd_e (sgg hI hD hk (by decide)), hS.tg.t3, bd_e (east_e c _), bd_e (east_e c _), Lt_e, bd_e (north_e c _), bd_e (north_e c _), Lt_e, bd_e (sgg hI hD hk (by decide)), hSg.sx, Lt_e, bd_e (sgg hI (hD.s2 nt) hk (by decide)), s2_ne (by omega), hSg.sy, Lt_e]
      show Option.bind (f_Pc_drawArc (s2 (s2 c (b + 6) 9 (m 8 k + axo (m 26 k) (nI v1 + sd) (nI v + sd))) (b + 6) 10 (m 9 k + axo (m 26 k) (nI v1 + sd + 6) (nI v + sd + 6))) (b + 6) (nI k) (s2 (s2 c (b + 6) 9 (m 8 k + axo (m 26 k) (nI v1 + sd) (nI v + sd))) (b + 6) 10 (m 9 k + axo (m 26 k) (nI v1 + sd + 6) (nI v + sd + 6)) (b + 6) 9) (s2 (s2 c (b + 6) 9 (m 8 k + axo (m 26 k) (nI v1 + sd) (nI v + sd))) (b + 6) 10 (m 9 k + axo (m 26 k) (nI v1 + sd + 6) (nI v + sd + 6)) (b + 6) 10)) _ = _
      rw [← eox, ← eoy, ← eax, ← eay, ← eC, C9, C10]
      exact bd_e q1
    obtain ⟨g', -, gc, gm⟩ := hS1.sg.leg
    have hgc : c1 (b + 5) (k * 16 + 0) = nI g := by rw [gc, ← gm, hS1.gm]
    unfold f_Pc_drawSegment
    rw [rc_b63 hI, rc_b60 hI, bd_e (sgg hI hD hk (by decide)), hS.tg.t1, if_pos h2, bd_e hao, bd_e (sgg hI q5 hk (by decide)), hgc, bd_e (kd_c hI q5 hS.gn), hPS.fc (q + 2) (by omega) (by omega), kc, Jn_e, Jn_e]
    by_cases k2 : kd = 2
    · rw [if_pos ((nIl 2 (by omega) (by omega)).mpr k2), if_pos (Or.inl k2)]
      exact op _
    · rw [if_neg (fun e => k2 ((nIl 2 (by omega) (by omega)).mp e))]
      by_cases k7 : kd = 7
      · rw [if_pos ((nIl 7 (by omega) (by omega)).mpr k7), if_pos (Or.inr k7)]
        exact op _
      · rw [if_neg (fun e => k7 ((nIl 7 (by omega) (by omega)).mp e)), if_neg (show ¬ (kd = 2 ∨ kd = 7) by omega)]
        exact op _
  have hd := dir_lock hI hR q5 hK1 q4.pr q4.xy (by omega) hk hS1 (q9.trans C9) (q10.trans C10) hA (by rw [hf 8 (by decide) (by decide), hf 9 (by decide) (by decide)]; exact hAd)
  have hrg := reg_lock (ox := ox) (oy := oy) (v := v) hI hR q5 hK1 q4.pr q4.xy (by omega) hk hS1 (q9.trans C9) (q10.trans C10) hA (by rw [hf 8 (by decide) (by decide), hf 9 (by decide) (by decide)]; exact hAd) (by rw [hf 8 (by decide) (by decide)]; exact eax) (by rw [hf 9 (by decide) (by decide)]; exact eay) (by rw [hf 8 (by decide) (by decide)]; exact hmx.2) (by rw [hf 9 (by decide) (by decide)]; exact hmy.2) hox hoy (by rw [hf 13 (by decide) (by decide)]; exact vm)
  rw [c1e] at hd hrg
  rw [hcls]
  unfold m_laysOver
  simp only [nI_clamp (show k < 2 ^ 31 by omega)]
  rw [Gd_t g42, Lt_e, Gd_t g42, Jn_if, ← esd, Gd_t g42, e14, Lt_e, Gd_t g42, vm, Lt_e, Gd_t g42, Gd_t g42, bd_e (sx_e hK _), bd_e (sx_e hK _), hmx.1, Lt_e, Gd_t g42, Gd_t g42, bd_e (sy_e hK _), bd_e (sy_e hK _), hmy.1, Lt_e, Gd_t g42, Gd_t g42, hS.gm, ← vm, bd_e q2, bd_e (mof hP hS.gn (by decide)), hf 1 (by decide) (by decide), km]
  by_cases k27 : kd = 2 ∨ kd = 7
  · obtain ⟨c2, m2, p2, w1, w2, w3, w4, w5⟩ := hd
    refine ⟨c2, m2, p2, by rw [if_pos k27]; exact w1, ?_, by omega, fun _ => by omega, hPS.trans w4, w5⟩
    rw [Jn_e]
    by_cases k2 : kd = 2
    · rw [if_pos ((nIl 2 (by omega) (by omega)).mpr k2)]
      exact w2
    · rw [if_neg (fun e => k2 ((nIl 2 (by omega) (by omega)).mp e)), if_pos ((nIl 7 (by omega) (by omega)).mpr (by omega))]
      exact w2
  · obtain ⟨c2, m2, p2, w1, w2, w3, w4, w5⟩ := hrg
    refine ⟨c2, m2, p2, by rw [if_neg k27]; exact w1, ?_, by omega, fun e => by omega, hPS.trans w4, w5⟩
    rw [Jn_e, if_neg (fun e => k27 (Or.inl ((nIl 2 (by omega) (by omega)).mp e))), if_neg (fun e => k27 (Or.inr ((nIl 7 (by omega) (by omega)).mp e)))]
    exact w2
theorem sg_lock {c m : St} {b q P n p g k kd r : Nat} {R : Int} (hI : PI b q) (hP : P ≤ 2376) (hR : R ≤ 5940000) (hD : Dm c) (hK : RefK m) (hp : PcR c m b R p) (hx : XY c m b R) (h126 : p + 2 < 126) (hk : k < r) (hr : r ≤ 42) (h30 : m 0 30 = nI r) (hS : SF3 c m b n R k g) (hS1 : k + 1 < r → SgR n c m b R (k + 1)) (hnl : c (b + 5) (k * 16 + 15) = if k + 1 < r ∧ c (b + 5) ((k + 1) * 16 + 10) = 1 then m 27 (k + 1) else 0) (hk9 : kd < 9) (kc : c (q + 2) (g * 14 + 0) = nI kd) (km : m 1 (P + 3 + 14 * g + 0) = nI kd) :
    ∃ c' m' p', f_Pc_drawSegment c (b + 6) (nI k) = some c' ∧ m_laysSegment m (nI P) (nI k) = some m' ∧ p' ≤ p + 3 ∧ (kd = 7 → p' ≤ p + 2) ∧ PS c m c' m' b R p p' g ∧ Dm c' := by
  have g42 : Ix (nI k) 42 := Ix_n (show k < 42 by omega) (by decide)
  have op : ∀ o : Option St, (Option.bind o fun x => some x) = o := fun o => by cases o <;> rfl
  have hkc : (nI k).toNatClampNeg = k := nI_clamp (by omega)
  have key : m_laysSegment m (nI P) (nI k) = (Gd (Ix (nI k) 42) <|
  Lt ((m 12 k) : Int32) fun x3 =>
  Gd (Ix (nI k) 42) <|
  Lt ((m 7 k) : Int32) fun x4 =>
  Gd (Ix (nI k) 42) <|
  if ((m 24 k) : Int32) = (2 : Int32) then (
  Option.bind (m_laysOver m (nI P) (nI k) (c (b + 5) (k * 16 + 15))) fun x14 =>
  some x14
  ) else (
  Gd (Ix (nI k) 42) <|
  Lt ((m 27 k) : Int32) fun x5 =>
  Gd (Ix (nI k) 42) <|
  Jn (fun (σ6 : St) =>
  Gd (Ix (nI k) 42) <|
  Gd (Ix (nI k) 42) <|
  Gd (Ix (nI k) 42) <|
  Option.bind (m_before (σ6 8 k) (σ6 10 k) (c (b + 5) (k * 16 + 15)) x3) fun x8 =>
  Gd (Ix (nI k) 42) <|
  Gd (Ix (nI k) 42) <|
  Option.bind (m_before (σ6 9 k) (σ6 11 k) (c (b + 5) (k * 16 + 15)) x3) fun x9 =>
  Option.bind (m_piece σ6 x4 (0 : Int32) ((x3 - x5) - c (b + 5) (k * 16 + 15)) (σ6 13 k) x8 x9) fun x10 =>
  some x10
  ) fun J7 =>
  if ((m 24 k) : Int32) = (1 : Int32) then (
  Gd (Ix (nI k) 42) <|
  Gd (Ix (nI k) 42) <|
  Gd (Ix (nI k) 42) <|
  Gd (Ix (nI k) 42) <|
  Option.bind (m_before (m 10 k) (m 8 k) x5 x3) fun x11 =>
  Gd (Ix (nI k) 42) <|
  Gd (Ix (nI k) 42) <|
  Option.bind (m_before (m 11 k) (m 9 k) x5 x3) fun x12 =>
  Option.bind (m_piece m x4 (1 : Int32) (m 28 k) (m 13 k) x11 x12) fun x13 =>
  J7 x13
  ) else (
  J7 m
  )
  )) := by
    unfold m_laysSegment
    refine (Jn_x (c (b + 5) (k * 16 + 15)) (fun J => e_m hk hr h30 hS1 hnl J)).trans ?_
    simp only [hkc]
  rw [key, Gd_t g42, Lt_e, Gd_t g42, Lt_e, Gd_t g42]
  by_cases h2 : m 24 k = 2
  · rw [if_pos h2]
    obtain ⟨c', m', p', q1, q2, q3⟩ := over_lock hI hP hR hD hK hp hx h126 (by omega) hS h2 hk9 kc km
    exact ⟨c', m', p', q1, by rw [op]; exact q2, q3⟩
  · rw [if_neg h2, Gd_t g42, Lt_e, Gd_t g42]
    obtain ⟨c', m', p', q1, q2, q3, q4⟩ := by_lock hI hR hD hp hx (by omega) (by omega) hS h2
    exact ⟨c', m', p', q1, q2, by omega, fun _ => by omega, q4⟩
