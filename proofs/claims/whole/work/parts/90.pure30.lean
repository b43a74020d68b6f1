/-! the pieces of a leg, on both sides, and of all legs -/

theorem leg_end {c m c1 m1 c3 m3 : St} {b q P n i p p3 : Nat} {f : Nat → Nat} {R0 R : Int} (hI : PI b q) (h : DI c m c1 m1 b q P R0 R n f i p) (hi : i < n) (J : St → Option St)
    (fc : ∀ a, a ≠ b + 6 → a ≠ b + 8 → c3 a = c a) (h6 : c3 (b + 6) 6 = nI p) (pr : PcR c3 m3 b R p3) (hle : p ≤ p3) (hle6 : p3 ≤ 6 * (i + 1)) (fm : ∀ a, a ≠ 0 → (a < 29 ∨ 36 < a) → m3 a = m a) (f0 : ∀ k, (k < 57 ∨ 59 < k) → m3 0 k = m 0 k) (nw : ∀ k, p ≤ k → k < p3 → m3 29 k = nI i) (old : ∀ k, k < p → ∀ a, 29 ≤ a → a ≤ 36 → m3 a k = m a k) (xy : XY c3 m3 b R ∨ ∀ j, j < i + 1 → m3 19 j = 0) (hnp : m 18 i = 1 → ¬ m 1 (P + 3 + 14 * i + 0) = 7 → p3 = p) :
    ∃ c4, lp (lb_f_Pc_endLeg_23 (b + 6) (nI i) J) 4000 (c3 (b + 6) 6, c3) = J c4 ∧ DI c4 m3 c1 m1 b q P R0 R n f (i + 1) p3 := by
  have hlt := hI.lt
  have hn := h.cx.ph.P.le
  have hi21 : i < 21 := by omega
  have cx3 : CX c3 m3 b q P R0 R n f := h.cx.of hI (fun a _ _ p3 p4 => fc a p3 p4) (fun j l _ => by rw [fc _ (by omega) (by omega)]) (fun a p1 p2 => fm a p1 (by omega)) (fun k hk => f0 k (by omega))
  have hno : ∀ k, k < p → ¬ m3 29 k = nI i := fun k hk e => by
    obtain ⟨g, hg, e1⟩ := h.lg k hk
    rw [old k hk 29 (by decide) (by decide), e1] at e
    have := (nI_eq (by omega) (by omega)).mp e
    omega
  obtain ⟨lim, -, -, limc, limm⟩ := (h.cx.ph.P.leg i hi).lim
  have z := sums_no (c := c3) (m := m3) (lim := nI lim) (j := i) (p := 0) p (fun k _ hk => hno k (by omega))
  rw [Nat.zero_add] at z
  have fi := h.fi i (Nat.le_refl _) hi21
  have e2 : c3 (b + 2) = c (b + 2) := fc _ (by omega) (by omega)
  obtain ⟨c4, w1, w2, w3, w4, w5, w6⟩ := tot_loop (m := m3) (p := p3) (p0 := p) (lim := nI lim) hI hi21 (by omega) nw J (p3 - p) p c3 4000 (by omega) (Nat.le_refl _) (by omega) cx3.ph.D pr.cc (fun k hk j hj => (pr.row k hk).row j hj) (by rw [fc _ (by omega) (by omega)]; exact limc) (by rw [e2, z.1]; exact fi.1) (by rw [e2, z.2.1]; exact fi.2.1) (by rw [e2, z.2.2]; exact fi.2.2 hi)
  have c41 : c4 1 = c 1 := by rw [w2 _ (by omega), fc _ (by omega) (by omega)]
  refine ⟨c4, by rw [h6]; exact w1, ⟨cx3.of hI (fun a _ p2 _ _ => w2 a p2) (fun j l hl => ?_) (fun _ _ _ => rfl) (fun _ _ => rfl), fun a p1 p2 p3 => by rw [w2 a p1, fc a p2 p3]; exact h.fc a p1 p2 p3, fun j l p1 p2 => ?_, fun j p1 p2 => ?_, fun a p1 p2 => (fm a p1 p2).trans (h.fm a p1 p2), fun k q => (f0 k q).trans (h.f0 k q), pr.of (by rw [w2 _ (by omega)]) (w2 _ (by omega)) rfl (fun _ _ _ => rfl), ?_, hle6, fun k hk => ?_, fun j hj => ?_, fun j hj q1 q2 k hk => ?_⟩⟩
  · by_cases e : j = i
    · rw [e]; exact w3 _ (by omega)
    · exact w3 _ (by omega)
  · rw [w3 _ (by omega), e2]
    exact h.f2 j l p1 p2
  · rw [w3 _ (by omega), w3 _ (by omega), w3 _ (by omega), e2]
    exact h.fi j (by omega) p2
  · rcases xy with q | q
    · exact Or.inl ⟨by rw [w2 _ (by omega)]; exact q.x, by rw [w2 _ (by omega)]; exact q.y, q.nb⟩
    · exact Or.inr q
  · by_cases e : k < p
    · obtain ⟨g, hg, e1⟩ := h.lg k e
      exact ⟨g, by omega, by rw [old k e 29 (by decide) (by decide)]; exact e1⟩
    · exact ⟨i, by omega, nw k (by omega) hk⟩
  · rcases (show j = i ∨ j < i by omega) with e | e
    · rw [e]
      refine ⟨w4, ?_, w6⟩
      rw [w5, fm 1 (by decide) (by decide), limm]
      exact (sums_of (c := c3) (c' := c4) (m := m3) (m' := m3) (by rw [w2 _ (by omega)]) (fun _ _ _ _ _ => rfl)).2.1.symm
    · have t := h.tot j e
      have s1 := sums_of (c := c) (c' := c4) (m := m) (m' := m3) (lim := m 1 (P + 3 + 14 * j + 11)) (j := j) (p := p) c41 old
      have s2 := sums_no (c := c4) (m := m3) (lim := m 1 (P + 3 + 14 * j + 11)) (j := j) (p := p) (p3 - p) (fun k p1 p2 q => by
        rw [nw k p1 (by omega)] at q
        have := (nI_eq (by omega) (by omega)).mp q
        omega)
      rw [show p + (p3 - p) = p3 by omega] at s2
      rw [w3 _ (by omega), w3 _ (by omega), w3 _ (by omega), e2, fm 1 (by decide) (by decide), s2.1, s2.2.1, s2.2.2, s1.1, s1.2.1, s1.2.2]
      exact t
  · rw [fm 18 (by decide) (by decide)] at q1
    rw [fm 1 (by decide) (by decide)] at q2
    rcases (show j = i ∨ j < i by omega) with e | e
    · subst e
      exact hno k (by have := hnp q1 q2; omega)
    · by_cases e2 : k < p
      · rw [old k e2 29 (by decide) (by decide)]
        exact h.np j e q1 q2 k e2
      · rw [nw k (by omega) hk]
        intro q
        have := (nI_eq (by omega) (by omega)).mp q
        omega
theorem begin_leg {c m : St} {b q i p : Nat} (hI : PI b q) (hD : Dm c) (hi : i < 21) (hp : c (b + 6) 5 = nI p) (h0 : c (b + 2) (i * 16 + 0) = m 18 i) (h1 : c (b + 2) (i * 16 + 1) = m 19 i) :
    f_Pc_beginLeg c (b + 6) (nI i) = some (if m 18 i = 1 ∧ m 19 i = 1 then s2 (s2 (s2 c (b + 6) 6 (nI p)) (b + 6) 7 (c (b + 2) (i * 16 + 2))) (b + 6) 8 (c (b + 2) (i * 16 + 3)) else s2 c (b + 6) 6 (nI p)) := by
  have nt := hI.nt.2.2.2.2.1
  have n2 : b + 2 ≠ b + 6 := by omega
  unfold f_Pc_beginLeg
  rw [hp, Lt_e, rc_b62 hI, bd_e (lgg hI (hD.s2 nt) hi (by decide)), s2_ne n2, h0, Jn_e]
  by_cases e : m 18 i = 1
  · rw [if_pos e, bd_e (lgg hI (hD.s2 nt) hi (by decide)), s2_ne n2, h1]
    by_cases e1 : m 19 i = 1
    · rw [if_pos e1, if_pos ⟨e, e1⟩, bd_e (lgg hI (hD.s2 nt) hi (by decide)), Lt_e, bd_e (lgg hI ((hD.s2 nt).s2 nt) hi (by decide)), Lt_e, s2_ne n2, s2_ne n2, s2_ne n2]
    · rw [if_neg e1, if_neg (fun q => e1 q.2)]
  · rw [if_neg e, if_neg (fun q => e q.1)]
theorem draw_leg {c m c1 m1 : St} {b q P n i p : Nat} {f : Nat → Nat} {R0 R : Int} (hI : PI b q) (hR14 : 14200 ≤ R) (hR : R ≤ 5940000) (h : DI c m c1 m1 b q P R0 R n f i p) (hi : i < n) (Jc Jm : St → Option St) (ihc : Int32 × Int32 × St → Option St) (ihm : Int32 × St → Option St) :
    ∃ c' m' p', lb_f_Pa_refresh_85 b Jc ihc (nI (f i), nI i, c) = ihc (nI (f (i + 1)), nI (i + 1), c') ∧ lb_m_lays_44 (nI P) Jm ihm (nI i, m) = ihm (nI (i + 1), m') ∧ DI c' m' c1 m1 b q P R0 R n f (i + 1) p' := by
  have hlt := hI.lt
  have nt := hI.nt.2.2.2.2.1
  have hC := h.cx
  have hn := hC.ph.P.le
  have hi21 : i < 21 := by omega
  have hPl := hC.ph.P.Pl
  have hA := hC.ph.lg i hi
  have g21 : Ix (nI i) 21 := Ix_n hi21 (by decide)
  have g22 : Ix (nI i) 22 := Ix_n (by omega) (by decide)
  have hp6 := h.p6
  have hfl := hA.fl
  obtain ⟨kd, hk9, kc, km, -⟩ := (hC.ph.P.leg i hi).kd
  have hbl := begin_leg hI hC.ph.D hi21 h.pr.cc hA.an.1 hA.en.1
  have op : ∀ o : Option St, (Option.bind o fun x => some x) = o := fun o => by cases o <;> rfl
  -- from the states behind beginLeg
  have fin : ∀ cB mB : St, f_Pc_beginLeg c (b + 6) (nI i) = some cB → (∀ J : St → Option St, (Jn (fun (σ14 : St) => J σ14) fun J15 =>
  if ((m 18 i) : Int32) = 0 then (
  J15 m
  ) else (
  Gd (Ix (nI i) 21) <|
  if ((m 19 i) : Int32) = 0 then (
  J15 m
  ) else (
  Gd (Ix (nI i) 21) <|
  Lt (s2 m 0 58 (m 20 i)) fun σ28 =>
  Gd (Ix (nI i) 21) <|
  Lt (s2 σ28 0 59 (σ28 21 i)) fun σ29 =>
  J15 σ29
  )
  )) = J mB) → (∀ a, a ≠ b + 6 → cB a = c a) → cB (b + 6) 6 = nI p → PcR cB mB b R p → (∀ a, a ≠ 0 → mB a = m a) → (∀ k, (k < 57 ∨ 59 < k) → mB 0 k = m 0 k) →
      (XY cB mB b R ∨ (f (i + 1) = f i ∧ kd ≠ 7 ∧ ∀ j, j < i + 1 → m 19 j = 0)) → ∃ c' m' p', lb_f_Pa_refresh_85 b Jc ihc (nI (f i), nI i, c) = ihc (nI (f (i + 1)), nI (i + 1), c') ∧ lb_m_lays_44 (nI P) Jm ihm (nI i, m) = ihm (nI (i + 1), m') ∧ DI c' m' c1 m1 b q P R0 R n f (i + 1) p' := by
    intro cB mB eB eM fcB h6B prB fmB f0B hxy
    have cxB : CX cB mB b q P R0 R n f := hC.of hI (fun a _ _ p3 _ => fcB a p3) (fun j l _ => by rw [fcB _ (by omega)]) (fun a p1 _ => fmB a p1) (fun k hk => f0B k (by omega))
    obtain ⟨Jr, eJr⟩ : ∃ Jr : Int32 → St → Option St, Jr = fun (x14 : Int32) (σ15 : St) => Option.bind (f_Pc_endLeg σ15 (rc b 3) (nI i)) fun x17 => Lt (nI i + (1 : Int32)) fun x18 => ihc (x14, x18, x17) := ⟨_, rfl⟩
    obtain ⟨Jp, eJp⟩ : ∃ Jp : St → Option St, Jp = fun (σ17 : St) => Option.bind (m_of σ17 (nI P) (nI i) (0 : Int32)) fun x19 => Jn (fun (σ20 : St) => Lt (nI i + (1 : Int32)) fun x22 => ihm (x22, σ20)) fun J21 => if (x19 : Int32) = (7 : Int32) then (Option.bind (m_laysPattern σ17 (nI P) (nI i)) fun x23 => J21 x23) else J21 σ17 := ⟨_, rfl⟩
    have hcB : lb_f_Pa_refresh_85 b Jc ihc (nI (f i), nI i, c) = lp (lb_f_Pa_refresh_104 b (nI (f i), nI i, c) Jr) 4000 (nI (f i), cB) := by
      show (if c (rc b 0) 1 ≤ nI i then Jc c else Option.bind (f_Pc_beginLeg c (rc b 3) (nI i)) fun x13 => Jn (fun (x14 : Int32) (σ15 : St) => Option.bind (f_Pc_endLeg σ15 (rc b 3) (nI i)) fun x17 => Lt (nI i + (1 : Int32)) fun x18 => ihc (x14, x18, x17)) fun J16 => lp (lb_f_Pa_refresh_104 b (nI (f i), nI i, c) J16) 4000 (nI (f i), x13)) = _
      rw [if_neg (by rw [rc_b0 hI, hC.ph.P.cc]; exact nI_ge hi (by omega)), ← eJr, rc_b3 hI, bd_e eB, Jn_e]
    have hmB : lb_m_lays_44 (nI P) Jm ihm (nI i, m) = lp (lb_m_lays_98 (nI P) (nI i, m) Jp) 4000 (nI (f i), mB) := by
      have e := eM (fun (σ14 : St) => Gd (Ix (nI i) 22) <| Lt ((σ14 22 i) : Int32) fun x16 => Jn (fun (σ17 : St) => Jp σ17) fun J18 => lp (lb_m_lays_98 (nI P) (nI i, m) J18) 4000 (x16, σ14))
      refine Eq.trans ?_ (Eq.trans e ?_)
      · subst eJp
        unfold lb_m_lays_44
        simp only [nI_clamp (show i < 2 ^ 31 by omega)]
        rw [bd_e (mcount hPl), hC.ph.P.cm, if_neg (nI_ge hi (by omega)), Gd_t g21]
      · rw [Gd_t g22, Lt_e, Jn_e, fmB 22 (by decide), hA.fs]
    rw [hcB, hmB]
    -- behind the segments
    have rows : ∃ c2 m2 p2, lp (lb_f_Pa_refresh_104 b (nI (f i), nI i, c) Jr) 4000 (nI (f i), cB) = Jr (nI (f (i + 1))) c2 ∧ lp (lb_m_lays_98 (nI P) (nI i, m) Jp) 4000 (nI (f i), mB) = Jp m2 ∧ p ≤ p2 ∧ p2 ≤ p + 6 ∧ (kd = 7 → p2 ≤ p + 4 ∧ XY c2 m2 b R) ∧ (f (i + 1) = f i → p2 = p) ∧ PcR c2 m2 b R p2 ∧ (XY c2 m2 b R ∨ ∀ j, j < i + 1 → m 19 j = 0) ∧ (∀ a, a ≠ b + 6 → a ≠ b + 8 → c2 a = cB a) ∧ c2 (b + 6) 6 = nI p ∧ (∀ a, a ≠ 0 → (a < 29 ∨ 36 < a) → m2 a = mB a) ∧ (∀ k, (k < 57 ∨ 59 < k) → m2 0 k = mB 0 k) ∧ (∀ k, p ≤ k → k < p2 → m2 29 k = nI i) ∧ (∀ k, k < p → ∀ a, 29 ≤ a → a ≤ 36 → m2 a k = mB a k) := by
      rcases hxy with hx | ⟨x1, x2, x3⟩
      · obtain ⟨c2, m2, p2, w1, w2, w3, w4, w5⟩ := rows_lock (kd := kd) hI hR hi hk9 (nI (f i), nI i, c) rfl (nI i, m) rfl Jr Jp (f (i + 1) - f i) (f i) cB mB p 4000 4000 (by omega) (Nat.le_refl _) (by omega) (by omega) cxB prB hx (by rw [fcB _ (by omega)]; exact kc) (by rw [fmB 1 (by decide)]; exact km) (by omega)
        exact ⟨c2, m2, p2, w1, w2, w5.le, by omega, fun e => ⟨by have := w4 e; omega, w5.xy⟩, fun e => by have := w5.le; omega, w5.pr, Or.inl w5.xy, w5.fc, by rw [w5.f6]; exact h6B, w5.fm, w5.f0, w5.nw, w5.old⟩
      · obtain ⟨e1, e2⟩ := rows_zero hI hi (nI (f i), nI i, c) rfl (nI i, m) rfl Jr Jp (f i) cB mB 4000 4000 x1.symm (by decide) (by decide) cxB
        exact ⟨cB, mB, p, e1, e2, Nat.le_refl _, by omega, fun e => absurd e x2, fun _ => rfl, prB, Or.inr x3, fun _ _ _ => rfl, h6B, fun _ _ _ => rfl, fun _ _ => rfl, fun k p1 p2 => by omega, fun _ _ _ _ _ => rfl⟩
    obtain ⟨c2, m2, p2, w1, w2, w3, w4, w5, w55, w6, w7, w8, w9, w10, w11, w12, w13⟩ := rows
    rw [w1, w2, eJr, eJp]
    have cx2 : CX c2 m2 b q P R0 R n f := cxB.of hI (fun a _ _ p3 p4 => w8 a p3 p4) (fun j l _ => by rw [w8 _ (by omega) (by omega)]) (fun a p1 p2 => w10 a p1 (by omega)) (fun k hk => w11 k (by omega))
    have kc2 : c2 (q + 2) (i * 14 + 0) = nI kd := by rw [w8 _ (by omega) (by omega), fcB _ (by omega)]; exact kc
    have km2 : m2 1 (P + 3 + 14 * i + 0) = nI kd := by rw [w10 1 (by decide) (by decide), fmB 1 (by decide)]; exact km
    -- behind the pattern
    have pat : ∃ c3 m3 p3, (Option.bind (f_Pl_kind c2 (rc (b + 6) 0) (nI i)) fun x1 => Jn (fun (σ2 : St) => Lt ((σ2 (b + 6) 6) : Int32) fun x4 => Jn (fun (σ5 : St) => some σ5) fun J6 => lp (lb_f_Pc_endLeg_23 (b + 6) (nI i) J6) 4000 (x4, σ2)) fun J3 => if (x1 : Int32) = (7 : Int32) then (Option.bind (f_Pc_drawPattern c2 (b + 6) (nI i)) fun x11 => J3 x11) else J3 c2) = lp (lb_f_Pc_endLeg_23 (b + 6) (nI i) (fun σ5 => some σ5)) 4000 (c3 (b + 6) 6, c3) ∧ (Option.bind (m_of m2 (nI P) (nI i) (0 : Int32)) fun x19 => Jn (fun (σ20 : St) => Lt (nI i + (1 : Int32)) fun x22 => ihm (x22, σ20)) fun J21 => if (x19 : Int32) = (7 : Int32) then (Option.bind (m_laysPattern m2 (nI P) (nI i)) fun x23 => J21 x23) else J21 m2) = ihm (nI (i + 1), m3) ∧ p2 ≤ p3 ∧ p3 ≤ 6 * (i + 1) ∧ (kd ≠ 7 → p3 = p2) ∧ PcR c3 m3 b R p3 ∧ (XY c3 m3 b R ∨ ∀ j, j < i + 1 → m 19 j = 0) ∧ (∀ a, a ≠ b + 6 → a ≠ b + 8 → c3 a = c2 a) ∧ c3 (b + 6) 6 = nI p ∧ (∀ a, a ≠ 0 → (a < 29 ∨ 36 < a) → m3 a = m2 a) ∧ (∀ k, (k < 57 ∨ 59 < k) → m3 0 k = m2 0 k) ∧ (∀ k, p2 ≤ k → k < p3 → m3 29 k = nI i) ∧ (∀ k, k < p2 → ∀ a, 29 ≤ a → a ≤ 36 → m3 a k = m2 a k) := by
      rw [rc_b60 hI, bd_e (kd_c hI cx2.ph.D hi21), bd_e (mof hPl hi21 (by decide)), kc2, km2, Jn_e, Jn_e]
      by_cases k7 : kd = 7
      · obtain ⟨x1, x2⟩ := w5 k7
        subst k7
        obtain ⟨c3, m3, p3, y1, y2, y3, y4⟩ := pat_lock hI hR14 cx2 hi w6 x2 (by omega) kc2 km2
        refine ⟨c3, m3, p3, ?_, ?_, y4.le, by omega, fun e => absurd rfl e, y4.pr, Or.inl y4.xy, y4.fc, by rw [y4.f6]; exact w9, y4.fm, y4.f0, y4.nw, y4.old⟩
        · rw [if_pos (by decide), bd_e y1]
          dsimp only
          rw [Lt_e, Jn_e]
        · rw [if_pos (by decide), bd_e y2]
          dsimp only
          rw [Lt_e, nI_1]
      · refine ⟨c2, m2, p2, ?_, ?_, Nat.le_refl _, by omega, fun _ => rfl, w6, w7, fun _ _ _ => rfl, w9, fun _ _ _ => rfl, fun _ _ => rfl, fun k p1 p2 => by omega, fun _ _ _ _ _ => rfl⟩
        · rw [if_neg (fun e => k7 ((nIl 7 (by omega) (by omega)).mp e))]
          dsimp only
          rw [Lt_e, Jn_e]
        · rw [if_neg (fun e => k7 ((nIl 7 (by omega) (by omega)).mp e))]
          dsimp only
          rw [Lt_e, nI_1]
    obtain ⟨c3, m3, p3, y1, y2, y3, y4, y45, y5, y6, y7, y8, y9, y10, y11, y12⟩ := pat
    have fm3 : ∀ a, a ≠ 0 → (a < 29 ∨ 36 < a) → m3 a = m a := fun a p1 p2 => by rw [y9 a p1 p2, w10 a p1 p2, fmB a p1]
    obtain ⟨c4, z1, z2⟩ := leg_end hI h hi (fun σ5 => some σ5) (fun a p1 p2 => by rw [y7 a p1 p2, w8 a p1 p2, fcB a p1]) y8 y5 (by omega) y4 fm3 (fun k hk => by rw [y10 k hk, w11 k hk, f0B k hk]) (fun k p1 q2 => by
        by_cases e : k < p2
        · rw [y12 k e 29 (by decide) (by decide)]; exact w12 k p1 e
        · exact y11 k (by omega) q2) (fun k hk a p1 p2 => by rw [y12 k (by omega) a p1 p2, w13 k hk a p1 p2, fmB a (by omega)]) (by
        rcases y6 with y | y
        · exact Or.inl y
        · exact Or.inr (fun j hj => by rw [fm3 19 (by decide) (by decide)]; exact y j hj)) (fun q1 q2 => by
        rw [y45 (fun e => q2 (by rw [km, e]; rfl)), w55 (hA.aa q1)])
    refine ⟨c4, m3, p3, ?_, y2, z2⟩
    dsimp only
    unfold f_Pc_endLeg
    rw [rc_b3 hI, y1, z1]
    rw [bd_e rfl, Lt_e, nI_1]
  by_cases hae : m 18 i = 1 ∧ m 19 i = 1
  · rw [if_pos hae] at hbl
    have e1 := hA.e1 hae.2
    rw [e1.1, e1.2.1] at hbl
    refine fin _ (s2 (s2 m 0 58 (m 20 i)) 0 59 (m 21 i)) hbl (fun J => ?_) (fun a p => by rw [s2_ne p, s2_ne p, s2_ne p]) (by simp (disch := omega) only [sH, sM]) (h.pr.of (by simp (disch := omega) only [sM]) (by rw [s2_ne (by omega), s2_ne (by omega), s2_ne (by omega)]) (by simp (disch := omega) only [sM]) (fun a p1 p2 => by rw [s2_ne (by omega), s2_ne (by omega)])) (fun a p => by rw [s2_ne p, s2_ne p]) (fun k p => by simp (disch := omega) only [sM]) (Or.inl ⟨by simp (disch := omega) only [sH, sM], by simp (disch := omega) only [sH, sM], by simp (disch := omega) only [sH, sM]; exact e1.2.2.le (by omega)⟩)
    rw [Jn_e, hae.1, hae.2, if_neg (by decide), Gd_t g21, if_neg (by decide), Gd_t g21, Lt_e, Gd_t g21, Lt_e, s2_ne (by decide)]
  · rw [if_neg hae] at hbl
    refine fin _ m hbl (fun J => ?_) (fun a p => s2_ne p) s2_at (h.pr.of (s2_k (by decide)) (s2_ne (by omega)) rfl (fun _ _ _ => rfl)) (fun _ _ => rfl) (fun _ _ => rfl) ?_
    · rw [Jn_e]
      by_cases e : m 18 i = 0
      · rw [if_pos e]
      · rw [if_neg e, Gd_t g21]
        have e1 : m 19 i = 0 := by
          rcases hA.en.2 with x | x
          · exact x
          · exact absurd ⟨hA.an.2.resolve_left e, x⟩ hae
        rw [if_pos e1]
    · rcases h.xy with x | x
      · exact Or.inl ⟨by rw [s2_k (by decide)]; exact x.x, by rw [s2_k (by decide)]; exact x.y, x.nb⟩
      · right
        have a1 : m 18 i = 1 := by
          rcases hA.an.2 with y | y
          · have h1 := hA.nx y
            have h2 := x (i - 1) (by omega)
            rw [h1.2] at h2
            exact absurd h2 (by decide)
          · exact y
        have a2 : m 19 i = 0 := by
          rcases hA.en.2 with y | y
          · exact y
          · exact absurd ⟨a1, y⟩ hae
        refine ⟨hA.aa a1, fun e => ?_, fun j hj => ?_⟩
        · have := hA.ax kd hk9 km (Or.inl (Or.inr e)) a1
          rw [a2] at this
          exact absurd this (by decide)
        · rcases (show j = i ∨ j < i by omega) with y | y
          · rw [y]; exact a2
          · exact x j y
