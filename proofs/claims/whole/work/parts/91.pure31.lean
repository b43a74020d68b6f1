/-! all pieces; the totals in the reference -/

theorem draw_lock {c1 m1 : St} {b q P n : Nat} {f : Nat → Nat} {R0 R : Int} (hI : PI b q) (hR14 : 14200 ≤ R) (hR : R ≤ 5940000) (Jc Jm : St → Option St) :
    ∀ (d i : Nat) (c m : St) (p g1 g2 : Nat), i + d = n → d < g1 → d < g2 → DI c m c1 m1 b q P R0 R n f i p → ∃ c' m' p', lp (lb_f_Pa_refresh_85 b Jc) g1 (nI (f i), nI i, c) = Jc c' ∧ lp (lb_m_lays_44 (nI P) Jm) g2 (nI i, m) = Jm m' ∧ DI c' m' c1 m1 b q P R0 R n f n p' := by
  intro d
  induction d with
  | zero =>
    intro i c m p g1 g2 hd h1 h2 h
    have e : i = n := by omega
    subst e
    have hph := h.cx.ph
    refine ⟨c, m, p, ?_, ?_, h⟩
    · rw [lp_s h1]
      show (if c (rc b 0) 1 ≤ nI i then Jc c else _) = _
      rw [if_pos (by rw [rc_b0 hI, hph.P.cc]; exact Int32.le_refl _)]
    · rw [lp_s h2]
      show Option.bind (m_count m (nI P)) (fun x13 => if (x13 : Int32) ≤ nI i then Jm m else _) = _
      rw [bd_e (mcount hph.P.Pl), if_pos (by rw [hph.P.cm]; exact Int32.le_refl _)]
  | succ d ih =>
    intro i c m p g1 g2 hd h1 h2 h
    obtain ⟨c', m', p', e1, e2, e3⟩ := draw_leg hI hR14 hR h (show i < n by omega) Jc Jm (lp (lb_f_Pa_refresh_85 b Jc) (g1 - 1)) (lp (lb_m_lays_44 (nI P) Jm) (g2 - 1))
    obtain ⟨c2, m2, p2, q1, q2, q3⟩ := ih (i + 1) c' m' p' (g1 - 1) (g2 - 1) (by omega) (by omega) (by omega) e3
    exact ⟨c2, m2, p2, by rw [lp_s (by omega), e1]; exact q1, by rw [lp_s (by omega), e2]; exact q2, q3⟩
theorem tv_e {sp : Int32} {l : Nat} (h1 : 1 ≤ sp.toInt) (hl : l ≤ 5965232) : Int64.toInt32 (((nI l).toInt64 * (360 : Int64)) / sp.toInt64) = (nI l * (360 : Int32)) / imax (1 : Int32) sp := by
  have el : (nI l).toInt = (l : Int) := nI_toInt (by omega)
  have k1 : (1 : Int32).toInt = 1 := by decide
  have k3 : (360 : Int32).toInt = 360 := by decide
  have k3L : (360 : Int64).toInt = 360 := by decide
  have hx : imax (1 : Int32) sp = sp := by
    have := imax_b (a := (1 : Int32)) (b := sp)
    rcases this.2.2 with e | e
    · rw [e] at this ⊢
      exact i2 (by omega)
    · exact e
  have e1 : ((nI l).toInt64 * (360 : Int64)).toInt = (l : Int) * 360 := by rw [tL_mul (by rw [tw, el, k3L]; omega) (by rw [tw, el, k3L]; omega), tw, el, k3L]
  have e2 : (nI l * (360 : Int32)).toInt = (l : Int) * 360 := by rw [tI_mul (by rw [el, k3]; omega) (by rw [el, k3]; omega), el, k3]
  have e3 : (((nI l).toInt64 * (360 : Int64)) / sp.toInt64).toInt = ((l : Int) * 360).tdiv sp.toInt := by rw [tL_div (tw sp) (by omega), e1]
  have e4 : ((nI l * (360 : Int32)) / sp).toInt = ((l : Int) * 360).tdiv sp.toInt := by rw [tI_div rfl (by omega), e2]
  have hb := tdb (x := (l : Int) * 360) (d := sp.toInt) (B := 2147483520) (by omega) (by omega) (by omega)
  rw [hx]
  exact i2 (by rw [tn (by rw [e3]; omega) (by rw [e3]; omega), e3, e4])
/-- the reference's totals -/
def TZ (m m0 : St) (i : Nat) : Prop := (∀ a, a ≠ 37 → a ≠ 38 → m a = m0 a) ∧ ∀ j, j < i → m 37 j = 0 ∧ m 38 j = 0
theorem tz_loop {m0 : St} {P n : Nat} (hP : P ≤ 2376) (hn : n ≤ 21) (hc : m0 1 P = nI n) (J : St → Option St) : ∀ (d i : Nat) (m : St) (g : Nat), i + d = n → d < g → TZ m m0 i → ∃ m', lp (lb_m_laysTotals_2 (nI P) J) g (nI i, m) = J m' ∧ TZ m' m0 n := by
  intro d
  induction d with
  | zero =>
    intro i m g hd hg h
    have e : i = n := by omega
    subst e
    refine ⟨m, ?_, h⟩
    rw [lp_s hg]
    show Option.bind (m_count m (nI P)) (fun x18 => if (x18 : Int32) ≤ nI i then J m else _) = _
    rw [bd_e (mcount hP), if_pos (by rw [h.1 1 (by decide) (by decide), hc]; exact Int32.le_refl _)]
  | succ d ih =>
    intro i m g hd hg h
    have g21 : Ix (nI i) 21 := Ix_n (show i < 21 by omega) (by decide)
    obtain ⟨m', q1, q2⟩ := ih (i + 1) (s2 (s2 m 37 i 0) 38 i 0) (g - 1) (by omega) (by omega) ⟨fun a p1 p2 => by rw [s2_ne p2, s2_ne p1]; exact h.1 a p1 p2, fun j hj => by
      by_cases e : j = i
      · subst e
        constructor <;> simp (disch := omega) only [sH, sM]
      · have := h.2 j (by omega)
        constructor
        · simp (disch := omega) only [sM]; exact this.1
        · simp (disch := omega) only [sM]; exact this.2⟩
    refine ⟨m', ?_, q2⟩
    rw [lp_s (by omega)]
    show Option.bind (m_count m (nI P)) (fun x18 => if (x18 : Int32) ≤ nI i then J m else (Gd (Ix (nI i) 21) <| Lt (s2 m 37 (Int32.toNatClampNeg (nI i)) (0 : Int32)) fun σ19 => Gd (Ix (nI i) 21) <| Lt (s2 σ19 38 (Int32.toNatClampNeg (nI i)) (0 : Int32)) fun σ20 => Lt (nI i + (1 : Int32)) fun x21 => lp (lb_m_laysTotals_2 (nI P) J) (g - 1) (x21, σ20))) = _
    rw [bd_e (mcount hP), if_neg (by rw [h.1 1 (by decide) (by decide), hc]; exact nI_ge (by omega) (by omega)), Gd_t g21, Lt_e, Gd_t g21, Lt_e, Lt_e, nI_1, nI_clamp (by omega)]
    exact q1
def TT (c m m0 : St) (P n k : Nat) : Prop := (∀ a, a ≠ 37 → a ≠ 38 → m a = m0 a) ∧ ∀ j, j < n → m 37 j = SLr m0 j k ∧ m 38 j = STr c m0 (m0 1 (P + 3 + 14 * j + 11)) j k
theorem tt_loop {c m0 : St} {b q P n p : Nat} {R0 R : Int} (hPR : PlanR c m0 q P R0 n) (hS : SetR c m0) (hK : RefK m0) (hp : PcR c m0 b R p) (h126 : p ≤ 126) (hlg : ∀ k, k < p → ∃ g : Nat, g < n ∧ m0 29 k = nI g) (J : St → Option St) : ∀ (d k : Nat) (m : St) (g : Nat), k + d = p → d < g → TT c m m0 P n k → ∃ m', lp (lb_m_laysTotals_33 (nI P) J) g (nI k, m) = J m' ∧ TT c m' m0 P n p := by
  have hn := hPR.le
  have hPl := hPR.Pl
  intro d
  induction d with
  | zero =>
    intro k m g hd hg h
    have e : k = p := by omega
    subst e
    refine ⟨m, ?_, h⟩
    rw [lp_s hg]
    show (if m 0 57 ≤ nI k then J m else _) = _
    rw [if_pos (by rw [h.1 0 (by decide) (by decide), hp.cm]; exact Int32.le_refl _)]
  | succ d ih =>
    intro k m gg hd hg h
    have g180 : Ix (nI k) 180 := Ix_n (show k < 180 by omega) (by decide)
    obtain ⟨j, hj, ej⟩ := hlg k (by omega)
    have g21 : Ix (nI j) 21 := Ix_n (show j < 21 by omega) (by decide)
    obtain ⟨l, l1, l2, el⟩ := (hp.row k (by omega)).len
    obtain ⟨L, La, Lb, -, Lm⟩ := (hPR.leg j hj).lim
    have eL : (nI L).toInt = (L : Int) := nI_toInt (by omega)
    have hS1 : SetR c m := hS.of rfl (fun z _ => by rw [h.1 0 (by decide) (by decide)])
    have hK1 : RefK m := hK.of (h.1 _ (by decide) (by decide)) (h.1 _ (by decide) (by decide)) (h.1 _ (by decide) (by decide))
    have hof : m_of m (nI P) (nI j) (11 : Int32) = some (nI L) := by rw [mof hPl (by omega) (by decide), h.1 1 (by decide) (by decide), Lm]
    obtain ⟨sp, esp⟩ : ∃ sp : Int32, sp = if m0 30 k = 2 then imin (c 1 5) (nI L) else gsp c (nI L) (m0 32 k) := ⟨_, rfl⟩
    have hsp : 1 ≤ sp.toInt := by
      rw [esp]
      by_cases e : m0 30 k = 2
      · rw [if_pos e]
        have hm := imin_b (a := c 1 5) (b := nI L)
        have h5 := hS.2.2.2.2.1
        rcases hm.2.2 with q | q <;> rw [q] at hm ⊢ <;> omega
      · rw [if_neg e]
        have := gsp_b hS (lim := nI L) (by omega) (m0 32 k)
        omega
    have hne : ¬ sp.toInt64 = 0 := fun q => by
      have := congrArg Int64.toInt q
      rw [tw, show (0 : Int64).toInt = 0 by decide] at this
      omega
    have ht := tv_e (l := l) hsp l2
    obtain ⟨M, eM⟩ : ∃ M, M = s2 (s2 m 37 j (m 37 j + m0 31 k)) 38 j (m 38 j + (nI l * (360 : Int32)) / imax (1 : Int32) sp) := ⟨_, rfl⟩
    have hT : TT c M m0 P n (k + 1) := by
      refine ⟨fun a p1 p2 => by rw [eM, s2_ne p2, s2_ne p1]; exact h.1 a p1 p2, fun i hi => ?_⟩
      have hh := h.2 i hi
      show _ = SLr m0 i k + (if m0 29 k = nI i then m0 31 k else 0) ∧ _ = STr c m0 _ i k + (if m0 29 k = nI i then tv c _ (m0 30 k) (m0 31 k) (m0 32 k) else 0)
      by_cases e : i = j
      · subst e
        rw [if_pos ej, if_pos ej, ← hh.1, ← hh.2, eM]
        constructor
        · simp (disch := omega) only [sH, sM]
        · simp (disch := omega) only [sH, sM]
          unfold tv
          rw [Lm, ← esp, el]
      · have en : ¬ m0 29 k = nI i := fun q => by
          rw [ej] at q
          have := (nI_eq (by omega) (by omega)).mp q
          omega
        rw [if_neg en, if_neg en, ← hh.1, ← hh.2, eM, Int32.add_zero, Int32.add_zero]
        constructor <;> simp (disch := omega) only [sM]
    obtain ⟨m', q1, q2⟩ := ih (k + 1) M (gg - 1) (by omega) (by omega) hT
    refine ⟨m', ?_, q2⟩
    rw [lp_s (by omega)]
    have key : (Gd (Ix (nI j) 21) <|
  Gd (Ix (nI k) 180) <|
  Gd (Ix (nI j) 21) <|
  Lt (s2 m 37 j ((m 37 j) + (m 31 k))) fun σ10 =>
  Gd (Ix (nI j) 21) <|
  Gd (Ix (nI k) 180) <|
  Gd (¬ ((Int32.toInt64 sp) : Int64) = 0) <|
  Gd (Ix (nI j) 21) <|
  Lt (s2 σ10 38 j ((σ10 38 j) + (Int64.toInt32 (((Int32.toInt64 (σ10 31 k)) * (360 : Int64)) / (Int32.toInt64 sp))))) fun σ12 =>
  Lt (nI k + (1 : Int32) : Int32) fun x13 =>
  lp (lb_m_laysTotals_33 (nI P) J) (gg - 1) (x13, σ12)) = J m' := by
      rw [Gd_t g21, Gd_t g180, Gd_t g21, Lt_e, Gd_t g21, Gd_t g180, Gd_t hne, Gd_t g21, Lt_e, Lt_e, nI_1, sM (by omega), sM (by omega), h.1 31 (by decide) (by decide)]
      rw [el] at eM ⊢
      rw [ht, ← eM]
      exact q1
    unfold lb_m_laysTotals_33
    simp only [nI_clamp (show k < 2 ^ 31 by omega)]
    rw [if_neg (by rw [h.1 0 (by decide) (by decide), hp.cm]; exact nI_ge (by omega) (by omega)), Gd_t g180, h.1 29 (by decide) (by decide), ej, Lt_e, Gd_t g180]
    simp only [nI_clamp (show j < 2 ^ 31 by omega)]
    refine (Jn_x sp (fun K => ?_)).trans key
    rw [h.1 30 (by decide) (by decide), h.1 32 (by decide) (by decide), esp]
    by_cases e : m0 30 k = 2
    · rw [if_pos e, if_pos e, bd_e (as_m hS1 hof)]
    · rw [if_neg e, if_neg e, Gd_t g180, bd_e (gs_m hK1 hS1 _ hof (by omega))]
theorem totals_m {c m0 : St} {b q P n p : Nat} {R0 R : Int} (hPR : PlanR c m0 q P R0 n) (hS : SetR c m0) (hK : RefK m0) (hp : PcR c m0 b R p) (h126 : p ≤ 126) (hlg : ∀ k, k < p → ∃ g : Nat, g < n ∧ m0 29 k = nI g) : ∃ m', m_laysTotals m0 (nI P) = some m' ∧ TT c m' m0 P n p := by
  have hn := hPR.le
  unfold m_laysTotals
  rw [Jn_e]
  obtain ⟨m1, e1, e2⟩ := tz_loop hPR.Pl hn hPR.cm (fun (σ1 : St) => Jn (fun (σ3 : St) => some σ3) fun J4 => lp (lb_m_laysTotals_33 (nI P) J4) 4000 ((0 : Int32), σ1)) n 0 m0 4000 (by omega) (by omega) ⟨fun _ _ _ => rfl, fun j hj => absurd hj (by omega)⟩
  obtain ⟨m2, q1, q2⟩ := tt_loop hPR hS hK hp h126 hlg (fun (σ3 : St) => some σ3) p 0 m1 4000 (by omega) (by omega) ⟨e2.1, fun j hj => e2.2 j hj⟩
  refine ⟨m2, ?_, q2⟩
  refine Eq.trans e1 ?_
  rw [Jn_e]
  exact q1
