/-! the vertical profile, on both sides -/

def chg (x g : Int32) : Int32 := Int64.toInt32 ((x.toInt64 * g.toInt64) / (1000 : Int64))
theorem chg_c (x g : Int32) : f_Sg_changeOver x g = some (chg x g) := rfl
theorem chg_m (x g : Int32) : m_change x g = some (chg x g) := rfl
def BS (c m : St) (b q P : Nat) (R0 : Int) (n : Nat) : Prop :=
  (Dm c) ∧
  (PlanR c m q P R0 n) ∧
  (SetR c m) ∧
  (∀ j, j < n → c (b + 2) (j * 16 + 9) = m 37 j) ∧
  (∀ j, j < n → 0 ≤ (m 37 j).toInt ∧ (m 37 j).toInt ≤ 800000000)
theorem BS.D {c m : St} {b q P : Nat} {R0 : Int} {n : Nat} (h : BS c m b q P R0 n) : Dm c := h.1
theorem BS.P {c m : St} {b q P : Nat} {R0 : Int} {n : Nat} (h : BS c m b q P R0 n) : PlanR c m q P R0 n := h.2.1
theorem BS.S {c m : St} {b q P : Nat} {R0 : Int} {n : Nat} (h : BS c m b q P R0 n) : SetR c m := h.2.2.1
theorem BS.ln {c m : St} {b q P : Nat} {R0 : Int} {n : Nat} (h : BS c m b q P R0 n) : ∀ j, j < n → c (b + 2) (j * 16 + 9) = m 37 j := h.2.2.2.1
theorem BS.lb {c m : St} {b q P : Nat} {R0 : Int} {n : Nat} (h : BS c m b q P R0 n) : ∀ j, j < n → 0 ≤ (m 37 j).toInt ∧ (m 37 j).toInt ≤ 800000000 := h.2.2.2.2

theorem BS.of {c m c' m' : St} {b q P n : Nat} {R0 : Int} (hI : PI b q) (h : BS c m b q P R0 n) (hc : ∀ a, a ≠ b + 2 → c' a = c a) (h9 : ∀ j, c' (b + 2) (j * 16 + 9) = c (b + 2) (j * 16 + 9)) (hm : ∀ a, a ≠ 39 → a ≠ 40 → m' a = m a) : BS c' m' b q P R0 n := by
  have hlt := hI.lt
  have nt := hI.nt
  refine ⟨h.D.of (fun t k ht => by rw [hc t (fun e => by rw [e, nt.2.1] at ht; cases ht)]), h.P.of (hc _ (by omega)) (hc _ (by omega)) (hc _ (by omega)) (hm _ (by decide) (by decide)) (hm _ (by decide) (by decide)) (hm _ (by decide) (by decide)), h.S.of (hc _ (by omega)) (fun k _ => by rw [hm 0 (by decide) (by decide)]), fun j hj => by rw [h9, hm 37 (by decide) (by decide)]; exact h.ln j hj, fun j hj => by rw [hm 37 (by decide) (by decide)]; exact h.lb j hj⟩
theorem chg_b {x g : Int32} (h1 : 0 ≤ x.toInt) (h2 : x.toInt ≤ 800000000) (g1 : 100 ≤ g.toInt) (g2 : g.toInt ≤ 900) : 0 ≤ (chg x g).toInt ∧ (chg x g).toInt ≤ 720000000 := by
  have p0 : 0 ≤ x.toInt * g.toInt := Int.mul_nonneg h1 (by omega)
  have p1 : x.toInt * g.toInt ≤ 800000000 * 900 := Int.mul_le_mul h2 g2 (by omega) (by decide)
  have e : ((x.toInt64 * g.toInt64) / (1000 : Int64)).toInt = x.toInt * g.toInt / 1000 := by rw [tL_div k1000L (by decide), tL_mul (by rw [tw, tw]; omega) (by rw [tw, tw]; omega), tw, tw, td_pos p0]
  unfold chg
  rw [tn (by rw [e]; omega) (by rw [e]; omega), e]
  omega
theorem imin_r {a b : Int32} {x : Int} (ha : x ≤ a.toInt) (hb : x ≤ b.toInt) : x ≤ (imin a b).toInt := by
  rcases (imin_b (a := a) (b := b)).2.2 with e | e <;> rw [e] <;> assumption
theorem imax_r {a b : Int32} {x : Int} (ha : a.toInt ≤ x) (hb : b.toInt ≤ x) : (imax a b).toInt ≤ x := by
  rcases (imax_b (a := a) (b := b)).2.2 with e | e <;> rw [e] <;> assumption
theorem hb_c {c : St} {b q i l : Nat} (hI : PI b q) (hD : Dm c) (hi : i < 21) (hl : l < 16) : f_Pf_heightBefore c (b + 9) (nI i) (OfNat.ofNat l) = some (if i = 0 then c 1 9 else c (b + 2) ((i - 1) * 16 + l)) := by
  unfold f_Pf_heightBefore
  rw [rc_b91 hI, rc_b92 hI, Jn_e]
  by_cases h : i = 0
  · rw [if_pos (show nI i = 0 by rw [h]; rfl), if_pos h]
  · have e : nI i - (1 : Int32) = nI (i - 1) := pk_sub (a := i) (b := 1) (by omega)
    rw [if_neg (nI_ne0 (by omega) (by omega)), if_neg h, e, bd_e (lgg hI hD (show i - 1 < 21 by omega) hl)]
theorem climb_c {c : St} {b q i : Nat} (hI : PI b q) (hD : Dm c) (hi : i < 21) : f_Pf_climb c (b + 9) (nI i) = some (s2 c (b + 2) (i * 16 + 12) (imin (imin (c 1 4) (c (q + 2) (i * 14 + 10))) ((if i = 0 then c 1 9 else c (b + 2) ((i - 1) * 16 + 12)) + chg (c (b + 2) (i * 16 + 9)) (c 1 6)))) := by
  unfold f_Pf_climb
  rw [rc_b92 hI, rc_b91 hI, rc_b90 hI, rc_q0 hI, bd_e (lgg hI hD hi (by decide)), bd_e (chg_c _ _), bd_e (hb_c hI hD hi (by decide)), Lt_e, bd_e (pg hI hD hi (by decide)), Lt_e, bd_e (lgp hI hD hi (by decide))]
def CL (c m c2 m2 : St) (b n i : Nat) : Prop :=
  (∀ a, a ≠ b + 2 → c a = c2 a) ∧
  (∀ j l, l < 12 → c (b + 2) (j * 16 + l) = c2 (b + 2) (j * 16 + l)) ∧
  (∀ a, a ≠ 39 → a ≠ 40 → m a = m2 a) ∧
  (∀ j, j < i → c (b + 2) (j * 16 + 12) = m 39 j) ∧
  (∀ j, j < i → 0 ≤ (m 39 j).toInt ∧ (m 39 j).toInt ≤ 450)
theorem CL.fc {c m c2 m2 : St} {b n i : Nat} (h : CL c m c2 m2 b n i) : ∀ a, a ≠ b + 2 → c a = c2 a := h.1
theorem CL.f2 {c m c2 m2 : St} {b n i : Nat} (h : CL c m c2 m2 b n i) : ∀ j l, l < 12 → c (b + 2) (j * 16 + l) = c2 (b + 2) (j * 16 + l) := h.2.1
theorem CL.fm {c m c2 m2 : St} {b n i : Nat} (h : CL c m c2 m2 b n i) : ∀ a, a ≠ 39 → a ≠ 40 → m a = m2 a := h.2.2.1
theorem CL.cl {c m c2 m2 : St} {b n i : Nat} (h : CL c m c2 m2 b n i) : ∀ j, j < i → c (b + 2) (j * 16 + 12) = m 39 j := h.2.2.2.1
theorem CL.cb {c m c2 m2 : St} {b n i : Nat} (h : CL c m c2 m2 b n i) : ∀ j, j < i → 0 ≤ (m 39 j).toInt ∧ (m 39 j).toInt ≤ 450 := h.2.2.2.2

theorem CL.bs {c m c2 m2 : St} {b q P n i : Nat} {R0 : Int} (hI : PI b q) (h : CL c m c2 m2 b n i) (h2 : BS c2 m2 b q P R0 n) : BS c m b q P R0 n := h2.of hI h.fc (fun j => h.f2 j 9 (by decide)) h.fm
theorem climb_loop {c2 m2 : St} {b q P n : Nat} {R0 : Int} (hI : PI b q) (hB : BS c2 m2 b q P R0 n) (Jc Jm : St → Option St) : ∀ (d i : Nat) (c m : St) (g1 g2 : Nat), i + d = n → d < g1 → d < g2 → CL c m c2 m2 b n i → ∃ c' m', lp (lb_f_Pf_calculate_2 (b + 9) Jc) g1 (nI i, c) = Jc c' ∧ lp (lb_m_laysAltitudes_8 (nI P) (nI n) Jm) g2 (nI i, m) = Jm m' ∧ CL c' m' c2 m2 b n n := by
  have hn := hB.P.le
  have hPl := hB.P.Pl
  have hlt := hI.lt
  intro d
  induction d with
  | zero =>
    intro i c m g1 g2 hd h1 h2 h
    have e : i = n := by omega
    subst e
    have hb := h.bs hI hB
    refine ⟨c, m, ?_, ?_, h⟩
    · rw [lp_s h1]
      show (if c (rc (b + 9) 0) 1 ≤ nI i then Jc c else _) = _
      rw [if_pos (by rw [rc_b90 hI, hb.P.cc]; exact Int32.le_refl _)]
    · rw [lp_s h2]
      show (if nI i ≤ nI i then Jm m else _) = _
      rw [if_pos (Int32.le_refl _)]
  | succ d ih =>
    intro i c m g1 g2 hd h1 h2 h
    have hb := h.bs hI hB
    have hi : i < n := by omega
    have g21 : Ix (nI i) 21 := Ix_n (show i < 21 by omega) (by decide)
    have hL := hb.P.leg i hi
    obtain ⟨hh, hh450, hhc, hhm⟩ := hL.hgh
    obtain ⟨V, eV⟩ : ∃ V, V = imin (imin (c 1 4) (c (q + 2) (i * 14 + 10))) ((if i = 0 then c 1 9 else c (b + 2) ((i - 1) * 16 + 12)) + chg (c (b + 2) (i * 16 + 9)) (c 1 6)) := ⟨_, rfl⟩
    have ec := climb_c hI hb.D (show i < 21 by omega)
    rw [← eV] at ec
    have hV : 0 ≤ V.toInt ∧ V.toInt ≤ 450 := by
      have s4 := hb.S.2.2.2.1
      have s6 := hb.S.2.2.2.2.2.1
      have s9 := hb.S.2.2.2.2.2.2.2.2.1
      have hl := hb.lb i hi
      have cb := chg_b (x := c (b + 2) (i * 16 + 9)) (g := c 1 6) (by rw [hb.ln i hi]; exact hl.1) (by rw [hb.ln i hi]; exact hl.2) s6.2.1 s6.2.2
      have hf : 0 ≤ (if i = 0 then c 1 9 else c (b + 2) ((i - 1) * 16 + 12)).toInt ∧ (if i = 0 then c 1 9 else c (b + 2) ((i - 1) * 16 + 12)).toInt ≤ 450 := by
        by_cases e : i = 0
        · rw [if_pos e]; exact s9.2
        · rw [if_neg e, h.cl _ (by omega)]; exact h.cb _ (by omega)
      have hs := tI_add (a := (if i = 0 then c 1 9 else c (b + 2) ((i - 1) * 16 + 12))) (b := chg (c (b + 2) (i * 16 + 9)) (c 1 6)) (by omega) (by omega)
      have eh : (nI hh).toInt = (hh : Int) := nI_toInt (by omega)
      rw [eV]
      refine ⟨imin_r (imin_r (by omega) (by rw [hhc, eh]; omega)) (by omega), ?_⟩
      have x1 := (imin_b (a := imin (c 1 4) (c (q + 2) (i * 14 + 10))) (b := (if i = 0 then c 1 9 else c (b + 2) ((i - 1) * 16 + 12)) + chg (c (b + 2) (i * 16 + 9)) (c 1 6))).1
      have x2 := (imin_b (a := c 1 4) (b := c (q + 2) (i * 14 + 10))).1
      omega
    obtain ⟨c', m', q1, q2, q3⟩ := ih (i + 1) (s2 c (b + 2) (i * 16 + 12) V) (s2 m 39 i V) (g1 - 1) (g2 - 1) (by omega) (by omega) (by omega) ⟨fun a p => by rw [s2_ne p]; exact h.fc a p, fun j l hl => by rw [s2_k (by omega)]; exact h.f2 j l hl, fun a p1 p2 => by rw [s2_ne p1]; exact h.fm a p1 p2, fun j hj => by
      by_cases e : j = i
      · rw [e, s2_at, s2_at]
      · rw [s2_k (by omega), s2_k e]; exact h.cl j (by omega), fun j hj => by
      by_cases e : j = i
      · rw [e, s2_at]; exact hV
      · rw [s2_k e]; exact h.cb j (by omega)⟩
    refine ⟨c', m', ?_, ?_, q3⟩
    · rw [lp_s (by omega)]
      show (if c (rc (b + 9) 0) 1 ≤ nI i then Jc c else Option.bind (f_Pf_climb c (b + 9) (nI i)) fun x22 => Lt (nI i + (1 : Int32)) fun x23 => lp (lb_f_Pf_calculate_2 (b + 9) Jc) (g1 - 1) (x23, x22)) = _
      rw [if_neg (by rw [rc_b90 hI, hb.P.cc]; exact nI_ge hi (by omega)), bd_e ec, Lt_e, nI_1]
      exact q1
    · rw [lp_s (by omega)]
      unfold lb_m_laysAltitudes_8
      simp only [nI_clamp (show i < 2 ^ 31 by omega)]
      rw [if_neg (nI_ge hi (by omega))]
      refine (Jn_x (if i = 0 then c 1 9 else c (b + 2) ((i - 1) * 16 + 12)) (fun K => ?_)).trans ?_
      · by_cases e : i = 0
        · rw [if_pos (show nI i = 0 by rw [e]; rfl), if_pos e, hb.S.2.2.2.2.2.2.2.2.1.1]
        · have e1 : nI i - (1 : Int32) = nI (i - 1) := pk_sub (a := i) (b := 1) (by omega)
          rw [if_neg (nI_ne0 (by omega) (by omega)), if_neg e, e1, Gd_t (Ix_n (show i - 1 < 21 by omega) (by decide)), nI_clamp (by omega), h.cl _ (by omega)]
      · rw [bd_e (mof hPl (show i < 21 by omega) (by decide)), bd_e (lesser_e _ _), Gd_t g21, bd_e (chg_m _ _), bd_e (lesser_e _ _), Gd_t g21, Lt_e, Lt_e, nI_1, ← hb.S.2.2.2.1.1, ← hb.S.2.2.2.2.2.1.1, ← hb.ln i hi, hhm, ← hhc, ← eV]
        exact q2
theorem desc_c {c : St} {b q i n : Nat} (hI : PI b q) (hD : Dm c) (hi : i < n) (hn : n ≤ 21) (hc : c q 1 = nI n) : f_Pf_descend c (b + 9) (nI i) = some (s2 c (b + 2) (i * 16 + 13) (if i + 1 = n then imin (imax (c 1 10) (c (q + 2) (i * 14 + 9))) (c (q + 2) (i * 14 + 10)) else imin (imin (imax (c (b + 2) ((i + 1) * 16 + 13) + chg (c (b + 2) ((i + 1) * 16 + 9)) (c 1 7)) (c (q + 2) (i * 14 + 9))) (c (q + 2) (i * 14 + 10))) (c 1 4))) := by
  have hi21 : i < 21 := by omega
  have e1 : nI n - (1 : Int32) = nI (n - 1) := pk_sub (a := n) (b := 1) (by omega)
  unfold f_Pf_descend
  rw [rc_b92 hI, rc_b91 hI, rc_b90 hI, rc_q0 hI, bd_e (pg hI hD hi21 (by decide)), bd_e (pg hI hD hi21 (by decide)), hc, e1, nI_1]
  by_cases e : i + 1 = n
  · rw [if_pos (show nI i = nI (n - 1) by rw [← e, Nat.add_sub_cancel]), if_pos e, bd_e (lgp hI hD hi21 (by decide))]
  · rw [if_neg (fun q => by have := (nI_eq (by omega) (by omega)).mp q; omega), if_neg e, bd_e (lgg hI hD (show i + 1 < 21 by omega) (by decide)), bd_e (chg_c _ _), bd_e (lgg hI hD (show i + 1 < 21 by omega) (by decide)), Lt_e, bd_e (lgp hI hD hi21 (by decide))]
def DS (c m c2 m2 : St) (b n i : Nat) : Prop :=
  (∀ a, a ≠ b + 2 → c a = c2 a) ∧
  (∀ j l, l < 13 → c (b + 2) (j * 16 + l) = c2 (b + 2) (j * 16 + l)) ∧
  (∀ a, a ≠ 40 → m a = m2 a) ∧
  (∀ j, i ≤ j → j < n → c (b + 2) (j * 16 + 13) = m 40 j) ∧
  (∀ j, i ≤ j → j < n → 0 ≤ (m 40 j).toInt ∧ (m 40 j).toInt ≤ 450)
theorem DS.fc {c m c2 m2 : St} {b n i : Nat} (h : DS c m c2 m2 b n i) : ∀ a, a ≠ b + 2 → c a = c2 a := h.1
theorem DS.f2 {c m c2 m2 : St} {b n i : Nat} (h : DS c m c2 m2 b n i) : ∀ j l, l < 13 → c (b + 2) (j * 16 + l) = c2 (b + 2) (j * 16 + l) := h.2.1
theorem DS.fm {c m c2 m2 : St} {b n i : Nat} (h : DS c m c2 m2 b n i) : ∀ a, a ≠ 40 → m a = m2 a := h.2.2.1
theorem DS.ds {c m c2 m2 : St} {b n i : Nat} (h : DS c m c2 m2 b n i) : ∀ j, i ≤ j → j < n → c (b + 2) (j * 16 + 13) = m 40 j := h.2.2.2.1
theorem DS.db {c m c2 m2 : St} {b n i : Nat} (h : DS c m c2 m2 b n i) : ∀ j, i ≤ j → j < n → 0 ≤ (m 40 j).toInt ∧ (m 40 j).toInt ≤ 450 := h.2.2.2.2

theorem DS.bs {c m c2 m2 : St} {b q P n i : Nat} {R0 : Int} (hI : PI b q) (h : DS c m c2 m2 b n i) (h2 : BS c2 m2 b q P R0 n) : BS c m b q P R0 n := h2.of hI h.fc (fun j => h.f2 j 9 (by decide)) (fun a _ p2 => h.fm a p2)
theorem desc_loop {c2 m2 : St} {b q P n : Nat} {R0 : Int} (hI : PI b q) (hB : BS c2 m2 b q P R0 n) (Jc Jm : St → Option St) : ∀ (i : Nat) (c m : St) (g1 g2 : Nat), i ≤ n → i < g1 → i < g2 → DS c m c2 m2 b n i → ∃ c' m', lp (lb_f_Pf_calculate_34 (b + 9) Jc) g1 (nI i - 1, c) = Jc c' ∧ lp (lb_m_laysAltitudes_84 (nI P) (nI n) Jm) g2 (nI i - 1, m) = Jm m' ∧ DS c' m' c2 m2 b n 0 := by
  have hn := hB.P.le
  have hPl := hB.P.Pl
  have hlt := hI.lt
  intro i
  induction i with
  | zero =>
    intro c m g1 g2 hd h1 h2 h
    refine ⟨c, m, ?_, ?_, h⟩
    · rw [lp_s h1]
      show (if nI 0 - (1 : Int32) < 0 then Jc c else _) = _
      rw [if_pos (by decide)]
    · rw [lp_s h2]
      show (if nI 0 - (1 : Int32) < 0 then Jm m else _) = _
      rw [if_pos (by decide)]
  | succ i ih =>
    intro c m g1 g2 hd h1 h2 h
    have hb := h.bs hI hB
    have hi : i < n := by omega
    have ei : nI (i + 1) - (1 : Int32) = nI i := nI_pred i
    have em : nI i + (-1 : Int32) = nI i - 1 := by rw [Int32.sub_eq_add_neg]
    have g21 : Ix (nI i) 21 := Ix_n (show i < 21 by omega) (by decide)
    have hL := hb.P.leg i hi
    obtain ⟨hh, hh450, hhc, hhm⟩ := hL.hgh
    obtain ⟨lw, lw450, lwc, lwm⟩ := hL.low
    obtain ⟨V, eV⟩ : ∃ V, V = (if i + 1 = n then imin (imax (c 1 10) (c (q + 2) (i * 14 + 9))) (c (q + 2) (i * 14 + 10)) else imin (imin (imax (c (b + 2) ((i + 1) * 16 + 13) + chg (c (b + 2) ((i + 1) * 16 + 9)) (c 1 7)) (c (q + 2) (i * 14 + 9))) (c (q + 2) (i * 14 + 10))) (c 1 4)) := ⟨_, rfl⟩
    have ec := desc_c hI hb.D hi hn hb.P.cc
    rw [← eV] at ec
    have hV : 0 ≤ V.toInt ∧ V.toInt ≤ 450 := by
      have s4 := hb.S.2.2.2.1
      have s7 := hb.S.2.2.2.2.2.2.1
      have s10 := hb.S.2.2.2.2.2.2.2.2.2
      have eh : (nI hh).toInt = (hh : Int) := nI_toInt (by omega)
      have el : (nI lw).toInt = (lw : Int) := nI_toInt (by omega)
      rw [eV]
      by_cases e : i + 1 = n
      · rw [if_pos e]
        have y1 := (imax_b (a := c 1 10) (b := c (q + 2) (i * 14 + 9))).1
        have y2 := (imin_b (a := imax (c 1 10) (c (q + 2) (i * 14 + 9))) (b := c (q + 2) (i * 14 + 10))).2.1
        refine ⟨imin_r (by omega) (by rw [hhc, eh]; omega), ?_⟩
        rw [hhc, eh] at y2
        rw [hhc]
        omega
      · rw [if_neg e]
        have y1 := (imax_b (a := c (b + 2) ((i + 1) * 16 + 13) + chg (c (b + 2) ((i + 1) * 16 + 9)) (c 1 7)) (b := c (q + 2) (i * 14 + 9))).2.1
        have y2 := (imin_b (a := imin (imax (c (b + 2) ((i + 1) * 16 + 13) + chg (c (b + 2) ((i + 1) * 16 + 9)) (c 1 7)) (c (q + 2) (i * 14 + 9))) (c (q + 2) (i * 14 + 10))) (b := c 1 4)).2.1
        rw [lwc, el] at y1
        refine ⟨imin_r (imin_r (by rw [lwc]; omega) (by rw [hhc, eh]; omega)) (by omega), by omega⟩
    obtain ⟨c', m', q1, q2, q3⟩ := ih (s2 c (b + 2) (i * 16 + 13) V) (s2 m 40 i V) (g1 - 1) (g2 - 1) (by omega) (by omega) (by omega) ⟨fun a p => by rw [s2_ne p]; exact h.fc a p, fun j l hl => by rw [s2_k (by omega)]; exact h.f2 j l hl, fun a p1 => by rw [s2_ne p1]; exact h.fm a p1, fun j p1 p2 => by
      by_cases e : j = i
      · rw [e, s2_at, s2_at]
      · rw [s2_k (by omega), s2_k e]; exact h.ds j (by omega) p2, fun j p1 p2 => by
      by_cases e : j = i
      · rw [e, s2_at]; exact hV
      · rw [s2_k e]; exact h.db j (by omega) p2⟩
    refine ⟨c', m', ?_, ?_, q3⟩
    · rw [lp_s (by omega), ei]
      show (if nI i < 0 then Jc c else Option.bind (f_Pf_descend c (b + 9) (nI i)) fun x18 => Lt (nI i + (-1 : Int32)) fun x19 => lp (lb_f_Pf_calculate_34 (b + 9) Jc) (g1 - 1) (x19, x18)) = _
      rw [if_neg (nI_pos (by omega)), bd_e ec, Lt_e, em]
      exact q1
    · rw [lp_s (by omega), ei]
      have key : ∀ ih : Int32 × St → Option St, lb_m_laysAltitudes_84 (nI P) (nI n) Jm ih (nI i, m) = ih (nI i - 1, s2 m 40 i V) := by
        intro ih
        have e1 : nI n - (1 : Int32) = nI (n - 1) := pk_sub (a := n) (b := 1) (by omega)
        unfold lb_m_laysAltitudes_84
        simp only [nI_clamp (show i < 2 ^ 31 by omega)]
        rw [if_neg (nI_pos (by omega)), Jn_if, e1, nI_1]
        by_cases e : i + 1 = n
        · rw [if_pos e] at eV
          rw [if_pos (show nI i = nI (n - 1) by rw [← e, Nat.add_sub_cancel]), Jn_e, if_neg (by decide)]
          dsimp only
          rw [bd_e (mof hPl (show i < 21 by omega) (by decide)), bd_e (greater_e _ _), bd_e (mof hPl (show i < 21 by omega) (by decide)), bd_e (lesser_e _ _), Jn_e, if_neg (by decide)]
          dsimp only
          rw [Gd_t g21, Lt_e, Lt_e, em, ← hb.S.2.2.2.2.2.2.2.2.2.1, hhm, ← hhc, lwm, ← lwc, ← eV]
        · rw [if_neg e] at eV
          have gi1 : Ix (nI (i + 1)) 21 := Ix_n (show i + 1 < 21 by omega) (by decide)
          rw [if_neg (fun q => by have := (nI_eq (by omega) (by omega)).mp q; omega), Jn_e, if_pos rfl, Gd_t gi1, Gd_t gi1]
          simp only [nI_clamp (show i + 1 < 2 ^ 31 by omega)]
          rw [bd_e (chg_m _ _), bd_e (mof hPl (show i < 21 by omega) (by decide)), bd_e (greater_e _ _), bd_e (mof hPl (show i < 21 by omega) (by decide)), bd_e (lesser_e _ _), Jn_e, if_pos trivial, bd_e (lesser_e _ _)]
          dsimp only
          rw [Gd_t g21, Lt_e, Lt_e, em, ← hb.S.2.2.2.1.1, ← hb.S.2.2.2.2.2.2.1.1, hhm, ← hhc, lwm, ← lwc, ← hb.ln (i + 1) (by omega), ← h.ds (i + 1) (by omega) (by omega), ← eV]
      rw [key]
      exact q2
