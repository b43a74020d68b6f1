/-! a leg's totals in the class; the loop over the legs' pieces -/

def SLr (m : St) (j : Nat) : Nat → Int32
  | 0 => 0
  | k + 1 => SLr m j k + (if m 29 k = nI j then m 31 k else 0)
def tv (c : St) (lim kd len crs : Int32) : Int32 := (len * (360 : Int32)) / imax (1 : Int32) (if kd = 2 then imin (c 1 5) lim else gsp c lim crs)
def STr (c m : St) (lim : Int32) (j : Nat) : Nat → Int32
  | 0 => 0
  | k + 1 => STr c m lim j k + (if m 29 k = nI j then tv c lim (m 30 k) (m 31 k) (m 32 k) else 0)
def LCr (m : St) (j : Nat) : Nat → Int32
  | 0 => -1000000
  | k + 1 => if m 29 k = nI j then m 32 k else LCr m j k
theorem tv_of {c c' : St} (h : c' 1 = c 1) (lim kd len crs : Int32) : tv c' lim kd len crs = tv c lim kd len crs := by
  unfold tv gsp wnd
  rw [h]
/-- rows that others added, of other legs -/
theorem sums_of {c m c' m' : St} {lim : Int32} {j p : Nat} (h1 : c' 1 = c 1) (hm : ∀ k, k < p → ∀ a, 29 ≤ a → a ≤ 36 → m' a k = m a k) : SLr m' j p = SLr m j p ∧ STr c' m' lim j p = STr c m lim j p ∧ LCr m' j p = LCr m j p := by
  induction p with
  | zero => exact ⟨rfl, rfl, rfl⟩
  | succ p ih =>
    have h := ih (fun k hk => hm k (by omega))
    unfold SLr STr LCr
    rw [h.1, h.2.1, h.2.2, hm p (by omega) 29 (by decide) (by decide), hm p (by omega) 30 (by decide) (by decide), hm p (by omega) 31 (by decide) (by decide), hm p (by omega) 32 (by decide) (by decide), tv_of h1]
    exact ⟨rfl, rfl, rfl⟩
theorem sums_no {c m : St} {lim : Int32} {j p : Nat} : ∀ d, (∀ k, p ≤ k → k < p + d → ¬ m 29 k = nI j) → SLr m j (p + d) = SLr m j p ∧ STr c m lim j (p + d) = STr c m lim j p ∧ LCr m j (p + d) = LCr m j p := by
  intro d
  induction d with
  | zero => intro _; exact ⟨rfl, rfl, rfl⟩
  | succ d ih =>
    intro h
    have hh := ih (fun k p1 p2 => h k p1 (by omega))
    rw [show p + (d + 1) = (p + d) + 1 by omega]
    show SLr m j (p + d) + _ = _ ∧ STr c m lim j (p + d) + _ = _ ∧ (if _ then _ else LCr m j (p + d)) = _
    have hk := h (p + d) (by omega) (by omega)
    rw [if_neg hk, if_neg hk, if_neg hk, hh.1, hh.2.1, hh.2.2]
    exact ⟨Int32.add_zero _, Int32.add_zero _, rfl⟩
def at3 (c : St) (b i : Nat) (A B C : Int32) : St := s2 (s2 (s2 c (b + 2) (i * 16 + 9) A) (b + 2) (i * 16 + 10) B) (b + 2) (i * 16 + 11) C
theorem add_leg {c m : St} {b q i k : Nat} {lim : Int32} (hI : PI b q) (hD : Dm c) (hi : i < 21) (hk : k < 126) (hr : ∀ j, j < 8 → c (b + 8) (k * 8 + j) = m (29 + j) k) (hl : c (q + 2) (i * 14 + 11) = lim) :
    f_Pc_addToLeg c (b + 6) (nI i) (nI k) = some (at3 c b i (c (b + 2) (i * 16 + 9) + m 31 k) (c (b + 2) (i * 16 + 10) + tv c lim (m 30 k) (m 31 k) (m 32 k)) (m 32 k)) := by
  have nt := hI.nt.2.1
  have r1 : c (b + 8) (k * 8 + 1) = m 30 k := hr 1 (by decide)
  have r2 : c (b + 8) (k * 8 + 2) = m 31 k := hr 2 (by decide)
  have r3 : c (b + 8) (k * 8 + 3) = m 32 k := hr 3 (by decide)
  have key : ∀ x7 : Int32, (Lt ((imax (1 : Int32) x7) : Int32) fun x9 =>
  Option.bind (f_Tb_get c (b + 1) (nI i) (9 : Int32)) fun x10 =>
  Option.bind (f_Tb_put c (b + 1) (nI i) (9 : Int32) (x10 + m 31 k)) fun x11 =>
  Option.bind (f_Tb_get x11 (b + 1) (nI i) (10 : Int32)) fun x12 =>
  Gd (¬ (x9 : Int32) = 0) <|
  Option.bind (f_Tb_put x11 (b + 1) (nI i) (10 : Int32) (x12 + ((m 31 k * (360 : Int32)) / x9))) fun x14 =>
  Option.bind (f_Tb_put x14 (b + 1) (nI i) (11 : Int32) (m 32 k)) fun x15 =>
  some x15) = some (at3 c b i (c (b + 2) (i * 16 + 9) + m 31 k) (c (b + 2) (i * 16 + 10) + (m 31 k * (360 : Int32)) / imax (1 : Int32) x7) (m 32 k)) := fun x7 => by
    have hx : ¬ imax (1 : Int32) x7 = 0 := fun e => by
      have := (imax_b (a := (1 : Int32)) (b := x7)).1
      rw [e] at this
      revert this
      decide
    rw [Lt_e, bd_e (lgg hI hD hi (by decide)), bd_e (lgp hI hD hi (by decide)), bd_e (lgg hI (hD.s2 nt) hi (by decide)), s2_k (show i * 16 + 10 ≠ i * 16 + 9 by omega), Gd_t hx, bd_e (lgp hI (hD.s2 nt) hi (by decide)), bd_e (lgp hI ((hD.s2 nt).s2 nt) hi (by decide))]
    rfl
  unfold f_Pc_addToLeg tv
  rw [rc_b64 hI, rc_b60 hI, rc_q0 hI, rc_b62 hI, rc_b61 hI, bd_e (pcg hI hD hk (by decide)), bd_e (pcg hI hD hk (by decide)), bd_e (pg hI hD hi (by decide)), bd_e (pcg hI hD hk (by decide)), r1, r2, r3, hl, Jn_if]
  by_cases h : m 30 k = 2
  · rw [if_pos h, if_pos h, Jn_e, if_neg (by decide), bd_e (as_c c _)]
    exact key _
  · rw [if_neg h, if_neg h, Jn_e, if_pos rfl, bd_e (gs_c c _ _)]
    exact key _
/-- the loop of endLeg -/
theorem tot_loop {m : St} {b q i p p0 : Nat} {lim : Int32} (hI : PI b q) (hi : i < 21) (hp : p ≤ 126) (hm : ∀ k, p0 ≤ k → k < p → m 29 k = nI i) (J : St → Option St) :
    ∀ (d k : Nat) (c : St) (g : Nat), k + d = p → p0 ≤ k → d < g → Dm c → c (b + 6) 5 = nI p → (∀ k, k < p → ∀ j, j < 8 → c (b + 8) (k * 8 + j) = m (29 + j) k) → c (q + 2) (i * 14 + 11) = lim → c (b + 2) (i * 16 + 9) = SLr m i k → c (b + 2) (i * 16 + 10) = STr c m lim i k → c (b + 2) (i * 16 + 11) = LCr m i k →
      ∃ c', lp (lb_f_Pc_endLeg_23 (b + 6) (nI i) J) g (nI k, c) = J c' ∧ (∀ a, a ≠ b + 2 → c' a = c a) ∧ (∀ z, ¬ (i * 16 + 9 ≤ z ∧ z ≤ i * 16 + 11) → c' (b + 2) z = c (b + 2) z) ∧ c' (b + 2) (i * 16 + 9) = SLr m i p ∧ c' (b + 2) (i * 16 + 10) = STr c m lim i p ∧ c' (b + 2) (i * 16 + 11) = LCr m i p := by
  have nt := hI.nt.2.1
  have hlt := hI.lt
  intro d
  induction d with
  | zero =>
    intro k c g hd h0 hg hD hc hr hl e1 e2 e3
    have e : k = p := by omega
    subst e
    refine ⟨c, ?_, fun _ _ => rfl, fun _ _ => rfl, e1, e2, e3⟩
    rw [lp_s hg]
    show (if c (b + 6) 5 ≤ nI k then J c else _) = _
    rw [if_pos (by rw [hc]; exact Int32.le_refl _)]
  | succ d ih =>
    intro k c g hd h0 hg hD hc hr hl e1 e2 e3
    have ha := add_leg hI hD hi (show k < 126 by omega) (hr k (by omega)) hl
    rw [e1, e2] at ha
    have h29 := hm k h0 (by omega)
    obtain ⟨S, eS⟩ : ∃ S, S = at3 c b i (SLr m i k + m 31 k) (STr c m lim i k + tv c lim (m 30 k) (m 31 k) (m 32 k)) (m 32 k) := ⟨_, rfl⟩
    rw [← eS] at ha
    have co : ∀ a, a ≠ b + 2 → S a = c a := fun a p => by funext z; rw [eS]; simp (disch := omega) only [sM, at3]
    have hDS : Dm S := by rw [eS]; exact ((hD.s2 nt).s2 nt).s2 nt
    have so := fun p => sums_of (c := c) (c' := S) (m := m) (m' := m) (lim := lim) (j := i) (p := p) (co 1 (by omega)) (fun _ _ _ _ _ => rfl)
    obtain ⟨c', w1, w2, w3, w4, w5, w6⟩ := ih (k + 1) S (g - 1) (by omega) (by omega) (by omega) hDS (by rw [co _ (by omega)]; exact hc) (fun k hk j hj => by rw [co _ (by omega)]; exact hr k hk j hj) (by rw [co _ (by omega)]; exact hl) (by
        show _ = SLr m i k + (if m 29 k = nI i then m 31 k else 0)
        rw [if_pos h29, eS]
        simp (disch := omega) only [sH, sM, at3]) (by
        show _ = STr S m lim i k + (if m 29 k = nI i then tv S lim (m 30 k) (m 31 k) (m 32 k) else 0)
        rw [if_pos h29, (so k).2.1, tv_of (co 1 (by omega)), eS]
        simp (disch := omega) only [sH, sM, at3]) (by
        show _ = if m 29 k = nI i then m 32 k else LCr m i k
        rw [if_pos h29, eS]
        simp (disch := omega) only [sH, sM, at3])
    refine ⟨c', ?_, fun a p => (w2 a p).trans (co a p), fun z p => (w3 z p).trans ?_, w4, ?_, w6⟩
    · rw [lp_s (by omega)]
      show (if c (b + 6) 5 ≤ nI k then J c else Option.bind (f_Pc_addToLeg c (b + 6) (nI i) (nI k)) fun x9 => Lt (nI k + (1 : Int32)) fun x10 => lp (lb_f_Pc_endLeg_23 (b + 6) (nI i) J) (g - 1) (x10, x9)) = _
      rw [if_neg (by rw [hc]; exact nI_ge (by omega) (by omega)), bd_e ha, Lt_e, nI_1]
      exact w1
    · rw [eS]
      simp (disch := omega) only [sM, at3]
    · rw [w5, (so p).2.1]
def DI (c m c1 m1 : St) (b q P : Nat) (R0 R : Int) (n : Nat) (f : Nat → Nat) (i p : Nat) : Prop :=
  (CX c m b q P R0 R n f) ∧
  (∀ a, a ≠ b + 2 → a ≠ b + 6 → a ≠ b + 8 → c a = c1 a) ∧
  (∀ j l, l < 16 → ¬ (9 ≤ l ∧ l ≤ 11) → c (b + 2) (j * 16 + l) = c1 (b + 2) (j * 16 + l)) ∧
  (∀ j, i ≤ j → j < 21 → c (b + 2) (j * 16 + 9) = 0 ∧ c (b + 2) (j * 16 + 10) = 0 ∧ (j < n → c (b + 2) (j * 16 + 11) = -1000000)) ∧
  (∀ a, a ≠ 0 → (a < 29 ∨ 36 < a) → m a = m1 a) ∧
  (∀ k, (k < 57 ∨ 59 < k) → m 0 k = m1 0 k) ∧
  (PcR c m b R p) ∧
  (XY c m b R ∨ ∀ j, j < i → m 19 j = 0) ∧
  (p ≤ 6 * i) ∧
  (∀ k, k < p → ∃ g : Nat, g < i ∧ m 29 k = nI g) ∧
  (∀ j, j < i → c (b + 2) (j * 16 + 9) = SLr m j p ∧ c (b + 2) (j * 16 + 10) = STr c m (m 1 (P + 3 + 14 * j + 11)) j p ∧ c (b + 2) (j * 16 + 11) = LCr m j p) ∧
  (∀ j, j < i → m 18 j = 1 → ¬ m 1 (P + 3 + 14 * j + 0) = 7 → ∀ k, k < p → ¬ m 29 k = nI j)
theorem DI.cx {c m c1 m1 : St} {b q P : Nat} {R0 R : Int} {n : Nat} {f : Nat → Nat} {i p : Nat} (h : DI c m c1 m1 b q P R0 R n f i p) : CX c m b q P R0 R n f := h.1
theorem DI.fc {c m c1 m1 : St} {b q P : Nat} {R0 R : Int} {n : Nat} {f : Nat → Nat} {i p : Nat} (h : DI c m c1 m1 b q P R0 R n f i p) : ∀ a, a ≠ b + 2 → a ≠ b + 6 → a ≠ b + 8 → c a = c1 a := h.2.1
theorem DI.f2 {c m c1 m1 : St} {b q P : Nat} {R0 R : Int} {n : Nat} {f : Nat → Nat} {i p : Nat} (h : DI c m c1 m1 b q P R0 R n f i p) : ∀ j l, l < 16 → ¬ (9 ≤ l ∧ l ≤ 11) → c (b + 2) (j * 16 + l) = c1 (b + 2) (j * 16 + l) := h.2.2.1
theorem DI.fi {c m c1 m1 : St} {b q P : Nat} {R0 R : Int} {n : Nat} {f : Nat → Nat} {i p : Nat} (h : DI c m c1 m1 b q P R0 R n f i p) : ∀ j, i ≤ j → j < 21 → c (b + 2) (j * 16 + 9) = 0 ∧ c (b + 2) (j * 16 + 10) = 0 ∧ (j < n → c (b + 2) (j * 16 + 11) = -1000000) := h.2.2.2.1
theorem DI.fm {c m c1 m1 : St} {b q P : Nat} {R0 R : Int} {n : Nat} {f : Nat → Nat} {i p : Nat} (h : DI c m c1 m1 b q P R0 R n f i p) : ∀ a, a ≠ 0 → (a < 29 ∨ 36 < a) → m a = m1 a := h.2.2.2.2.1
theorem DI.f0 {c m c1 m1 : St} {b q P : Nat} {R0 R : Int} {n : Nat} {f : Nat → Nat} {i p : Nat} (h : DI c m c1 m1 b q P R0 R n f i p) : ∀ k, (k < 57 ∨ 59 < k) → m 0 k = m1 0 k := h.2.2.2.2.2.1
theorem DI.pr {c m c1 m1 : St} {b q P : Nat} {R0 R : Int} {n : Nat} {f : Nat → Nat} {i p : Nat} (h : DI c m c1 m1 b q P R0 R n f i p) : PcR c m b R p := h.2.2.2.2.2.2.1
theorem DI.xy {c m c1 m1 : St} {b q P : Nat} {R0 R : Int} {n : Nat} {f : Nat → Nat} {i p : Nat} (h : DI c m c1 m1 b q P R0 R n f i p) : XY c m b R ∨ ∀ j, j < i → m 19 j = 0 := h.2.2.2.2.2.2.2.1
theorem DI.p6 {c m c1 m1 : St} {b q P : Nat} {R0 R : Int} {n : Nat} {f : Nat → Nat} {i p : Nat} (h : DI c m c1 m1 b q P R0 R n f i p) : p ≤ 6 * i := h.2.2.2.2.2.2.2.2.1
theorem DI.lg {c m c1 m1 : St} {b q P : Nat} {R0 R : Int} {n : Nat} {f : Nat → Nat} {i p : Nat} (h : DI c m c1 m1 b q P R0 R n f i p) : ∀ k, k < p → ∃ g : Nat, g < i ∧ m 29 k = nI g := h.2.2.2.2.2.2.2.2.2.1
theorem DI.tot {c m c1 m1 : St} {b q P : Nat} {R0 R : Int} {n : Nat} {f : Nat → Nat} {i p : Nat} (h : DI c m c1 m1 b q P R0 R n f i p) : ∀ j, j < i → c (b + 2) (j * 16 + 9) = SLr m j p ∧ c (b + 2) (j * 16 + 10) = STr c m (m 1 (P + 3 + 14 * j + 11)) j p ∧ c (b + 2) (j * 16 + 11) = LCr m j p := h.2.2.2.2.2.2.2.2.2.2.1
theorem DI.np {c m c1 m1 : St} {b q P : Nat} {R0 R : Int} {n : Nat} {f : Nat → Nat} {i p : Nat} (h : DI c m c1 m1 b q P R0 R n f i p) : ∀ j, j < i → m 18 j = 1 → ¬ m 1 (P + 3 + 14 * j + 0) = 7 → ∀ k, k < p → ¬ m 29 k = nI j := h.2.2.2.2.2.2.2.2.2.2.2
