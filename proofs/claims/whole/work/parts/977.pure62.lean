/-! the text: the kind of a leg and what it asks for -/

def clm (j : Nat) : Prop := 2 ≤ j ∧ j < 14 ∧ j ≠ 7 ∧ j ≠ 8
def hjb (j : Nat) : Nat := if j = 2 then 23 else if j = 3 then 450 else if j = 4 then 1 else if j = 5 then 200 else if j = 6 then 9 else if j = 9 then 450 else if j = 10 then 450 else if j = 11 then 999 else if j = 12 then 1 else 0
def WQ (w w' : Nat → Int32) : Prop := ∀ j, clm j → ∃ v : Nat, (j = 11 → 100 ≤ v) ∧ v ≤ hjb j ∧ w j = nI v ∧ w' j = nI v
def KQ (m : St) (F k : Nat) (w w' : Nat → Int32) : Prop := w 0 = nI k ∧ w' 0 = nI k ∧ (hfx k → ∃ f : Nat, f < F ∧ w 1 = nI f ∧ w' 1 = nI f ∧ w 7 = m 3 f ∧ w 8 = m 4 f) ∧ (¬ hfx k → w 1 = -1000000)
theorem WQ.set {w w' : Nat → Int32} {j v : Nat} (h : WQ w w') (hv : v ≤ hjb j) (h11 : j = 11 → 100 ≤ v) : WQ (ud w j (nI v)) (ud w' j (nI v)) := by
  intro i hi
  by_cases e : i = j
  · subst e
    exact ⟨v, h11, hv, ud_at, ud_at⟩
  · rw [ud_ne e, ud_ne e]
    exact h i hi
theorem KQ.set {m : St} {F k j : Nat} {w w' : Nat → Int32} {x y : Int32} (h : KQ m F k w w') (hj : clm j) : KQ m F k (ud w j x) (ud w' j y) := by
  obtain ⟨j1, j2, j3, j4⟩ := hj
  unfold KQ at *
  rw [ud_ne (show (0 : Nat) ≠ j by omega), ud_ne (show (0 : Nat) ≠ j by omega), ud_ne (show (1 : Nat) ≠ j by omega), ud_ne (show (1 : Nat) ≠ j by omega), ud_ne (show (7 : Nat) ≠ j by omega), ud_ne (show (8 : Nat) ≠ j by omega)]
  exact h
def pln (k : Int32) : Nat → Int32 := fun j => if j = 0 then k else if j = 1 then -1000000 else if j = 10 then 450 else if j = 11 then 999 else 0
def plm (k : Int32) : Nat → Int32 := fun j => if j = 0 then k else if j = 10 then 450 else if j = 11 then 999 else 0
theorem WQ_pl (k : Int32) : WQ (pln k) (plm k) := by
  intro j hj
  obtain ⟨j1, j2, j3, j4⟩ := hj
  by_cases h10 : j = 10
  · subst h10
    exact ⟨450, by decide, by decide, rfl, rfl⟩
  · by_cases h11 : j = 11
    · subst h11
      exact ⟨999, by decide, by decide, rfl, rfl⟩
    · refine ⟨0, fun q => absurd q h11, Nat.zero_le _, ?_, ?_⟩
      · unfold pln
        rw [if_neg (by omega), if_neg (by omega), if_neg h10, if_neg h11]; rfl
      · unfold plm
        rw [if_neg (by omega), if_neg h10, if_neg h11]; rfl
/-- the class's plain leg, in whatever table of that width -/
def zrw (c : St) (p i j : Nat) : St := fun a k => if a = p ∧ i * 14 ≤ k ∧ k < i * 14 + j then 0 else c a k
theorem zrw_s {c : St} {p i j : Nat} : s2 (zrw c p i j) p (i * 14 + j) 0 = zrw c p i (j + 1) := by
  funext a k
  by_cases h : a = p ∧ k = i * 14 + j
  · obtain ⟨rfl, rfl⟩ := h
    rw [s2_at]
    unfold zrw
    rw [if_pos ⟨rfl, by omega, by omega⟩]
  · rw [s2_nk (by omega)]
    unfold zrw
    by_cases q : a = p ∧ i * 14 ≤ k ∧ k < i * 14 + j
    · rw [if_pos q, if_pos (by omega)]
    · rw [if_neg q, if_neg (by omega)]
theorem zrw_ne {c : St} {p i j x : Nat} (h : x ≠ p) : zrw c p i j x = c x := by
  funext k
  unfold zrw
  rw [if_neg (fun q => h q.1)]
theorem TabOK.zrw {c : St} {t r p i j : Nat} (h : TabOK c t r 14) (hne : p ≠ t) : TabOK (zrw c p i j) t r 14 := by
  obtain ⟨h0, h1, h2⟩ := h
  exact ⟨by rw [zrw_ne (Ne.symm hne)]; exact h0, by rw [zrw_ne (Ne.symm hne)]; exact h1, h2⟩
theorem plain_c {c : St} {t p r i : Nat} {kd : Int32} (hT : TabOK c t r 14) (hp : rc t 2 = p) (hne : p ≠ t) (hi : i < r) : ∃ c', f_Pl_putPlainLeg c t (nI i) kd = some c' ∧ (∀ x, x ≠ p → c' x = c x) ∧ (∀ k, k < i * 14 ∨ i * 14 + 14 ≤ k → c' p k = c p k) ∧ ∀ j, j < 14 → c' p (i * 14 + j) = pln kd j := by
  have key : ∀ (d j n : Nat) (J : St → Option St), j + d = 14 → d < n → lp (lb_f_Pl_putPlainLeg_2 t (nI i) J) n (nI j, zrw c p i j) = J (zrw c p i 14) := by
    intro d
    induction d with
    | zero =>
      intro j n J h1 h2
      rw [lp_s (by omega)]
      generalize lp (lb_f_Pl_putPlainLeg_2 t (nI i) J) (n - 1) = ih
      unfold lb_f_Pl_putPlainLeg_2
      try dsimp only
      rw [show j = 14 by omega, if_pos (show (14 : Int32) ≤ nI 14 by decide)]
    | succ d ihd =>
      intro j n J h1 h2
      rw [lp_s (by omega), ← ihd (j + 1) (n - 1) J (by omega) (by omega)]
      generalize lp (lb_f_Pl_putPlainLeg_2 t (nI i) J) (n - 1) = ih
      have ep := Tb_put (v := 0) (hT.zrw (p := p) (i := i) (j := j) hne) hi (show j < 14 by omega)
      rw [hp, zrw_s] at ep
      unfold lb_f_Pl_putPlainLeg_2
      try dsimp only
      rw [if_neg (show ¬ (14 : Int32) ≤ nI j from nI_ge (b := 14) (by omega) (by decide)), bd_e ep, Lt_e, nI_1]
  have h0 : zrw c p i 0 = c := by
    funext a k
    unfold zrw
    rw [if_neg (by omega)]
  have e := key 14 0 4000
  rw [h0] at e
  obtain ⟨Z, eZ⟩ : ∃ Z, Z = zrw c p i 14 := ⟨_, rfl⟩
  have TZ : TabOK Z t r 14 := by rw [eZ]; exact hT.zrw hne
  have e1 : f_Tb_put Z t (nI i) (0 : Int32) kd = some (s2 Z p (i * 14 + 0) kd) := by rw [← hp]; exact Tb_put' TZ rfl rfl hi (by decide)
  have e2 : ∀ C, TabOK C t r 14 → f_Tb_put C t (nI i) (1 : Int32) (-1000000 : Int32) = some (s2 C p (i * 14 + 1) (-1000000 : Int32)) := fun C h => by rw [← hp]; exact Tb_put' h rfl rfl hi (by decide)
  have e3 : ∀ C, TabOK C t r 14 → f_Tb_put C t (nI i) (10 : Int32) (450 : Int32) = some (s2 C p (i * 14 + 10) (450 : Int32)) := fun C h => by rw [← hp]; exact Tb_put' h rfl rfl hi (by decide)
  have e4 : ∀ C, TabOK C t r 14 → f_Tb_put C t (nI i) (11 : Int32) (999 : Int32) = some (s2 C p (i * 14 + 11) (999 : Int32)) := fun C h => by rw [← hp]; exact Tb_put' h rfl rfl hi (by decide)
  refine ⟨s2 (s2 (s2 (s2 Z p (i * 14 + 0) kd) p (i * 14 + 1) (-1000000 : Int32)) p (i * 14 + 10) (450 : Int32)) p (i * 14 + 11) (999 : Int32), ?_, fun x q => ?_, fun k q => ?_, fun j hj => ?_⟩
  · unfold f_Pl_putPlainLeg
    rw [Jn_e]
    refine (e (fun σ1 => _) (by decide) (by decide)).trans ?_
    try dsimp only
    rw [← eZ, bd_e e1, bd_e (e2 _ (TZ.s2 hne)), bd_e (e3 _ ((TZ.s2 hne).s2 hne)), bd_e (e4 _ (((TZ.s2 hne).s2 hne).s2 hne))]
  · rw [s2_ne q, s2_ne q, s2_ne q, s2_ne q, eZ, zrw_ne q]
  · rw [s2_k (by omega), s2_k (by omega), s2_k (by omega), s2_k (by omega), eZ]
    unfold zrw
    rw [if_neg (by omega)]
  · unfold pln
    by_cases j0 : j = 0
    · rw [if_pos j0, j0, s2_k (by omega), s2_k (by omega), s2_k (by omega), s2_at]
    · rw [if_neg j0]
      by_cases j1 : j = 1
      · rw [if_pos j1, j1, s2_k (by omega), s2_k (by omega), s2_at]
      · rw [if_neg j1]
        by_cases j10 : j = 10
        · rw [if_pos j10, j10, s2_k (by omega), s2_at]
        · rw [if_neg j10]
          by_cases j11 : j = 11
          · rw [if_pos j11, j11, s2_at]
          · rw [if_neg j11, s2_k (by omega), s2_k (by omega), s2_k (by omega), s2_k (by omega), eZ]
            unfold zrw
            rw [if_pos (by omega)]
def tlC2 (σ6 : St) (n k : Nat) : Option (Int32 × St) :=
  if (nI k : Int32) = (4 : Int32) then (
  Option.bind (f_Rx_readNumber σ6 4 (nI n) (3 : Int32) (0 : Int32) (450 : Int32)) fun x15 =>
  Gd ((x15.1 : Int32) &&& 1 = x15.1) <|
  some (x15.1, x15.2)
  ) else (
  Jn (fun (x8 : Int32) (σ9 : St) =>
  Gd ((x8 : Int32) &&& 1 = x8) <|
  some (x8, σ9)
  ) fun J10 =>
  Jn (fun (σ12 : St) =>
  J10 (1 : Int32) σ12
  ) fun J13 =>
  if (nI k : Int32) = (7 : Int32) then (
  Option.bind (f_Rx_readPattern σ6 4 (nI n)) fun x14 =>
  if (x14.1 : Int32) = 0 then (
  J10 (0 : Int32) x14.2
  ) else (
  J13 x14.2
  )
  ) else (
  J13 σ6
  )
  )
def tlM2 (σ4 : St) (k : Nat) : Option (Int32 × St) :=
  if (nI k : Int32) = (4 : Int32) then (
  Option.bind (m_readsInto σ4 (3 : Int32) (0 : Int32) (450 : Int32)) fun x17 =>
  Gd ((x17.1 : Int32) &&& 1 = x17.1) <|
  some (x17.1, x17.2)
  ) else (
  Jn (fun (x6 : Int32) (σ7 : St) =>
  Gd ((x6 : Int32) &&& 1 = x6) <|
  some (x6, σ7)
  ) fun J8 =>
  Jn (fun (σ10 : St) =>
  J8 (1 : Int32) σ10
  ) fun J11 =>
  if (nI k : Int32) = (7 : Int32) then (
  Option.bind (m_readsSide σ4) fun x12 =>
  Jn (fun (σ13 : St) =>
  J8 (0 : Int32) σ13
  ) fun J14 =>
  if (x12.1 : Int32) = 0 then (
  J14 x12.2
  ) else (
  Option.bind (m_readsInto x12.2 (5 : Int32) (10 : Int32) (200 : Int32)) fun x15 =>
  if (x15.1 : Int32) = 0 then (
  J14 x15.2
  ) else (
  Option.bind (m_readsInto x15.2 (6 : Int32) (1 : Int32) (9 : Int32)) fun x16 =>
  if (x16.1 : Int32) = 0 then (
  J14 x16.2
  ) else (
  J11 x16.2
  )
  )
  )
  ) else (
  J11 σ4
  )
  )
theorem kn_ne {k j : Nat} {pj : Int32} (hk : k < 1000) (hp : pj = nI j) (hj : j < 1000) (h : k ≠ j) : ¬ nI k = pj := fun q => h ((nI_eq (by omega) (by omega)).mp (q.trans hp))
theorem tl2 {c0 m0 : St} {L F n k s0 : Nat} {c m : St} {s a : Nat} {w w' : Nat → Int32} (g : TG c0 m0 L F n c m s a w w') (hn : n < 12) (hk : k < 8) (hs : s0 < s) (hw : WQ w w') (hq : KQ m0 F k w w') :
    OK3 c0 m0 L F n s0 (fun u u' => WQ u u' ∧ KQ m0 F k u u') (tlC2 c n k) (tlM2 m k) := by
  unfold tlC2 tlM2
  by_cases k4 : k = 4
  · rw [if_pos (show nI k = 4 by rw [k4]; rfl), if_pos (show nI k = 4 by rw [k4]; rfl)]
    rcases into_lock (j := 3) (lo' := 0) (hi' := 450) (pj := 3) (lo := 0) (hi := 450) g hn (by decide) rfl rfl rfl (by decide) (by decide) with ⟨c', m', z, a1, a2, a3⟩ | ⟨c', m', s', a', u, u', a1, a2, a3, a4, v, v1, v2, rfl, rfl⟩
    · left
      exact ⟨c', m', z, by rw [bd_e a1]; first | exact Gd_t g0 | exact Gd_t g1, by rw [bd_e a2]; first | exact Gd_t g0 | exact Gd_t g1, a3⟩
    · right
      exact ⟨c', m', s', a', _, _, by rw [bd_e a1]; first | exact Gd_t g0 | exact Gd_t g1, by rw [bd_e a2]; first | exact Gd_t g0 | exact Gd_t g1, a3, by omega, hw.set v2 (fun q => absurd q (by decide)), hq.set ⟨by decide, by decide, by decide, by decide⟩⟩
  · rw [if_neg (kn_ne (j := 4) (pj := 4) (by omega) rfl (by decide) k4), if_neg (kn_ne (j := 4) (pj := 4) (by omega) rfl (by decide) k4), Jn_e, Jn_e, Jn_e, Jn_e]
    by_cases k7 : k = 7
    · rw [if_pos (show nI k = 7 by rw [k7]; rfl), if_pos (show nI k = 7 by rw [k7]; rfl)]
      rcases side_lock g hn with ⟨c1, m1, z, a1, a2, a3⟩ | ⟨c1, m1, s1, e1, u, u', a1, a2, a3, a4, v, v1, rfl, rfl⟩
      · have ep : f_Rx_readPattern c 4 (nI n) = some (0, c1) := by
          unfold f_Rx_readPattern
          rw [bd_e a1, Jn_e, Jn_e, if_pos rfl]; first | exact Gd_t g0 | exact Gd_t g1
        left
        exact ⟨c1, m1, z, by rw [bd_e ep, if_pos rfl]; first | exact Gd_t g0 | exact Gd_t g1, by rw [bd_e a2, Jn_e, if_pos rfl]; first | exact Gd_t g0 | exact Gd_t g1, a3⟩
      · have w1 := hw.set (j := 4) (v := v) v1 (fun q => absurd q (by decide))
        have q1 := KQ.set (j := 4) (x := nI v) (y := nI v) hq ⟨by decide, by decide, by decide, by decide⟩
        rcases into_lock (j := 5) (lo' := 10) (hi' := 200) (pj := 5) (lo := 10) (hi := 200) a3 hn (by decide) rfl rfl rfl (by decide) (by decide) with ⟨c2, m2, z, b1, b2, b3⟩ | ⟨c2, m2, s2', e2, u, u', b1, b2, b3, b4, x, x1, x2, rfl, rfl⟩
        · have ep : f_Rx_readPattern c 4 (nI n) = some (0, c2) := by
            unfold f_Rx_readPattern
            rw [bd_e a1, Jn_e, Jn_e, if_neg n10, bd_e b1, if_pos rfl]; first | exact Gd_t g0 | exact Gd_t g1
          left
          exact ⟨c2, m2, z, by rw [bd_e ep, if_pos rfl]; first | exact Gd_t g0 | exact Gd_t g1, by rw [bd_e a2, Jn_e, if_neg n10, bd_e b2, if_pos rfl]; first | exact Gd_t g0 | exact Gd_t g1, b3⟩
        · have w2 := w1.set (j := 5) (v := x) x2 (fun q => absurd q (by decide))
          have q2 := KQ.set (j := 5) (x := nI x) (y := nI x) q1 ⟨by decide, by decide, by decide, by decide⟩
          rcases into_lock (j := 6) (lo' := 1) (hi' := 9) (pj := 6) (lo := 1) (hi := 9) b3 hn (by decide) rfl rfl rfl (by decide) (by decide) with ⟨c3, m3, z, d1, d2, d3⟩ | ⟨c3, m3, s3, e3, u, u', d1, d2, d3, d4, y, y1, y2, rfl, rfl⟩
          · have ep : f_Rx_readPattern c 4 (nI n) = some (0, c3) := by
              unfold f_Rx_readPattern
              rw [bd_e a1, Jn_e, Jn_e, if_neg n10, bd_e b1, if_neg n10, bd_e d1, if_pos rfl]; first | exact Gd_t g0 | exact Gd_t g1
            left
            exact ⟨c3, m3, z, by rw [bd_e ep, if_pos rfl]; first | exact Gd_t g0 | exact Gd_t g1, by rw [bd_e a2, Jn_e, if_neg n10, bd_e b2, if_neg n10, bd_e d2, if_pos rfl]; first | exact Gd_t g0 | exact Gd_t g1, d3⟩
          · have ep : f_Rx_readPattern c 4 (nI n) = some (1, c3) := by
              unfold f_Rx_readPattern
              rw [bd_e a1, Jn_e, Jn_e, if_neg n10, bd_e b1, if_neg n10, bd_e d1, if_neg n10]; first | exact Gd_t g0 | exact Gd_t g1
            right
            exact ⟨c3, m3, s3, e3, _, _, by rw [bd_e ep, if_neg n10]; first | exact Gd_t g0 | exact Gd_t g1, by rw [bd_e a2, Jn_e, if_neg n10, bd_e b2, if_neg n10, bd_e d2, if_neg n10]; first | exact Gd_t g0 | exact Gd_t g1, d3, by omega, w2.set y2 (fun q => absurd q (by decide)), q2.set ⟨by decide, by decide, by decide, by decide⟩⟩
    · rw [if_neg (kn_ne (j := 7) (pj := 7) (by omega) rfl (by decide) k7), if_neg (kn_ne (j := 7) (pj := 7) (by omega) rfl (by decide) k7)]
      right
      exact ⟨c, m, s, a, w, w', Gd_t g1, Gd_t g1, g, hs, hw, hq⟩
def tlC1 (σ4 : St) (n k : Nat) : Option (Int32 × St) :=
  Jn (fun (σ6 : St) => tlC2 σ6 n k) fun J7 =>
  if (nI k : Int32) < (3 : Int32) then (
  J7 σ4
  ) else (
  Option.bind (f_Rx_readNumber σ4 4 (nI n) (2 : Int32) (0 : Int32) (23 : Int32)) fun x17 =>
  if (x17.1 : Int32) = 0 then (
  some ((0 : Int32), x17.2)
  ) else (
  J7 x17.2
  )
  )
def tlM1 (σ2 : St) (k : Nat) : Option (Int32 × St) :=
  Jn (fun (σ4 : St) => tlM2 σ4 k) fun J5 =>
  if (nI k : Int32) < (3 : Int32) then (
  J5 σ2
  ) else (
  Option.bind (m_readsInto σ2 (2 : Int32) (0 : Int32) (23 : Int32)) fun x19 =>
  if (x19.1 : Int32) = 0 then (
  some ((0 : Int32), x19.2)
  ) else (
  J5 x19.2
  )
  )
theorem tl1 {c0 m0 : St} {L F n k s0 : Nat} {c m : St} {s a : Nat} {w w' : Nat → Int32} (g : TG c0 m0 L F n c m s a w w') (hn : n < 12) (hk : k < 8) (hs : s0 < s) (hw : WQ w w') (hq : KQ m0 F k w w') :
    OK3 c0 m0 L F n s0 (fun u u' => WQ u u' ∧ KQ m0 F k u u') (tlC1 c n k) (tlM1 m k) := by
  unfold tlC1 tlM1
  rw [Jn_e, Jn_e]
  by_cases k3 : k < 3
  · rw [if_pos (show nI k < 3 from nI_lt (b := 3) k3 (by decide)), if_pos (show nI k < 3 from nI_lt (b := 3) k3 (by decide))]
    exact tl2 g hn hk hs hw hq
  · rw [if_neg (show ¬ nI k < 3 from nI_nlt (b := 3) (by omega) (by omega)), if_neg (show ¬ nI k < 3 from nI_nlt (b := 3) (by omega) (by omega))]
    rcases into_lock (j := 2) (lo' := 0) (hi' := 23) (pj := 2) (lo := 0) (hi := 23) g hn (by decide) rfl rfl rfl (by decide) (by decide) with ⟨c', m', z, a1, a2, a3⟩ | ⟨c', m', s', a', u, u', a1, a2, a3, a4, v, v1, v2, rfl, rfl⟩
    · left
      exact ⟨c', m', z, by rw [bd_e a1, if_pos rfl], by rw [bd_e a2, if_pos rfl], a3⟩
    · rw [bd_e a1, bd_e a2, if_neg n10, if_neg n10]
      exact tl2 a3 hn hk (by omega) (hw.set v2 (fun q => absurd q (by decide))) (hq.set ⟨by decide, by decide, by decide, by decide⟩)
