/-! a turn in the reference -/

def z5 (m : St) (s : Nat) : St := s2 (s2 (s2 (s2 (s2 m 24 s 0) 25 s 0) 26 s 0) 27 s 0) 28 s 0
def tm5 (m : St) (s : Nat) (T S r L A : Int32) : St := s2 (s2 (s2 (s2 (s2 (z5 m s) 25 s S) 26 s r) 28 s A) 24 s T) 27 s L
theorem z5_o {m : St} {s a : Nat} (h : a < 24 ∨ 28 < a) : z5 m s a = m a := by funext z; simp (disch := omega) only [sM, z5]
theorem arc_e {r : Int32} {d : Nat} (h1 : 0 ≤ r.toInt) (h2 : r.toInt ≤ 311) (hd : d ≤ 24) : Int64.toInt32 (((r.toInt64 * (nI d).toInt64) * (262 : Int64)) / (1000 : Int64)) = ((r * nI d) * (262 : Int32)) / (1000 : Int32) ∧ (((r * nI d) * (262 : Int32)) / (1000 : Int32)).toInt = r.toInt * d * 262 / 1000 := by
  have ed : (nI d).toInt = (d : Int) := nI_toInt (by omega)
  have mm := mulb (a := r.toInt) (b := (d : Int)) (A := 311) (B := 24) (by omega) h2 (by omega) (by omega)
  have p0 : 0 ≤ r.toInt * d := Int.mul_nonneg h1 (by omega)
  have k1 : (262 : Int32).toInt = 262 := by decide
  have k2 : (262 : Int64).toInt = 262 := by decide
  have e1 : (r * nI d).toInt = r.toInt * d := by rw [tI_mul (by rw [ed]; omega) (by rw [ed]; omega), ed]
  have e2 : (((r * nI d) * (262 : Int32)) / (1000 : Int32)).toInt = r.toInt * d * 262 / 1000 := by rw [tI_div k1000 (by decide), tI_mul (by rw [e1, k1]; omega) (by rw [e1, k1]; omega), e1, k1, td_pos (by omega)]
  have e3 : (r.toInt64 * (nI d).toInt64).toInt = r.toInt * d := by rw [tL_mul (by rw [tw, tw, ed]; omega) (by rw [tw, tw, ed]; omega), tw, tw, ed]
  have e4 : (((r.toInt64 * (nI d).toInt64) * (262 : Int64)) / (1000 : Int64)).toInt = r.toInt * d * 262 / 1000 := by rw [tL_div k1000L (by decide), tL_mul (by rw [e3, k2]; omega) (by rw [e3, k2]; omega), e3, k2, td_pos (by omega)]
  exact ⟨i2 (by rw [tn (by rw [e4]; omega) (by rw [e4]; omega), e4, e2]), e2⟩
theorem rad_b2 {g : Int32} (h1 : 0 ≤ g.toInt) (h2 : g.toInt ≤ 698) : (rad g).toInt ≤ 152 := by
  have mm := mulb (a := g.toInt) (b := g.toInt) (A := 698) (B := 698) (by omega) h2 (by omega) h2
  have p0 := sqn g.toInt
  have k32 : (3200 : Int32).toInt = 3200 := by decide
  have k1 : (1 : Int32).toInt = 1 := by decide
  have e1 : ((g * g) / (3200 : Int32)).toInt = g.toInt * g.toInt / 3200 := by rw [tI_div k32 (by decide), tI_mul (by omega) (by omega), td_pos p0]
  unfold rad
  rcases (imax_b (a := (1 : Int32)) (b := (g * g) / (3200 : Int32))).2.2 with e | e
  · rw [e]; omega
  · rw [e, e1]; omega
theorem turn_m0 {m : St} {P s : Nat} (hs : s < 42) (h : m 14 s < 0 ∨ m 14 s = m 13 s) : m_laysTurn m (nI P) (nI s) = some (z5 m s) := by
  have g : Ix (nI s) 42 := Ix_n hs (by decide)
  unfold m_laysTurn
  simp only [nI_clamp (show s < 2 ^ 31 by omega)]
  rw [Gd_t g, Lt_e, Gd_t g, Lt_e, Gd_t g, Lt_e, Gd_t g, Lt_e, Gd_t g, Lt_e, Gd_t g, Jn_e]
  show (if z5 m s 14 s < 0 then some (z5 m s) else Gd _ (Gd _ (if z5 m s 14 s = z5 m s 13 s then some (z5 m s) else _))) = _
  rw [z5_o (by omega), z5_o (by omega)]
  by_cases h1 : m 14 s < 0
  · rw [if_pos h1]
  · rw [if_neg h1, Gd_t g, Gd_t g, if_pos (h.resolve_left h1)]
theorem turn_m {c m : St} {P s g v g1 v1 k1 o1 L1 L2 : Nat} {l l1 : Int32} (hP : P ≤ 2376) (hK : RefK m) (hS : SetR c m) (hs : s < 42) (hg : g < 21) (hg1 : g1 < 21) (hv : v < 24) (hv1 : v1 < 24) (hne : v1 ≠ v) (hk : k1 < 9) (ho : o1 ≤ 1) (hL1 : L1 ≤ 999) (hL2 : L2 ≤ 999)
    (c0 : m 7 s = nI g) (c5 : m 12 s = l) (c6 : m 13 s = nI v) (c7 : m 16 s = nI g1) (c8 : m 14 s = nI v1) (c9 : m 15 s = l1) (cL1 : m 1 (P + 3 + 14 * g1 + 11) = nI L1) (cL2 : m 1 (P + 3 + 14 * g + 11) = nI L2) (ck : m 1 (P + 3 + 14 * g1 + 0) = nI k1) (co : m 1 (P + 3 + 14 * g1 + 12) = nI o1)
    {r : Int32} (er : r = rad (imax (gsp c (nI L1) (nI v1)) (gsp c (nI L2) (nI v)))) {T Ld : Int32} (eT : T = if BYt (tnD (tnA v1 v)) (tnL r (tnD (tnA v1 v))) l1 l (OV g1 g k1 o1) then 1 else 2) (eL : Ld = if BYt (tnD (tnA v1 v)) (tnL r (tnD (tnA v1 v))) l1 l (OV g1 g k1 o1) then tnL r (tnD (tnA v1 v)) else 0) :
    m_laysTurn m (nI P) (nI s) = some (tm5 m s T (tnS (tnA v1 v)) r Ld (((r * nI (tnD (tnA v1 v))) * (262 : Int32)) / (1000 : Int32))) ∧ 1 ≤ r.toInt ∧ r.toInt ≤ 152 := by
  have g42 : Ix (nI s) 42 := Ix_n hs (by decide)
  obtain ⟨ha, ha0⟩ := tnA_b hv1 hv
  have hd := (tnD_b ha).1
  have eL1 : (nI L1).toInt = (L1 : Int) := nI_toInt (by omega)
  have eL2 : (nI L2).toInt = (L2 : Int) := nI_toInt (by omega)
  have b1 := gsp_b hS (lim := nI L1) (by omega) (nI v1)
  have b2 := gsp_b hS (lim := nI L2) (by omega) (nI v)
  have bx : 0 ≤ (imax (gsp c (nI L1) (nI v1)) (gsp c (nI L2) (nI v))).toInt ∧ (imax (gsp c (nI L1) (nI v1)) (gsp c (nI L2) (nI v))).toInt ≤ 999 := by
    rcases (imax_b (a := gsp c (nI L1) (nI v1)) (b := gsp c (nI L2) (nI v))).2.2 with e | e <;> rw [e] <;> omega
  have rb := rad_b bx.1 bx.2
  rw [← er] at rb
  have rb2 : r.toInt ≤ 152 := by
    rw [er]
    exact rad_b2 bx.1 (by rcases (imax_b (a := gsp c (nI L1) (nI v1)) (b := gsp c (nI L2) (nI v))).2.2 with e | e <;> rw [e] <;> omega)
  refine ⟨?_, rb.1, rb2⟩
  generalize ea : tnA v1 v = a at *
  generalize ed : tnD a = d at *
  have n14 : ¬ nI v1 < 0 := nI_pos (by omega)
  have z14 : z5 m s 14 s = nI v1 := by rw [z5_o (by omega)]; exact c8
  have z13 : z5 m s 13 s = nI v := by rw [z5_o (by omega)]; exact c6
  unfold m_laysTurn
  simp only [nI_clamp (show s < 2 ^ 31 by omega)]
  rw [Gd_t g42, Lt_e, Gd_t g42, Lt_e, Gd_t g42, Lt_e, Gd_t g42, Lt_e, Gd_t g42, Lt_e, Gd_t g42, Jn_e]
  have ez : s2 (s2 (s2 (s2 (s2 m 24 s 0) 25 s 0) 26 s 0) 27 s 0) 28 s 0 = z5 m s := rfl
  rw [ez, z14, z13, if_neg n14, Gd_t g42, Gd_t g42, if_neg (fun q => hne ((nI_eq (by omega) (by omega)).mp q)), Gd_t g42, Gd_t g42, bd_e (around_e _), cr_n v v1 hv hv1, ea, Jn_if, tnS_m a ha, Gd_t g42, Lt_e, Jn_if, tnD_c a ha, ed, Gd_t g42, Gd_t g42]
  have yo : ∀ x, x < 24 ∨ 28 < x → s2 (z5 m s) 25 s (tnS a) x = m x := fun x p => by rw [s2_ne (by omega), z5_o p]
  have hK1 : RefK (s2 (z5 m s) 25 s (tnS a)) := hK.of (yo _ (by decide)) (yo _ (by decide)) (yo _ (by decide))
  have hS1 : SetR c (s2 (z5 m s) 25 s (tnS a)) := hS.of rfl (fun z _ => by rw [yo 0 (by decide)])
  have y16 : s2 (z5 m s) 25 s (tnS a) 16 s = nI g1 := by rw [yo 16 (by decide)]; exact c7
  have y14 : s2 (z5 m s) 25 s (tnS a) 14 s = nI v1 := by rw [yo 14 (by decide)]; exact c8
  have y7 : s2 (z5 m s) 25 s (tnS a) 7 s = nI g := by rw [yo 7 (by decide)]; exact c0
  have y13 : s2 (z5 m s) 25 s (tnS a) 13 s = nI v := by rw [yo 13 (by decide)]; exact c6
  have y1 : s2 (z5 m s) 25 s (tnS a) 1 = m 1 := yo 1 (by decide)
  rw [y16, y14, bd_e (gs_m (c := c) (lim := nI L1) hK1 hS1 (nI v1) (by rw [mof hP hg1 (by decide), y1, cL1]) (by omega)), Gd_t g42, Gd_t g42, y7, y13, bd_e (gs_m (c := c) (lim := nI L2) hK1 hS1 (nI v) (by rw [mof hP hg (by decide), y1, cL2]) (by omega)), bd_e (greater_e _ _), Lt_e, bd_e (greater_e _ _), rb.2.2, Gd_t g42, Lt_e, Gd_t g42, Gd_t g42, s2_at, (arc_e (by omega) rb.2.1 (by omega)).1, Lt_e, Gd_t g42, Gd_t g42]
  generalize eA : ((r * nI d) * (262 : Int32)) / (1000 : Int32) = A
  obtain ⟨M, eM⟩ : ∃ M, M = s2 (s2 (s2 (z5 m s) 25 s (tnS a)) 26 s r) 28 s A := ⟨_, rfl⟩
  rw [← eM]
  have Mo : ∀ x, x < 24 ∨ 28 < x → M x = m x := fun x p => by rw [eM, s2_ne (by omega), s2_ne (by omega), yo x p]
  have M26 : M 26 s = r := by rw [eM]; simp (disch := omega) only [sH, sM]
  have M6 : d ≤ 8 → M 6 d = LEDS.getD d 0 := fun h => by rw [Mo 6 (by decide)]; exact hK.2.1 d (by omega)
  refine (Jn_x (if OV g1 g k1 o1 then (1 : Int32) else 0) (fun J => ?_)).trans ?_
  · rw [Jn_e, Mo 16 (by decide), Mo 7 (by decide), c7, c0]
    by_cases h : g1 = g
    · rw [if_pos (by rw [h]), if_neg (fun q => q.1 h)]
    · rw [if_neg (fun q => h ((nI_eq (by omega) (by omega)).mp q)), Gd_t g42, bd_e (mof hP hg1 (by decide)), Mo 1 (by decide), ck, Jn_e]
      by_cases h8 : k1 = 8
      · rw [if_pos ((nIl 8 (by omega) (by omega)).mpr h8), if_pos ⟨h, Or.inl h8⟩]
      · rw [if_neg (fun q => h8 ((nIl 8 (by omega) (by omega)).mp q)), Gd_t g42, bd_e (mof hP hg1 (by decide)), Mo 1 (by decide), co]
        by_cases h1 : o1 = 1
        · rw [if_pos ((nIl 1 (by omega) (by omega)).mpr h1), if_pos ⟨h, Or.inr h1⟩]
        · rw [if_neg (fun q => h1 ((nIl 1 (by omega) (by omega)).mp q)), if_neg (fun q => by have := q.2; omega)]
  refine (Jn_x (tnL r d) (fun J => ?_)).trans ?_
  · unfold tnL
    by_cases h1 : d ≤ 8
    · have hl := led_b d (by omega)
      have mm := mulb (a := r.toInt) (b := (LEDS.getD d 0).toInt) (A := 311) (B := 1732) (by omega) rb.2.1 (by omega) hl.2
      rw [if_neg (show ¬ (8 : Int32) < nI d from nI_nlt (a := 8) (b := d) h1 (by decide)), Gd_t g42, Gd_t (Ix_n (by omega) (by decide)), M26, if_pos h1]
      simp only [nI_clamp (show d < 2 ^ 31 by omega)]
      rw [M6 h1, (md_e (by omega) (by omega)).1]
    · rw [if_pos (show (8 : Int32) < nI d from nI_lt (a := 8) (b := d) (by omega) (by omega)), if_neg h1]
  refine (Jn_x (if BYt d (tnL r d) l1 l (OV g1 g k1 o1) then (1 : Int32) else 0) (fun J => ?_)).trans ?_
  · rw [Jn_e, Mo 15 (by decide), Mo 12 (by decide), c9, c5]
    by_cases h1 : d ≤ 8
    · rw [if_neg (show ¬ (8 : Int32) < nI d from nI_nlt (a := 8) (b := d) h1 (by decide)), Gd_t g42]
      by_cases h2 : l1 < 2 * tnL r d
      · rw [if_pos h2, if_neg (fun q => q.2.1 h2)]
      · rw [if_neg h2, Gd_t g42]
        by_cases h3 : l < 2 * tnL r d
        · rw [if_pos h3, if_neg (fun q => q.2.2.1 h3)]
        · rw [if_neg h3]
          by_cases h4 : OV g1 g k1 o1
          · rw [if_pos h4, if_neg (by decide), if_neg (fun q => q.2.2.2 h4)]
          · rw [if_neg h4, if_pos rfl, if_pos ⟨h1, h2, h3, h4⟩]
    · rw [if_pos (show (8 : Int32) < nI d from nI_lt (a := 8) (b := d) (by omega) (by omega)), if_neg (fun q => h1 q.1)]
  · have eT' : (if (if BYt d (tnL r d) l1 l (OV g1 g k1 o1) then (1 : Int32) else 0) = 0 then (2 : Int32) else 1) = T := by
      rw [eT]
      by_cases hb : BYt d (tnL r d) l1 l (OV g1 g k1 o1)
      · rw [if_pos hb, if_neg (by decide), if_pos hb]
      · rw [if_neg hb, if_pos rfl, if_neg hb]
    have eL' : (if (if BYt d (tnL r d) l1 l (OV g1 g k1 o1) then (1 : Int32) else 0) = 0 then (0 : Int32) else tnL r d) = Ld := by
      rw [eL]
      by_cases hb : BYt d (tnL r d) l1 l (OV g1 g k1 o1)
      · rw [if_pos hb, if_neg (by decide), if_pos hb]
      · rw [if_neg hb, if_pos rfl, if_neg hb]
    rw [Jn_if, eT', Gd_t g42, Lt_e, Jn_if, eL', Gd_t g42, Lt_e, eM]
    rfl
