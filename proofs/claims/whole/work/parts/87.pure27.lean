/-! the pieces of a leg's segments, on both sides -/
def CX (c m : St) (b q P : Nat) (R0 R : Int) (n : Nat) (f : Nat → Nat) : Prop :=
  (PH c m b q P R0 R n f) ∧
  (∀ k, k < f n → TgR c m b k) ∧
  (∀ k, k < 42 → c (b + 5) (k * 16 + 15) = if k + 1 < f n ∧ c (b + 5) ((k + 1) * 16 + 10) = 1 then m 27 (k + 1) else 0)
theorem CX.ph {c m : St} {b q P : Nat} {R0 R : Int} {n : Nat} {f : Nat → Nat} (h : CX c m b q P R0 R n f) : PH c m b q P R0 R n f := h.1
theorem CX.tg {c m : St} {b q P : Nat} {R0 R : Int} {n : Nat} {f : Nat → Nat} (h : CX c m b q P R0 R n f) : ∀ k, k < f n → TgR c m b k := h.2.1
theorem CX.nl {c m : St} {b q P : Nat} {R0 R : Int} {n : Nat} {f : Nat → Nat} (h : CX c m b q P R0 R n f) : ∀ k, k < 42 → c (b + 5) (k * 16 + 15) = if k + 1 < f n ∧ c (b + 5) ((k + 1) * 16 + 10) = 1 then m 27 (k + 1) else 0 := h.2.2

theorem CX.of {c m c' m' : St} {b q P n : Nat} {f : Nat → Nat} {R0 R : Int} (hI : PI b q) (h : CX c m b q P R0 R n f)
    (hc : ∀ a, a ≠ b → a ≠ b + 2 → a ≠ b + 6 → a ≠ b + 8 → c' a = c a) (h2 : ∀ j l, l < 9 → c' (b + 2) (j * 16 + l) = c (b + 2) (j * 16 + l))
    (hm : ∀ a, a ≠ 0 → a < 29 ∨ a = 42 → m' a = m a) (h0 : ∀ k, k < 31 → m' 0 k = m 0 k) : CX c' m' b q P R0 R n f := by
  have e5 : c' (b + 5) = c (b + 5) := hc _ (by omega) (by omega) (by omega) (by omega)
  refine ⟨h.ph.of hI (fun a p1 p2 _ p4 p5 => hc a p1 p2 p4 p5) (fun k j _ => by rw [e5]) (fun j l p => h2 j l (by omega)) (fun a p1 p2 => hm a p1 (by omega)) h0, fun k hk => (h.tg k hk).of (fun j _ => by rw [e5]) (fun a p1 p2 => by rw [hm a p1 (by omega)]) (by rw [hm 12 (by decide) (by decide)]), fun k hk => ?_⟩
  rw [e5, hm 27 (by decide) (by decide)]
  exact h.nl k hk
theorem PS.cx {c m c' m' : St} {b q P n p p' g : Nat} {f : Nat → Nat} {R0 R : Int} (hI : PI b q) (h : PS c m c' m' b R p p' g) (hC : CX c m b q P R0 R n f) : CX c' m' b q P R0 R n f :=
  hC.of hI (fun a _ _ p3 p4 => h.fc a p3 p4) (fun j l _ => by rw [h.fc _ (by omega) (by omega)]) (fun a p1 p2 => h.fm a p1 (by omega)) (fun k hk => h.f0 k (by omega))
theorem CX.sf {c m : St} {b q P n k j : Nat} {f : Nat → Nat} {R0 R : Int} (h : CX c m b q P R0 R n f) (hR : R ≤ 5940000) (hk : k < f n) (hj : j < n) (j1 : f j ≤ k) (j2 : k < f (j + 1)) : SF3 c m b n R k j := by
  have hn := h.ph.P.le
  have hr2 := h.ph.r2
  refine ⟨h.ph.sg k hk, h.tg k hk, ?_, (h.ph.lg j hj).sg k j1 j2, by omega⟩
  obtain ⟨l, l1, l2, lc, lm, -⟩ := (h.ph.sg k hk).len
  have el : (nI l).toInt = (l : Int) := nI_toInt (by omega)
  unfold NL
  rw [h.nl k (by omega), lm, el]
  by_cases e : k + 1 < f n ∧ c (b + 5) ((k + 1) * 16 + 10) = 1
  · have ht := h.tg (k + 1) e.1
    have h1 := ht.lb
    have h2 := ht.ll e.2
    rw [Nat.add_sub_cancel, lm, el] at h2
    rw [if_pos e]
    omega
  · rw [if_neg e]
    have : (0 : Int32).toInt = 0 := by decide
    omega
theorem rows_zero {b q P n i : Nat} {f : Nat → Nat} {R0 R : Int} (hI : PI b q) (hi : i < n) (a1 : Int32 × Int32 × St) (ha1 : a1.2.1 = nI i) (a2 : Int32 × St) (ha2 : a2.1 = nI i) (Jc : Int32 → St → Option St) (Jm : St → Option St) (s : Nat) (c m : St) (g1 g2 : Nat) (e : s = f (i + 1)) (h1 : 0 < g1) (h2 : 0 < g2) (hC : CX c m b q P R0 R n f) : lp (lb_f_Pa_refresh_104 b a1 Jc) g1 (nI s, c) = Jc (nI (f (i + 1))) c ∧ lp (lb_m_lays_98 (nI P) a2 Jm) g2 (nI s, m) = Jm m := by
    have hn := hC.ph.P.le
    have hr2 := hC.ph.r2
    have hmo := hC.ph.mono (i := i + 1) (j := n) (by omega) (by omega)
    refine ⟨?_, ?_⟩
    · rw [lp_s h1, e]
      show (if c (rc b 2) 4 ≤ nI (f (i + 1)) then Jc (nI (f (i + 1))) c else Option.bind (f_Tb_get c (rc (rc b 2) 3) (nI (f (i + 1))) (0 : Int32)) fun x21 => if (x21 : Int32) = a1.2.1 then _ else Jc (nI (f (i + 1))) c) = _
      by_cases hl : f (i + 1) < f n
      · rw [rc_b2 hI, rc_b33 hI, if_neg (by rw [hC.ph.cc]; exact nI_ge hl (by omega)), bd_e (sgg hI hC.ph.D (by omega) (by decide)), if_neg]
        obtain ⟨j, hj, j1, j2⟩ := part_at hC.ph.f0 n (f (i + 1)) hl
        have e7 := (hC.ph.lg j hj).sg _ j1 j2
        obtain ⟨g, hg, gc, gm⟩ := (hC.ph.sg _ hl).leg
        rw [gc, ← gm, e7, ha1]
        intro q
        have := (nI_eq (by omega) (by omega)).mp q
        subst this
        omega
      · rw [rc_b2 hI, if_pos (by rw [hC.ph.cc]; exact nI_le (by omega) (by omega))]
    · rw [lp_s h2]
      show (Gd (Ix (a2.1 + (1 : Int32)) 22) <| if (m 22 (Int32.toNatClampNeg (a2.1 + (1 : Int32))) : Int32) ≤ nI s then Jm m else _) = _
      have e22 : m 22 (i + 1) = nI (f (i + 1)) := by
        rcases (show i + 1 = n ∨ i + 1 < n by omega) with q | q
        · rw [q]; exact hC.ph.fN
        · exact (hC.ph.lg (i + 1) q).fs
      rw [ha2, nI_1, Gd_t (Ix_n (by omega) (by decide)), if_pos]
      rw [nI_clamp (by omega), e22, e]
      exact Int32.le_refl _
theorem rows_lock {b q P n i kd : Nat} {f : Nat → Nat} {R0 R : Int} (hI : PI b q) (hR : R ≤ 5940000) (hi : i < n) (hk9 : kd < 9) (a1 : Int32 × Int32 × St) (ha1 : a1.2.1 = nI i) (a2 : Int32 × St) (ha2 : a2.1 = nI i) (Jc : Int32 → St → Option St) (Jm : St → Option St) :
    ∀ (d s : Nat) (c m : St) (p g1 g2 : Nat), s + d = f (i + 1) → f i ≤ s → d < g1 → d < g2 → CX c m b q P R0 R n f → PcR c m b R p → XY c m b R → c (q + 2) (i * 14 + 0) = nI kd → m 1 (P + 3 + 14 * i + 0) = nI kd → p + 3 * d ≤ 126 →
      ∃ c' m' p', lp (lb_f_Pa_refresh_104 b a1 Jc) g1 (nI s, c) = Jc (nI (f (i + 1))) c' ∧ lp (lb_m_lays_98 (nI P) a2 Jm) g2 (nI s, m) = Jm m' ∧ p' ≤ p + 3 * d ∧ (kd = 7 → p' ≤ p + 2 * d) ∧ PS c m c' m' b R p p' i := by
  intro d
  induction d with
  | zero =>
    intro s c m p g1 g2 hd hs h1 h2 hC hp hx kc km h126
    obtain ⟨e1, e2⟩ := rows_zero hI hi a1 ha1 a2 ha2 Jc Jm s c m g1 g2 (by omega) h1 h2 hC
    exact ⟨c, m, p, e1, e2, by omega, fun _ => by omega, PS.refl hp hx⟩
  | succ d ih =>
    intro s c m p g1 g2 hd hs h1 h2 hC hp hx kc km h126
    have hn := hC.ph.P.le
    have hr2 := hC.ph.r2
    have hmo := hC.ph.mono (i := i + 1) (j := n) (by omega) (by omega)
    have hsn : s < f n := by omega
    have hS := hC.sf hR hsn hi hs (by omega)
    have e22 : m 22 (i + 1) = nI (f (i + 1)) := by
      rcases (show i + 1 = n ∨ i + 1 < n by omega) with q | q
      · rw [q]; exact hC.ph.fN
      · exact (hC.ph.lg (i + 1) q).fs
    obtain ⟨c1, m1, p1, q1, q2, q3, q4, q5, q6⟩ := sg_lock (k := s) (r := f n) hI hC.ph.P.Pl hR hC.ph.D hC.ph.K hp hx (by omega) hsn (by omega) hC.ph.cm hS (fun h => hC.ph.sg _ h) (hC.nl s (by omega)) hk9 kc km
    have hlt := hI.lt
    obtain ⟨c2, m2, p2, w1, w2, w3, w4, w5⟩ := ih (s + 1) c1 m1 p1 (g1 - 1) (g2 - 1) (by omega) (by omega) (by omega) (by omega) (q5.cx hI hC) q5.pr q5.xy (by rw [q5.fc _ (by omega) (by omega)]; exact kc) (by rw [q5.fm 1 (by decide) (by decide)]; exact km) (by omega)
    refine ⟨c2, m2, p2, ?_, ?_, by omega, fun e => by have := q4 e; have := w4 e; omega, q5.trans w5⟩
    · rw [lp_s (by omega)]
      show (if c (rc b 2) 4 ≤ nI s then Jc (nI s) c else Option.bind (f_Tb_get c (rc (rc b 2) 3) (nI s) (0 : Int32)) fun x21 => if (x21 : Int32) = a1.2.1 then (Option.bind (f_Pc_drawSegment c (rc b 3) (nI s)) fun x22 => Lt (nI s + (1 : Int32)) fun x23 => lp (lb_f_Pa_refresh_104 b a1 Jc) (g1 - 1) (x23, x22)) else Jc (nI s) c) = _
      obtain ⟨g, hg, gc, gm⟩ := hS.sg.leg
      rw [rc_b2 hI, rc_b33 hI, rc_b3 hI, if_neg (by rw [hC.ph.cc]; exact nI_ge hsn (by omega)), bd_e (sgg hI hC.ph.D (by omega) (by decide)), if_pos (by rw [gc, ← gm, hS.gm, ha1]), bd_e q1, Lt_e, nI_1]
      exact w1
    · rw [lp_s (by omega)]
      show (Gd (Ix (a2.1 + (1 : Int32)) 22) <| if (m 22 (Int32.toNatClampNeg (a2.1 + (1 : Int32))) : Int32) ≤ nI s then Jm m else Option.bind (m_laysSegment m (nI P) (nI s)) fun x26 => Lt (nI s + (1 : Int32)) fun x27 => lp (lb_m_lays_98 (nI P) a2 Jm) (g2 - 1) (x27, x26)) = _
      rw [ha2, nI_1, Gd_t (Ix_n (by omega) (by decide)), if_neg (by rw [nI_clamp (by omega), e22]; exact nI_ge (by omega) (by omega)), bd_e q2, Lt_e, nI_1]
      exact w2
