/-! pieces of a segment that is not flown over -/

theorem piece_lock {c m : St} {b q p g v : Nat} {R : Int} {kd L x y : Int32} (hI : PI b q) (hD : Dm c) (hp : PcR c m b R p) (hx : XY c m b R) (h126 : p < 126) (hv : v < 24) (hL : 0 < L → ∃ l : Nat, l ≤ 5965232 ∧ L = nI l) (hn : Nb (R + 400) x y) :
    ∃ c' m' p', f_Pc_addPiece c (b + 6) (nI g) kd L (nI v) x y = some c' ∧ m_piece m (nI g) kd L (nI v) x y = some m' ∧ p' ≤ p + 1 ∧ PS c m c' m' b R p p' g ∧ c' (b + 6) 9 = c (b + 6) 9 ∧ c' (b + 6) 10 = c (b + 6) 10 ∧ Dm c' := by
  by_cases h : 0 < L
  · obtain ⟨l, l1, l2⟩ := hL h
    have l0 : 1 ≤ l := by
      rcases (show l = 0 ∨ 1 ≤ l by omega) with e | e
      · rw [l2, e] at h; exact absurd h (by decide)
      · exact e
    have nt := hI.nt
    have co : ∀ a, a ≠ b + 6 → a ≠ b + 8 → apc c b p (nI g) kd L (nI v) x y a = c a := fun a p1 p2 => by funext z; simp (disch := omega) only [sM, apc, ap8]
    have c8 : ∀ z, ¬ (p * 8 ≤ z ∧ z < p * 8 + 8) → apc c b p (nI g) kd L (nI v) x y (b + 8) z = c (b + 8) z := fun z p1 => by simp (disch := omega) only [sM, apc, ap8]
    have mo : ∀ a, a ≠ 0 → (a < 29 ∨ 36 < a) → mpc m p (nI g) kd L (nI v) x y a = m a := fun a p1 p2 => by funext z; simp (disch := omega) only [sM, mpc, mp8]
    have mk : ∀ a z, a ≠ 0 → z ≠ p → mpc m p (nI g) kd L (nI v) x y a z = m a z := fun a z p1 p2 => by simp (disch := omega) only [sM, mpc, mp8]
    refine ⟨_, _, p + 1, add_c hI hD h126 hp.cc h, piece_m (by omega) hp.cm h, by omega, ⟨by omega, ⟨?_, ?_, fun k hk => ?_⟩, ⟨?_, ?_, ?_⟩, co, ?_, mo, fun k q => ?_, fun k q1 q2 => ?_, fun k q a q1 q2 => mk a k (by omega) (by omega)⟩, ?_, ?_, ?_⟩
    · simp (disch := omega) only [sH, sM, apc]
    · simp (disch := omega) only [sH, sM, mpc]
    · by_cases e : k = p
      · subst e
        refine ⟨fun j hj => ?_, ⟨l, l0, l1, ?_⟩, ⟨v, hv, ?_⟩, ?_, ?_⟩
        · rcases (show j = 0 ∨ j = 1 ∨ j = 2 ∨ j = 3 ∨ j = 4 ∨ j = 5 ∨ j = 6 ∨ j = 7 by omega) with e | e | e | e | e | e | e | e <;> subst e
          · simp (disch := omega) only [sH, sM, mpc, apc, ap8, mp8, Nat.reduceAdd]
          · simp (disch := omega) only [sH, sM, mpc, apc, ap8, mp8, Nat.reduceAdd]
          · simp (disch := omega) only [sH, sM, mpc, apc, ap8, mp8, Nat.reduceAdd]
          · simp (disch := omega) only [sH, sM, mpc, apc, ap8, mp8, Nat.reduceAdd]
          · simp (disch := omega) only [sH, sM, mpc, apc, ap8, mp8, Nat.reduceAdd]; exact hx.x
          · simp (disch := omega) only [sH, sM, mpc, apc, ap8, mp8, Nat.reduceAdd]; exact hx.y
          · simp (disch := omega) only [sH, sM, mpc, apc, ap8, mp8, Nat.reduceAdd]
          · simp (disch := omega) only [sH, sM, mpc, apc, ap8, mp8, Nat.reduceAdd]
        · simp (disch := omega) only [sH, sM, mpc, mp8]; exact l2
        · simp (disch := omega) only [sH, sM, mpc, mp8]
        · simp (disch := omega) only [sH, sM, mpc, mp8]; exact hx.nb
        · simp (disch := omega) only [sH, sM, mpc, mp8]; exact hn
      · have hq := hp.row k (by omega)
        refine ⟨fun j hj => ?_, ?_, ?_, ?_, ?_⟩
        · rw [c8 _ (by omega), mk _ _ (by omega) e]; exact hq.row j hj
        · rw [mk _ _ (by omega) e]; exact hq.len
        · rw [mk _ _ (by omega) e]; exact hq.crs
        · rw [mk _ _ (by omega) e, mk _ _ (by omega) e]; exact hq.n1
        · rw [mk _ _ (by omega) e, mk _ _ (by omega) e]; exact hq.n2
    · simp (disch := omega) only [sH, sM, mpc, apc]
    · simp (disch := omega) only [sH, sM, mpc, apc]
    · simp (disch := omega) only [sH, sM, mpc]; exact hn
    · simp (disch := omega) only [sM, apc, ap8]
    · simp (disch := omega) only [sM, mpc, mp8]
    · have e : k = p := by omega
      rw [e]
      simp (disch := omega) only [sH, sM, mpc, mp8]
    · simp (disch := omega) only [sM, apc, ap8]
    · simp (disch := omega) only [sM, apc, ap8]
    · exact hD.of (fun t k ht => by rw [co t (fun e => by rw [e, nt.2.2.2.2.1] at ht; cases ht) (fun e => by rw [e, nt.2.2.2.2.2.1] at ht; cases ht)])
  · refine ⟨c, m, p, ?_, ?_, by omega, PS.refl hp hx, rfl, rfl, hD⟩
    · unfold f_Pc_addPiece; rw [if_neg h]
    · unfold m_piece; rw [if_neg h]
theorem PS.sg {c m c' m' : St} {b p p' g n k : Nat} {R : Int} (h : PS c m c' m' b R p p' g) (hS : SgR n c m b R k) : SgR n c' m' b R k :=
  hS.of (fun j _ => by rw [h.fc _ (by omega) (by omega)]) (fun a _ _ => by rw [h.fm a (by omega) (by omega)]) (fun _ => by rw [h.fm 12 (by decide) (by decide)])
theorem PS.tg {c m c' m' : St} {b p p' g k : Nat} {R : Int} (h : PS c m c' m' b R p p' g) (hT : TgR c m b k) : TgR c' m' b k :=
  hT.of (fun j _ => by rw [h.fc _ (by omega) (by omega)]) (fun a p1 p2 => by rw [h.fm a p1 (by omega)]) (by rw [h.fm 12 (by decide) (by decide)])
/-- the lead of the turn behind a segment, in the class -/
def NL (c m : St) (b k : Nat) : Prop := 0 ≤ (c (b + 5) (k * 16 + 15)).toInt ∧ (c (b + 5) (k * 16 + 15)).toInt ≤ (m 12 k).toInt
theorem PS.nl {c m c' m' : St} {b p p' g k : Nat} {R : Int} (h : PS c m c' m' b R p p' g) (hN : NL c m b k) : NL c' m' b k := by
  unfold NL at *
  rw [h.fc _ (by omega) (by omega), h.fm 12 (by decide) (by decide)]
  exact hN
theorem rest_lock {c m : St} {b q n p g k : Nat} {R : Int} {B : Int32} (hI : PI b q) (hR : R ≤ 5940000) (hD : Dm c) (hp : PcR c m b R p) (hx : XY c m b R) (h126 : p < 126) (hk : k < 42) (hS : SgR n c m b R k) (hN : NL c m b k) (hg : m 7 k = nI g) (hB0 : 0 ≤ B.toInt) (hB1 : B.toInt ≤ 6000000) :
    ∃ c' m' p', f_Pc_drawRest c (b + 6) (nI k) B = some c' ∧ m_piece m (nI g) 0 ((m 12 k - B) - c (b + 5) (k * 16 + 15)) (m 13 k) (bf (m 8 k) (m 10 k) (c (b + 5) (k * 16 + 15)) (m 12 k)) (bf (m 9 k) (m 11 k) (c (b + 5) (k * 16 + 15)) (m 12 k)) = some m' ∧ p' ≤ p + 1 ∧ PS c m c' m' b R p p' g ∧ Dm c' := by
  obtain ⟨l, l1, l2, lc, lm, -⟩ := hS.len
  obtain ⟨v, hv, vc, vm⟩ := hS.crs
  obtain ⟨g', -, gc, gm⟩ := hS.leg
  have el : (nI l).toInt = (l : Int) := nI_toInt (by omega)
  have hN1 := hN.1
  have hN2 := hN.2
  rw [lm, el] at hN2
  have h0 := hS.nbs.1
  have hgc : c (b + 5) (k * 16 + 0) = nI g := by rw [gc, ← gm, hg]
  have hnb : Nb (R + 400) (bf (m 8 k) (m 10 k) (c (b + 5) (k * 16 + 15)) (m 12 k)) (bf (m 9 k) (m 11 k) (c (b + 5) (k * 16 + 15)) (m 12 k)) := (bf_nb (by omega) hS.nbs hS.nbt (by rw [lm, el]; omega) hN1 (by rw [lm, el]; omega)).le (by omega)
  have e1 : (nI l - B).toInt = (l : Int) - B.toInt := by rw [tI_sub (by rw [el]; omega) (by rw [el]; omega), el]
  have e2 : (nI l - B - c (b + 5) (k * 16 + 15)).toInt = (l : Int) - B.toInt - (c (b + 5) (k * 16 + 15)).toInt := by rw [tI_sub (by rw [e1]; omega) (by rw [e1]; omega), e1]
  obtain ⟨c', m', p', q1, q2, q3, q4, -, -, q5⟩ := piece_lock (g := g) (v := v) (kd := 0) (L := nI l - B - c (b + 5) (k * 16 + 15)) hI hD hp hx h126 hv (fun q => by
    have q := Int32.lt_iff_toInt_lt.mp q
    rw [e2, show (0 : Int32).toInt = 0 by decide] at q
    refine ⟨((l : Int) - B.toInt - (c (b + 5) (k * 16 + 15)).toInt).toNat, by omega, i2 ?_⟩
    rw [e2, nI_toInt (by omega)]
    omega) hnb
  refine ⟨c', m', p', ?_, ?_, q3, q4, q5⟩
  · unfold f_Pc_drawRest
    rw [rc_b63 hI, bd_e (sgg hI hD hk (by decide)), bd_e (sgg hI hD hk (by decide)), bd_e (sgg hI hD hk (by decide)), bd_e (sgg hI hD hk (by decide)), hS.sx, hS.tx, bd_e (bf_c _ _ _ _), bd_e (sgg hI hD hk (by decide)), bd_e (sgg hI hD hk (by decide)), hS.sy, hS.ty, bd_e (bf_c _ _ _ _), bd_e (sgg hI hD hk (by decide)), bd_e (sgg hI hD hk (by decide)), vc, hgc, lc, ← lm, lm]
    rw [lm] at q1
    exact bd_e q1
  · rw [vm]
    rw [lm] at q2 ⊢
    exact q2
theorem arc_lock {c m : St} {b q n p g k : Nat} {R : Int} {x y : Int32} (hI : PI b q) (hD : Dm c) (hp : PcR c m b R p) (hx : XY c m b R) (h126 : p < 126) (hk : k < 42) (hS : SgR n c m b R k) (hT : TgR c m b k) (h24 : ¬ m 24 k = 0) (hg : m 7 k = nI g) (hn : Nb (R + 400) x y) :
    ∃ c' m' p', f_Pc_drawArc c (b + 6) (nI k) x y = some c' ∧ m_piece m (nI g) 1 (m 28 k) (m 13 k) x y = some m' ∧ p' ≤ p + 1 ∧ PS c m c' m' b R p p' g ∧ c' (b + 6) 9 = c (b + 6) 9 ∧ c' (b + 6) 10 = c (b + 6) 10 ∧ Dm c' := by
  obtain ⟨v, hv, vc, vm⟩ := hS.crs
  obtain ⟨g', -, gc, gm⟩ := hS.leg
  have hgc : c (b + 5) (k * 16 + 0) = nI g := by rw [gc, ← gm, hg]
  rcases hT.tt with q | ⟨-, a, v1, ha, -, e25, -, -, r1, r2, e28⟩
  · exact absurd q h24
  · have hd := (tnD_b ha).1
    obtain ⟨-, av⟩ := arc_e (r := m 26 k) (d := tnD a) (by omega) (by omega) (by omega)
    rw [← e28] at av
    have mm := mulb (a := (m 26 k).toInt) (b := (tnD a : Int)) (A := 152) (B := 12) (by omega) r2 (by omega) (by omega)
    have p0 : 0 ≤ (m 26 k).toInt * (tnD a : Int) := Int.mul_nonneg (by omega) (by omega)
    obtain ⟨c', m', p', q1, q2, q3, q4⟩ := piece_lock (g := g) (v := v) (kd := 1) (L := m 28 k) hI hD hp hx h126 hv (fun _ => ⟨(m 28 k).toInt.toNat, by omega, i2 (by rw [nI_toInt (by omega)]; omega)⟩) hn
    refine ⟨c', m', p', ?_, by rw [vm]; exact q2, q3, q4⟩
    unfold f_Pc_drawArc f_Cm_arcLength
    rw [rc_b63 hI, bd_e (sgg hI hD hk (by decide)), hT.t2, e25, tnS_a a ha, Lt_e, bd_e (sgg hI hD hk (by decide)), hT.t3, bd_e rfl, bd_e (sgg hI hD hk (by decide)), bd_e (sgg hI hD hk (by decide)), hgc, vc, ← e28]
    exact bd_e q1
