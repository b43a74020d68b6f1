/-! the present position as a whole -/

/-- the end of the reference's search -/
def MJ (x2 : St) (x3 : Int32) : Int32 → Int32 → Option (Int32 × St) := fun (x4 : Int32) (x5 : Int32) =>
  if (x4 : Int32) < 0 then (
  Option.bind (m_of x2 (0 : Int32) x3 (0 : Int32)) fun x7 =>
  Gd (Ix x3 21) <|
  Lt (s2 x2 0 64 (x2 20 (Int32.toNatClampNeg x3))) fun σ8 =>
  Gd (Ix x3 21) <|
  Lt (s2 σ8 0 65 (σ8 21 (Int32.toNatClampNeg x3))) fun σ9 =>
  Jn (fun (x10 : Int32) =>
  Lt (s2 σ9 0 66 x10) fun σ12 =>
  Gd (Ix x3 21) <|
  Gd (((σ12 19 (Int32.toNatClampNeg x3)) : Int32) &&& 1 = (σ12 19 (Int32.toNatClampNeg x3))) <|
  some ((σ12 19 (Int32.toNatClampNeg x3)), σ12)
  ) fun J11 =>
  Jn (fun (_ : Unit) =>
  Option.bind (m_of σ9 (0 : Int32) x3 (2 : Int32)) fun x15 =>
  J11 x15
  ) fun J14 =>
  if (x7 : Int32) = (3 : Int32) then (
  J14 ()
  ) else (
  if (x7 : Int32) = (7 : Int32) then (
  J14 ()
  ) else (
  if (x7 : Int32) = (8 : Int32) then (
  J14 ()
  ) else (
  J11 (0 : Int32)
  )
  )
  )
  ) else (
  Lt ((Int32.toInt64 ((x2 0 4) - x5)) : Int64) fun x16 =>
  Gd (Ix x4 180) <|
  Gd (Ix x4 180) <|
  Gd (Ix x4 180) <|
  Gd (Ix x4 180) <|
  Gd (¬ ((Int32.toInt64 (x2 31 (Int32.toNatClampNeg x4))) : Int64) = 0) <|
  Lt (s2 x2 0 64 (Int64.toInt32 ((Int32.toInt64 (x2 33 (Int32.toNatClampNeg x4))) + ((((Int32.toInt64 (x2 35 (Int32.toNatClampNeg x4))) - (Int32.toInt64 (x2 33 (Int32.toNatClampNeg x4)))) * x16) / (Int32.toInt64 (x2 31 (Int32.toNatClampNeg x4))))))) fun σ18 =>
  Gd (Ix x4 180) <|
  Gd (Ix x4 180) <|
  Gd (Ix x4 180) <|
  Gd (Ix x4 180) <|
  Gd (¬ ((Int32.toInt64 (σ18 31 (Int32.toNatClampNeg x4))) : Int64) = 0) <|
  Lt (s2 σ18 0 65 (Int64.toInt32 ((Int32.toInt64 (σ18 34 (Int32.toNatClampNeg x4))) + ((((Int32.toInt64 (σ18 36 (Int32.toNatClampNeg x4))) - (Int32.toInt64 (σ18 34 (Int32.toNatClampNeg x4)))) * x16) / (Int32.toInt64 (σ18 31 (Int32.toNatClampNeg x4))))))) fun σ20 =>
  Gd (Ix x4 180) <|
  Lt (s2 σ20 0 66 (σ20 32 (Int32.toNatClampNeg x4))) fun σ21 =>
  some ((1 : Int32), σ21)
  )
theorem btw_c {a b s l : Int32} (hl : ¬ l = 0) (hsl : s ≤ l) : f_Pg_between a b s l = some (bf b a s l) := by
  unfold f_Pg_between bf
  rw [Jn_e, if_neg hl, if_neg hl, if_pos hsl, Gd_t]
  intro q
  have := congrArg Int64.toInt q
  rw [tw] at this
  exact hl (i2 this)
def P3 (c : St) (x y v : Int32) : St := s2 (s2 (s2 c 52 3 x) 52 4 y) 52 5 v
def Q3 (m : St) (x y v : Int32) : St := s2 (s2 (s2 m 0 64 x) 0 65 y) 0 66 v
theorem VE_Q3 {m : St} {P n : Nat} {x y v : Int32} : VE m (Q3 m x y v) P n := by
  have m0 : ∀ k, k < 64 → Q3 m x y v 0 k = m 0 k := fun k hk => by simp (disch := omega) only [sM, Q3]
  have ma : ∀ a, a ≠ 0 → Q3 m x y v a = m a := fun a p => by funext z; simp (disch := omega) only [sM, Q3]
  have hlc : ∀ i p, LCr (Q3 m x y v) i p = LCr m i p := fun i p => (sums_of (c := m) (c' := m) (lim := 0) rfl (fun k _ a p1 p2 => by rw [ma a (by omega)])).2.2
  refine ⟨fun i l hi hl => ?_, (m0 57 (by decide)).symm, fun k j _ _ => by rw [ma _ (by omega)]⟩
  unfold Wc vio altv
  rw [hlc, m0 57 (by decide), m0 15 (by decide), m0 14 (by decide), ma 18 (by decide), ma 19 (by decide), ma 20 (by decide), ma 21 (by decide), ma 22 (by decide), ma (20 + l) (by omega), ma 1 (by decide), ma 23 (by decide), ma 37 (by decide), ma 38 (by decide), ma 39 (by decide), ma 40 (by decide)]
theorem WF_Q3 {m : St} {P n : Nat} {R : Int} {x y v : Int32} (h : WF m P R n) : WF (Q3 m x y v) P R n := by
  have m0 : ∀ k, k < 64 → Q3 m x y v 0 k = m 0 k := fun k hk => by simp (disch := omega) only [sM, Q3]
  have ma : ∀ a, a ≠ 0 → Q3 m x y v a = m a := fun a p => by funext z; simp (disch := omega) only [sM, Q3]
  have hsl : ∀ i p, SLr (Q3 m x y v) i p = SLr m i p := fun i p => (sums_of (c := m) (c' := m) (lim := 0) rfl (fun k _ a p1 p2 => by rw [ma a (by omega)])).1
  unfold WF at *
  simp only [hsl]
  rw [m0 57 (by decide), ma 18 (by decide), ma 19 (by decide), ma 20 (by decide), ma 21 (by decide), ma 22 (by decide), ma 1 (by decide), ma 23 (by decide), ma 37 (by decide), ma 39 (by decide), ma 40 (by decide), ma 31 (by decide), ma 32 (by decide), ma 33 (by decide), ma 34 (by decide), ma 35 (by decide), ma 36 (by decide), ma 29 (by decide)]
  exact h
def PO (t : Nat) (c' m' : St) (na cur fl ed nm : Nat) (Ra R : Int) (v : Int32) : Prop :=
  (IB t c' m' na cur fl ed nm Ra) ∧
  (CA c' na) ∧
  (CM c' ed nm) ∧
  (0 < na → VR c' m' 17 0 na) ∧
  (0 < na → WF m' 0 R na) ∧
  (v = 0 ∨ v = 1) ∧
  (na = 0 → v = 0) ∧
  (v = 1 → c' 52 3 = m' 0 64 ∧ c' 52 4 = m' 0 65 ∧ c' 52 5 = m' 0 66 ∧ (∃ k : Nat, k < 24 ∧ m' 0 66 = nI k) ∧ Nb (R + 402) (m' 0 64) (m' 0 65) ∧ (cur = 0 → fl = 0 → m' 1 (0 + 3 + 14 * 0 + 0) = 8 → Nb Ra (m' 0 64) (m' 0 65)))
theorem PO.B {t : Nat} {c' m' : St} {na cur fl ed nm : Nat} {Ra R : Int} {v : Int32} (h : PO t c' m' na cur fl ed nm Ra R v) : IB t c' m' na cur fl ed nm Ra := h.1
theorem PO.A {t : Nat} {c' m' : St} {na cur fl ed nm : Nat} {Ra R : Int} {v : Int32} (h : PO t c' m' na cur fl ed nm Ra R v) : CA c' na := h.2.1
theorem PO.M {t : Nat} {c' m' : St} {na cur fl ed nm : Nat} {Ra R : Int} {v : Int32} (h : PO t c' m' na cur fl ed nm Ra R v) : CM c' ed nm := h.2.2.1
theorem PO.V {t : Nat} {c' m' : St} {na cur fl ed nm : Nat} {Ra R : Int} {v : Int32} (h : PO t c' m' na cur fl ed nm Ra R v) : 0 < na → VR c' m' 17 0 na := h.2.2.2.1
theorem PO.W {t : Nat} {c' m' : St} {na cur fl ed nm : Nat} {Ra R : Int} {v : Int32} (h : PO t c' m' na cur fl ed nm Ra R v) : 0 < na → WF m' 0 R na := h.2.2.2.2.1
theorem PO.v {t : Nat} {c' m' : St} {na cur fl ed nm : Nat} {Ra R : Int} {v : Int32} (h : PO t c' m' na cur fl ed nm Ra R v) : v = 0 ∨ v = 1 := h.2.2.2.2.2.1
theorem PO.n0 {t : Nat} {c' m' : St} {na cur fl ed nm : Nat} {Ra R : Int} {v : Int32} (h : PO t c' m' na cur fl ed nm Ra R v) : na = 0 → v = 0 := h.2.2.2.2.2.2.1
theorem PO.p {t : Nat} {c' m' : St} {na cur fl ed nm : Nat} {Ra R : Int} {v : Int32} (h : PO t c' m' na cur fl ed nm Ra R v) : v = 1 → c' 52 3 = m' 0 64 ∧ c' 52 4 = m' 0 65 ∧ c' 52 5 = m' 0 66 ∧ (∃ k : Nat, k < 24 ∧ m' 0 66 = nI k) ∧ Nb (R + 402) (m' 0 64) (m' 0 65) ∧ (cur = 0 → fl = 0 → m' 1 (0 + 3 + 14 * 0 + 0) = 8 → Nb Ra (m' 0 64) (m' 0 65)) := h.2.2.2.2.2.2.2

theorem pos_lock {t na cur fl ed nm : Nat} {Ra : Int} {c m : St} (ht : t ≤ 511) (hB : IB t c m na cur fl ed nm Ra) (hA : CA c na) (hM : CM c ed nm) {Bs : Nat → Int} {R : Int} (hBs : BsOK m 0 Bs Ra R na) (hB0 : Bs 0 = Ra) (hR14 : 14200 ≤ R) (hR : R ≤ 5940000) :
    ∃ (v : Int32) (c' m' : St), f_FL_hasPosition c = some (v, c') ∧ m_hasPosition m = some (v, m') ∧ PO t c' m' na cur fl ed nm Ra R v ∧ (∀ a, a < 17 ∨ 46 < a → a ≠ 52 → c' a = c a) := by
  have hI : PI 17 8 := Or.inl ⟨rfl, rfl⟩
  have n20 := hB.a20
  obtain ⟨c1, m1, e1, e2, e3, e4, e5, e6, e7, e8, e9, e10⟩ := act_lock ht hB hA hM hBs hR14 hR
  have hcm : m_count m 0 = some (m 1 0) := mcount (P := 0) (by decide)
  have fro : ∀ a, a < 17 ∨ 46 < a → a ≠ 52 → c1 a = c a := fun a p _ => e5.fc a (by omega) (by omega) (by omega) (by omega) (by omega) (by omega)
  have op : ∀ (v : Int32) (s : St), v = 0 ∨ v = 1 → Gd ((v : Int32) &&& 1 = v) (some (v, s)) = some (v, s) := fun v s h => by
    apply Gd_t
    rcases h with h | h <;> rw [h] <;> decide
  by_cases n0 : na = 0
  · refine ⟨0, c1, m, ?_, ?_, ⟨hB.of e6.D fro (by rw [e5.fc 52 (by decide) (by decide) (by decide) (by decide) (by decide) (by decide)]) (fun _ _ _ => rfl) (fun _ _ => rfl), e7, e8, fun h => by omega, fun h => by omega, Or.inl rfl, fun _ => rfl, fun h => absurd h (by decide)⟩, fro⟩
    · unfold f_FL_hasPosition
      have hl : f_Pg_locate c1 52 = some (0, c1) := by
        unfold f_Pg_locate
        show (if c1 8 1 = 0 then _ else _) = _
        rw [if_pos (by rw [e6.A.cc, n0]; rfl)]
      rw [bd_e e1, bd_e hl]
      exact op 0 c1 (Or.inl rfl)
    · unfold m_hasPosition
      rw [bd_e hcm, if_pos (by rw [hB.A.cm, n0]; rfl)]
  · have hna : 0 < na := by omega
    obtain ⟨hcur, -⟩ := e6.an.2 hna
    have g21 : Ix (nI cur) 21 := Ix_n (show cur < 21 by omega) (by decide)
    obtain ⟨p, p126, p57, pp, plen, pnp⟩ := e4.pc
    obtain ⟨cc, cm, -⟩ := e6.ac
    obtain ⟨fc, fm, fl8⟩ := e6.f
    obtain ⟨x1, hx1, hx2⟩ := e6.FL hna
    have hve := hx1.det hI e6.D e9
    have hfl : (fl : Int) ≤ (m1 37 cur).toInt := by
      have := hve.1 cur 9 hcur (by decide)
      rw [Wc9, Wc9] at this
      rw [← this]; exact hx2
    rw [plen cur hcur] at hfl
    have hlen : ∀ k, k < p → ∃ l : Nat, 1 ≤ l ∧ l ≤ 5965232 ∧ m1 31 k = nI l := fun k hk => (pp k hk).1
    -- what both sides do at the end of the search
    obtain ⟨Jc, eJc⟩ : ∃ Jc : Int32 → Int32 → Option (Int32 × St), Jc = fun (x1 : Int32) (x2 : Int32) => Jn (fun (x4 : Int32) (σ5 : St) => Gd ((x4 : Int32) &&& 1 = x4) <| some (x4, σ5)) fun J6 => if (x2 : Int32) = (-1 : Int32) then (Option.bind (f_Pg_locateAtEnd c1 52) fun x9 => J6 x9.1 x9.2) else (Option.bind (f_Pg_locateOn c1 52 x2 ((c1 52 2) - x1)) fun x8 => J6 x8.1 x8.2) := ⟨_, rfl⟩
    obtain ⟨B, j, q1, q2, q3⟩ := find_lock e6.D e3 e4 p57 p126 hlen cc fc fm fl8 hfl Jc (MJ m1 (nI cur)) p 0 4000 4000 0 (-1) (by omega) (by omega) (by omega) ⟨show 0 ≤ (0 : Int32).toInt by decide, show (0 : Int32).toInt ≤ (fl : Int) from Int.le_trans (show (0 : Int32).toInt ≤ 0 by decide) (by omega), by decide, Or.inl ⟨rfl, rfl, rfl⟩⟩
    have hc0 : ¬ c1 8 1 = 0 := by rw [e6.A.cc]; exact nI_ne0 hna (by omega)
    have hlc : f_Pg_locate c1 52 = Jc B j := by
      unfold f_Pg_locate
      show (if c1 8 1 = 0 then _ else _) = _
      rw [if_neg hc0, ← eJc, Jn_e, Jn_e]
      exact q1
    have hlm : m_hasPosition m = MJ m1 (nI cur) j B := by
      unfold m_hasPosition
      have e2' : m_lays m 0 = some m1 := e2
      rw [bd_e hcm, if_neg (by rw [hB.A.cm]; exact nI_ne0 hna (by omega)), bd_e e2', Gd_t (show Ix (1 : Int32) 2673 from Ix_n (i := 1) (n := 2673) (by decide) (by decide)), Lt_e]
      show Jn (MJ m1 (m1 1 1)) (fun J6 => lp (lb_m_hasPosition_35 m1 (m1 1 1) J6) 4000 ((0 : Int32), (-1 : Int32), (0 : Int32), (0 : Int32), (0 : Int32))) = _
      rw [cm, Jn_e]
      exact q2
    have hpos : ∀ (v : Int32) (c' : St), v = 0 ∨ v = 1 → f_Pg_locate c1 52 = some (v, c') → f_FL_hasPosition c = some (v, c') := fun v c' hv h => by
      unfold f_FL_hasPosition
      rw [bd_e e1, bd_e h]
      exact op v c' hv
    -- the invariants behind
    have fin : ∀ (v : Int32) (c' : St) (x y w : Int32), v = 0 ∨ v = 1 → f_Pg_locate c1 52 = some (v, c') → m_hasPosition m = some (v, Q3 m1 x y w) → (c' = P3 c1 x y w ∨ (v = 0 ∧ c' = c1)) → (v = 1 → c' = P3 c1 x y w ∧ (∃ k : Nat, k < 24 ∧ w = nI k) ∧ Nb (R + 402) x y ∧ (cur = 0 → fl = 0 → m1 1 (0 + 3 + 14 * 0 + 0) = 8 → Nb Ra x y)) → ∃ (v : Int32) (c' m' : St), f_FL_hasPosition c = some (v, c') ∧ m_hasPosition m = some (v, m') ∧ PO t c' m' na cur fl ed nm Ra R v ∧ (∀ a, a < 17 ∨ 46 < a → a ≠ 52 → c' a = c a) := by
      intro v c' x y w hv h1 h2 h3 h4
      have co : ∀ a, a ≠ 52 → c' a = c1 a := fun a p => by
        rcases h3 with h | ⟨-, h⟩ <;> rw [h]
        unfold P3
        rw [s2_ne p, s2_ne p, s2_ne p]
      have c52 : c' 52 2 = c1 52 2 := by
        rcases h3 with h | ⟨-, h⟩ <;> rw [h]
        simp (disch := omega) only [sM, P3]
      have hD' : Dm c' := e6.D.of (fun t k ht => by rw [co t (fun e => by rw [e] at ht; cases ht)])
      have ma : ∀ a, a ≠ 0 → Q3 m1 x y w a = m1 a := fun a p => by funext z; simp (disch := omega) only [sM, Q3]
      refine ⟨v, c', _, hpos v c' hv h1, h2, ⟨e6.of hD' (fun a _ p => co a p) c52 (fun a p _ => ma a p) (fun k p => by simp (disch := omega) only [sM, Q3]), e7.of (fun a p => co a (by omega)), e8.of (fun a p => co a (by omega)), fun _ => (e3.of (co _ (by decide)) (by rw [co _ (by decide)]) (co _ (by decide))).tr VE_Q3, fun _ => WF_Q3 e4, hv, fun h => by omega, fun hv1 => ?_⟩, fun a p1 p2 => (co a p2).trans (fro a p1 p2)⟩
      obtain ⟨k1, k2, k3, k4⟩ := h4 hv1
      have z1 : Q3 m1 x y w 0 64 = x := by simp (disch := omega) only [sH, sM, Q3]
      have z2 : Q3 m1 x y w 0 65 = y := by simp (disch := omega) only [sH, sM, Q3]
      have z3 : Q3 m1 x y w 0 66 = w := by simp (disch := omega) only [sH, sM, Q3]
      rw [z1, z2, z3, ma 1 (by decide), k1]
      exact ⟨by simp (disch := omega) only [sH, sM, P3], by simp (disch := omega) only [sH, sM, P3], by simp (disch := omega) only [sH, sM, P3], k2, k3, k4⟩
    have hjc : (nI cur).toNatClampNeg = cur := nI_clamp (by omega)
    rcases q3 with q3 | ⟨jj, b1, b2, b3, b4, b5, b6⟩
    · -- no piece: at the leg's end
      obtain ⟨k, hk9, kc, km, -, -, k8⟩ := (e6.A.leg cur hcur).kd
      obtain ⟨vv, vv23, vvc, vvm⟩ := (e6.A.leg cur hcur).crs
      have mof0 : ∀ (s : St) (jx : Nat), jx < 14 → m_of s 0 (nI cur) (OfNat.ofNat jx) = some (s 1 (0 + 3 + 14 * cur + jx)) := fun s jx h => mof (P := 0) (by decide) (show cur < 21 by omega) h
      have hen := e4.en cur hcur
      obtain ⟨w, ew, hw⟩ : ∃ w : Int32, w = (if k = 3 ∨ k = 7 ∨ k = 8 then nI vv else 0) ∧ ∃ z : Nat, z < 24 ∧ w = nI z := by
        refine ⟨_, rfl, ?_⟩
        split
        · exact ⟨vv, by omega, rfl⟩
        · exact ⟨0, by decide, rfl⟩
      have hm : m_hasPosition m = some (m1 19 cur, Q3 m1 (m1 20 cur) (m1 21 cur) w) := by
        rw [hlm, q3]
        unfold MJ
        rw [if_pos (by decide)]
        simp only [hjc]
        rw [bd_e (mof0 m1 0 (by decide)), Gd_t g21, Lt_e, Gd_t g21, Lt_e, s2_ne (by decide)]
        refine (Jn_x w (fun K => ?_)).trans ?_
        · rw [Jn_e, bd_e (mof0 _ 2 (by decide)), s2_ne (by decide), s2_ne (by decide), vvm, km, ew]
          by_cases k3 : k = 3
          · rw [if_pos ((nIl 3 (by omega) (by omega)).mpr k3), if_pos (Or.inl k3)]
          · rw [if_neg (fun e => k3 ((nIl 3 (by omega) (by omega)).mp e))]
            by_cases k7 : k = 7
            · rw [if_pos ((nIl 7 (by omega) (by omega)).mpr k7), if_pos (Or.inr (Or.inl k7))]
            · rw [if_neg (fun e => k7 ((nIl 7 (by omega) (by omega)).mp e))]
              by_cases k8 : k = 8
              · rw [if_pos ((nIl 8 (by omega) (by omega)).mpr k8), if_pos (Or.inr (Or.inr k8))]
              · rw [if_neg (fun e => k8 ((nIl 8 (by omega) (by omega)).mp e)), if_neg (by omega)]
        · have e19 : s2 (s2 (s2 m1 0 64 (m1 20 cur)) 0 65 (m1 21 cur)) 0 66 w 19 cur = m1 19 cur := by simp (disch := omega) only [sM]
          rw [Lt_e, Gd_t g21]
          simp only [e19]
          exact op _ _ hen
      have hcl : f_Pg_locate c1 52 = Option.bind (f_Pg_locateAtEnd c1 52) fun x9 => Gd ((x9.1 : Int32) &&& 1 = x9.1) <| some (x9.1, x9.2) := by
        rw [hlc, eJc, q3]
        dsimp only
        rw [Jn_e, if_pos rfl]
      have w1 := e3.lg cur 1 hcur (by decide)
      have w2 := e3.lg cur 2 hcur (by decide)
      have w3 := e3.lg cur 3 hcur (by decide)
      have w1' : c1 19 (cur * 16 + 1) = m1 19 cur := w1
      rcases hen with y | y
      · rw [y] at hm w1'
        refine fin 0 c1 _ _ _ (Or.inl rfl) ?_ hm (Or.inr ⟨rfl, rfl⟩) (fun h => absurd h (by decide))
        have : f_Pg_locateAtEnd c1 52 = some (0, c1) := by
          unfold f_Pg_locateAtEnd
          rw [Lt_e, show rc 52 0 = 8 from rfl, show rc 52 1 = 17 from rfl, show rc 17 1 = 18 from rfl, cc, bd_e (lgg (b := 17) hI e6.D (show cur < 21 by omega) (by decide)), if_pos w1']
        rw [hcl, bd_e this]
        exact op 0 c1 (Or.inl rfl)
      · rw [y] at hm w1'
        have w2' : c1 19 (cur * 16 + 2) = m1 20 cur := by rw [show c1 19 (cur * 16 + 2) = Wc m1 0 cur 2 from w2]; show (if m1 19 cur = 1 then m1 20 cur else -1000000) = _; rw [if_pos y]
        have w3' : c1 19 (cur * 16 + 3) = m1 21 cur := by rw [show c1 19 (cur * 16 + 3) = Wc m1 0 cur 3 from w3]; show (if m1 19 cur = 1 then m1 21 cur else -1000000) = _; rw [if_pos y]
        refine fin 1 (P3 c1 (m1 20 cur) (m1 21 cur) w) _ _ _ (Or.inr rfl) ?_ hm (Or.inl rfl) (fun _ => ⟨rfl, hw, (e4.e1 cur hcur y).le (by omega), fun h0 hf0 h8 => ?_⟩)
        · have : f_Pg_locateAtEnd c1 52 = some (1, P3 c1 (m1 20 cur) (m1 21 cur) w) := by
            unfold f_Pg_locateAtEnd
            have D3 : Dm (s2 c1 52 3 (m1 20 cur)) := e6.D.s2 (by decide)
            rw [Lt_e, show rc 52 0 = 8 from rfl, show rc 52 1 = 17 from rfl, show rc 17 1 = 18 from rfl, show rc 8 0 = 9 from rfl, cc, bd_e (lgg (b := 17) hI e6.D (show cur < 21 by omega) (by decide)), if_neg (by rw [show c1 (17 + 2) (cur * 16 + 1) = 1 from w1']; decide)]
            show Option.bind (f_Pl_kind c1 8 (nI cur)) _ = _
            rw [bd_e (kd_c (b := 17) hI e6.D (show cur < 21 by omega)), kc]
            show Option.bind (f_Tb_get c1 18 (nI cur) (2 : Int32)) _ = _
            rw [bd_e (lgg (b := 17) hI e6.D (show cur < 21 by omega) (by decide)), show c1 (17 + 2) (cur * 16 + 2) = _ from w2', Lt_e]
            show Option.bind (f_Tb_get (s2 c1 52 3 (m1 20 cur)) 18 (nI cur) (3 : Int32)) _ = _
            rw [bd_e (lgg (b := 17) hI D3 (show cur < 21 by omega) (by decide)), s2_ne (by decide), show c1 (17 + 2) (cur * 16 + 3) = _ from w3', Lt_e]
            refine (Jn_x w (fun K => ?_)).trans ?_
            · rw [Jn_e]
              show (if nI k = (3 : Int32) then (fun (_ : Unit) => Option.bind (f_Tb_get (s2 (s2 c1 52 3 (m1 20 cur)) 52 4 (m1 21 cur)) 9 (nI cur) (2 : Int32)) fun x12 => K x12) () else _) = _
              dsimp only
              rw [bd_e (pg (b := 17) hI (D3.s2 (by decide)) (show cur < 21 by omega) (by decide)), s2_ne (by decide), s2_ne (by decide), vvc, ew]
              by_cases k3 : k = 3
              · rw [if_pos ((nIl 3 (by omega) (by omega)).mpr k3), if_pos (Or.inl k3)]
              · rw [if_neg (fun e => k3 ((nIl 3 (by omega) (by omega)).mp e))]
                by_cases k7 : k = 7
                · rw [if_pos ((nIl 7 (by omega) (by omega)).mpr k7), if_pos (Or.inr (Or.inl k7))]
                · rw [if_neg (fun e => k7 ((nIl 7 (by omega) (by omega)).mp e))]
                  by_cases k8 : k = 8
                  · rw [if_pos ((nIl 8 (by omega) (by omega)).mpr k8), if_pos (Or.inr (Or.inr k8))]
                  · rw [if_neg (fun e => k8 ((nIl 8 (by omega) (by omega)).mp e)), if_neg (by omega)]
            · rw [Lt_e]
              rfl
          rw [hcl, bd_e this]
          exact op 1 _ (Or.inr rfl)
        · subst h0
          have := e10 hna y
          rw [hB0] at this
          exact this
    · -- on a piece
      obtain ⟨⟨l, l1, l2, el⟩, ⟨vv, vv24, vve⟩, pn1, pn2, -⟩ := pp jj b1
      have eln : (nI l).toInt = (l : Int) := nI_toInt (by omega)
      rw [el, eln] at b6
      have efl : (nI fl).toInt = (fl : Int) := nI_toInt (by omega)
      have hl0 : ¬ m1 31 jj = 0 := by rw [el]; exact nI_ne0 (by omega) (by omega)
      have hsb : (nI fl - B).toInt = (fl : Int) - B.toInt := by rw [tI_sub (by rw [efl]; omega) (by rw [efl]; omega), efl]
      have hsl : nI fl - B ≤ m1 31 jj := Int32.le_iff_toInt_le.mpr (by rw [hsb, el, eln]; omega)
      have hjj : jj < (m1 0 57).toNatClampNeg := by rw [p57, nI_clamp (by omega)]; exact b1
      have g180 : Ix (nI jj) 180 := Ix_n (show jj < 180 by omega) (by decide)
      have hj1 : ¬ nI jj = (-1 : Int32) := fun q => by have h1 := nI_pos' (n := jj) (by omega); rw [q] at h1; revert h1; decide
      have hl64 : ¬ (m1 31 jj).toInt64 = 0 := fun q => by
        have := congrArg Int64.toInt q
        rw [tw] at this
        exact hl0 (i2 this)
      have hbf : ∀ a b : Int32, bf a b (nI fl - B) (m1 31 jj) = Int64.toInt32 (b.toInt64 + (((a.toInt64 - b.toInt64) * (nI fl - B).toInt64) / (m1 31 jj).toInt64)) := fun a b => by
        unfold bf
        rw [if_neg hl0, if_pos hsl]
      have r : ∀ z, z < 8 → c1 25 (jj * 8 + z) = m1 (29 + z) jj := fun z hz => e3.pr jj z hjj hz
      refine fin 1 (P3 c1 (bf (m1 35 jj) (m1 33 jj) (nI fl - B) (m1 31 jj)) (bf (m1 36 jj) (m1 34 jj) (nI fl - B) (m1 31 jj)) (m1 32 jj)) _ _ _ (Or.inr rfl) ?_ ?_ (Or.inl rfl) (fun _ => ⟨rfl, ⟨vv, vv24, vve⟩, (bf_nb (W := R + 400) (by omega) pn2 pn1 (by rw [el, eln]; omega) (by rw [hsb]; omega) (by rw [el, eln]; omega)).le (by omega), fun h0 hf0 h8 => ?_⟩)
      · have hon : f_Pg_locateOn c1 52 (nI jj) (nI fl - B) = some (1, P3 c1 (bf (m1 35 jj) (m1 33 jj) (nI fl - B) (m1 31 jj)) (bf (m1 36 jj) (m1 34 jj) (nI fl - B) (m1 31 jj)) (m1 32 jj)) := by
          unfold f_Pg_locateOn
          show Option.bind (f_Tb_get c1 24 (nI jj) (2 : Int32)) _ = _
          have D3 : ∀ x, Dm (s2 c1 52 3 x) := fun x => e6.D.s2 (by decide)
          have D4 : ∀ x y, Dm (s2 (s2 c1 52 3 x) 52 4 y) := fun x y => (D3 x).s2 (by decide)
          rw [bd_e (pcg (b := 17) hI e6.D (show jj < 126 by omega) (by decide))]
          show Option.bind (f_Tb_get c1 24 (nI jj) (4 : Int32)) _ = _
          rw [bd_e (pcg (b := 17) hI e6.D (show jj < 126 by omega) (by decide))]
          show Option.bind (f_Tb_get c1 24 (nI jj) (6 : Int32)) _ = _
          rw [bd_e (pcg (b := 17) hI e6.D (show jj < 126 by omega) (by decide)), show c1 (17 + 8) (jj * 8 + 4) = m1 33 jj from r 4 (by decide), show c1 (17 + 8) (jj * 8 + 6) = m1 35 jj from r 6 (by decide), show c1 (17 + 8) (jj * 8 + 2) = m1 31 jj from r 2 (by decide), bd_e (btw_c hl0 hsl), Lt_e]
          show Option.bind (f_Tb_get (s2 c1 52 3 _) 24 (nI jj) (5 : Int32)) _ = _
          rw [bd_e (pcg (b := 17) hI (D3 _) (show jj < 126 by omega) (by decide))]
          show Option.bind (f_Tb_get (s2 c1 52 3 _) 24 (nI jj) (7 : Int32)) _ = _
          rw [bd_e (pcg (b := 17) hI (D3 _) (show jj < 126 by omega) (by decide)), s2_ne (by decide), show c1 (17 + 8) (jj * 8 + 5) = m1 34 jj from r 5 (by decide), show c1 (17 + 8) (jj * 8 + 7) = m1 36 jj from r 7 (by decide), bd_e (btw_c hl0 hsl), Lt_e]
          show Option.bind (f_Tb_get (s2 (s2 c1 52 3 _) 52 4 _) 24 (nI jj) (3 : Int32)) _ = _
          rw [bd_e (pcg (b := 17) hI (D4 _ _) (show jj < 126 by omega) (by decide)), s2_ne (by decide), s2_ne (by decide), show c1 (17 + 8) (jj * 8 + 3) = m1 32 jj from r 3 (by decide), Lt_e]
          rfl
        rw [hlc, eJc, b2]
        dsimp only
        rw [Jn_e, if_neg hj1, fc, bd_e hon]
        exact op 1 _ (Or.inr rfl)
      · rw [hlm, b2]
        unfold MJ
        simp only [nI_clamp (show jj < 2 ^ 31 by omega)]
        rw [if_neg (nI_pos (by omega)), Lt_e, fm, Gd_t g180, Gd_t g180, Gd_t g180, Gd_t g180, Gd_t hl64, Lt_e, Gd_t g180, Gd_t g180, Gd_t g180, Gd_t g180, s2_ne (show (31 : Nat) ≠ 0 by decide), s2_ne (show (34 : Nat) ≠ 0 by decide), s2_ne (show (36 : Nat) ≠ 0 by decide), Gd_t hl64, Lt_e, Gd_t g180, s2_ne (show (32 : Nat) ≠ 0 by decide), s2_ne (show (32 : Nat) ≠ 0 by decide), Lt_e, hbf, hbf]
        rfl
      · -- leg 0 of a plan with a present position has no pieces
        exfalso
        subst h0
        exact pnp 0 hna (e4.a0 hna) (by rw [h8]; decide) jj b1 b3
