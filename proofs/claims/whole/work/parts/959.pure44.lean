/-! positions; settings -/
theorem q_positionX {t : Nat} {c m : St} (ht : t ≤ 511) (h : INV t c m) : AQ t (f_FL_positionX c) (m_positionX m) := by
  obtain ⟨na, cur, fl, ed, nm, Ra, hB, hA, hM⟩ := h
  have ra := hB.ra ht
  obtain ⟨v, c', m', e1, e2, e3, -⟩ := pos_lock ht hB hA hM (BsOK_all ra.1 (by have := hB.a20; omega)) rfl (by omega) ra.2
  have hi : INV (t + 1) c' m' := INV.up ⟨na, cur, fl, ed, nm, Ra, e3.B, e3.A, e3.M⟩
  unfold f_FL_positionX m_positionX
  rw [bd_e e1, bd_e e2, Jn_e, Jn_e]
  dsimp only
  rcases e3.v with y | y
  · rw [if_pos y, if_pos y]
    exact ⟨_, c', m', rfl, rfl, hi⟩
  · have z := e3.p y
    rw [if_neg (by rw [y]; decide), if_neg (by rw [y]; decide), z.1]
    exact ⟨_, c', m', rfl, rfl, hi⟩
theorem q_positionY {t : Nat} {c m : St} (ht : t ≤ 511) (h : INV t c m) : AQ t (f_FL_positionY c) (m_positionY m) := by
  obtain ⟨na, cur, fl, ed, nm, Ra, hB, hA, hM⟩ := h
  have ra := hB.ra ht
  obtain ⟨v, c', m', e1, e2, e3, -⟩ := pos_lock ht hB hA hM (BsOK_all ra.1 (by have := hB.a20; omega)) rfl (by omega) ra.2
  have hi : INV (t + 1) c' m' := INV.up ⟨na, cur, fl, ed, nm, Ra, e3.B, e3.A, e3.M⟩
  unfold f_FL_positionY m_positionY
  rw [bd_e e1, bd_e e2, Jn_e, Jn_e]
  dsimp only
  rcases e3.v with y | y
  · rw [if_pos y, if_pos y]
    exact ⟨_, c', m', rfl, rfl, hi⟩
  · have z := e3.p y
    rw [if_neg (by rw [y]; decide), if_neg (by rw [y]; decide), z.2.1]
    exact ⟨_, c', m', rfl, rfl, hi⟩
theorem q_presentCourse {t : Nat} {c m : St} (ht : t ≤ 511) (h : INV t c m) : AQ t (f_FL_presentCourse c) (m_presentCourse m) := by
  obtain ⟨na, cur, fl, ed, nm, Ra, hB, hA, hM⟩ := h
  have ra := hB.ra ht
  obtain ⟨v, c', m', e1, e2, e3, -⟩ := pos_lock ht hB hA hM (BsOK_all ra.1 (by have := hB.a20; omega)) rfl (by omega) ra.2
  have hi : INV (t + 1) c' m' := INV.up ⟨na, cur, fl, ed, nm, Ra, e3.B, e3.A, e3.M⟩
  unfold f_FL_presentCourse m_presentCourse
  rw [bd_e e1, bd_e e2, Jn_e, Jn_e]
  dsimp only
  rcases e3.v with y | y
  · rw [if_pos y, if_pos y]
    exact ⟨_, c', m', rfl, rfl, hi⟩
  · have z := e3.p y
    rw [if_neg (by rw [y]; decide), if_neg (by rw [y]; decide), z.2.2.1]
    exact ⟨_, c', m', rfl, rfl, hi⟩

theorem q_currentLeg {t : Nat} {c m : St} (h : INV t c m) : ∃ v, f_FL_currentLeg c = some v ∧ m_currentLeg m = some v := by
  obtain ⟨na, cur, fl, ed, nm, Ra, hB, hA, hM⟩ := h
  have hcm : m_count m 0 = some (m 1 0) := mcount (P := 0) (by decide)
  unfold f_FL_currentLeg m_currentLeg
  rw [Jn_e, hB.A.cc, bd_e hcm, hB.A.cm, Jn_e]
  split
  · exact ⟨_, rfl, rfl⟩
  · rw [Gd_t (show Ix (1 : Int32) 2673 from Ix_n (i := 1) (n := 2673) (by decide) (by decide)), hB.ac.1]
    have : m 1 (Int32.toNatClampNeg (1 : Int32)) = nI cur := hB.ac.2.1
    rw [this]
    exact ⟨_, rfl, rfl⟩
theorem q_flownLength {t : Nat} {c m : St} (h : INV t c m) : ∃ v, f_FL_flownLength c = some v ∧ m_flownLength m = some v := by
  obtain ⟨na, cur, fl, ed, nm, Ra, hB, hA, hM⟩ := h
  have hcm : m_count m 0 = some (m 1 0) := mcount (P := 0) (by decide)
  unfold f_FL_flownLength m_flownLength
  rw [Jn_e, hB.A.cc, bd_e hcm, hB.A.cm, Jn_e, hB.f.1, hB.f.2.1]
  split
  · exact ⟨_, rfl, rfl⟩
  · exact ⟨_, rfl, rfl⟩
theorem sp_le {cur fl fl' : Nat} (h : fl' ≤ fl) : sp cur fl' ≤ sp cur fl := by
  unfold sp
  by_cases a : cur = 0 ∧ fl = 0
  · rw [if_pos ⟨a.1, by omega⟩, if_pos a]; exact Int.le_refl _
  · rw [if_neg a]
    split <;> decide
theorem MP.cut {t : Nat} {c m : St} {q P n cu rs cur fl fl' : Nat} {R : Int} (h : MP t c m q P n cu rs R cur fl) (hf : fl' ≤ fl) : MP t c m q P n cu rs R cur fl' := by
  obtain ⟨a1, a2, a3, a4, a5, a6, a7, a8⟩ := h
  have := sp_le (cur := cur) hf
  exact ⟨a1, a2, a3, a4, a5, a6, a7, fun e => ⟨(a8 e).1, by have := (a8 e).2; omega⟩⟩
/-- the invariant but for the flown length's bound -/
def IBn (t : Nat) (c m : St) (na cur fl ed nm : Nat) (Ra : Int) : Prop := (0 < na → ∃ m1, Pth c 8 0 na m1 ∧ (fl : Int) ≤ (m1 37 cur).toInt) → IB t c m na cur fl ed nm Ra
/-- IB's facts but the last -/
theorem ib_of {t na cur fl ed nm : Nat} {Ra : Int} {c m : St} (hD : Dm c) (hK : RefK m) (hS : SetR c m)
  (hF : ∃ F : Nat, F ≤ 16 ∧ c 1 1 = nI F ∧ m 0 7 = nI F ∧ FB c 8 na ∧ ∀ f, f < F → c 3 (f * 2 + 0) = m 3 f ∧ c 3 (f * 2 + 1) = m 4 f ∧ -9999 ≤ (m 3 f).toInt ∧ (m 3 f).toInt ≤ 9999 ∧ -9999 ≤ (m 4 f).toInt ∧ (m 4 f).toInt ≤ 9999)
  (hL : ∃ L : Nat, L ≤ 200 ∧ L ≤ t ∧ c 4 3 = nI L ∧ m 0 68 = nI L ∧ ∀ k, k < L → c 5 k = m 41 k ∧ 0 ≤ (c 5 k).toInt ∧ (c 5 k).toInt ≤ 255)
  (hA : PlanR c m 8 0 Ra na) (a20 : na ≤ 20) (ac : c 8 2 = nI cur ∧ m 1 1 = nI cur ∧ c 8 3 = 0) (an : (na = 0 → cur = 0 ∧ fl = 0) ∧ (0 < na → cur < na ∧ 3 ≤ t)) (ab : 14200 ≤ Ra ∧ Ra + 11460 * (zp c 8 na + sp cur fl) ≤ 14200 + 11460 * (t : Int))
  (hE : ed ≤ 1 ∧ c 0 10 = nI ed ∧ m 0 1 = nI ed ∧ (ed = 1 → 2 ≤ t))
  (hM : ed = 1 → ∃ (cu rs : Nat) (R : Int), c 11 1 = nI nm ∧ m 1 297 = nI nm ∧ c 11 2 = nI cu ∧ m 1 298 = nI cu ∧ c 11 3 = nI rs ∧ m 1 299 = nI rs ∧ MP t c m 11 297 nm cu rs R cur fl)
  (hH : ∃ sz nx : Nat, (sz ≤ 6 ∧ (ed = 0 → sz = 0)) ∧ nx < 6 ∧ c 47 3 = nI sz ∧ m 0 2 = nI sz ∧ c 47 2 = nI nx ∧ ∀ j, j < sz → HE t c m cur fl ((nx + 6 - sz + j) % 6) j)
  (hf : c 52 2 = nI fl ∧ m 0 4 = nI fl ∧ fl ≤ 800000000) (FL : 0 < na → ∃ m1, Pth c 8 0 na m1 ∧ (fl : Int) ≤ (m1 37 cur).toInt) : IB t c m na cur fl ed nm Ra := ⟨hD, hK, hS, hF, hL, hA, a20, ac, an, ab, hE, hM, hH, hf, FL⟩
theorem HE.cut {t : Nat} {c m : St} {cur fl fl' s j : Nat} (h : HE t c m cur fl s j) (hf : fl' ≤ fl) : HE t c m cur fl' s j := by
  obtain ⟨e, a1, a2, a3, a4⟩ := h
  refine ⟨e, a1, a2, a3, fun q => ?_⟩
  obtain ⟨n, cu, rs, R, b1, b2, b3, b4, b5, b6, b7⟩ := a4 q
  exact ⟨n, cu, rs, R, b1, b2, b3, b4, b5, b6, b7.cut hf⟩
/-- behind a setting, or behind execute: c is what the class holds, m what the reference holds -/
theorem after_lock {t na cur fl ed nm : Nat} {Ra : Int} {c m : St} (ht : t ≤ 512) (hD : Dm c) (hK : RefK m) (hS : SetR c m)
  (hF : ∃ F : Nat, F ≤ 16 ∧ c 1 1 = nI F ∧ m 0 7 = nI F ∧ FB c 8 na ∧ ∀ f, f < F → c 3 (f * 2 + 0) = m 3 f ∧ c 3 (f * 2 + 1) = m 4 f ∧ -9999 ≤ (m 3 f).toInt ∧ (m 3 f).toInt ≤ 9999 ∧ -9999 ≤ (m 4 f).toInt ∧ (m 4 f).toInt ≤ 9999)
  (hL : ∃ L : Nat, L ≤ 200 ∧ L ≤ t ∧ c 4 3 = nI L ∧ m 0 68 = nI L ∧ ∀ k, k < L → c 5 k = m 41 k ∧ 0 ≤ (c 5 k).toInt ∧ (c 5 k).toInt ≤ 255)
  (hA : PlanR c m 8 0 Ra na) (a20 : na ≤ 20) (ac : c 8 2 = nI cur ∧ m 1 1 = nI cur ∧ c 8 3 = 0) (an : (na = 0 → cur = 0 ∧ fl = 0) ∧ (0 < na → cur < na ∧ 3 ≤ t)) (ab : 14200 ≤ Ra ∧ Ra + 11460 * (zp c 8 na + sp cur fl) ≤ 14200 + 11460 * (t : Int))
  (hE : ed ≤ 1 ∧ c 0 10 = nI ed ∧ m 0 1 = nI ed ∧ (ed = 1 → 2 ≤ t))
  (hM : ed = 1 → ∃ (cu rs : Nat) (R : Int), c 11 1 = nI nm ∧ m 1 297 = nI nm ∧ c 11 2 = nI cu ∧ m 1 298 = nI cu ∧ c 11 3 = nI rs ∧ m 1 299 = nI rs ∧ MP t c m 11 297 nm cu rs R cur fl)
  (hH : ∃ sz nx : Nat, (sz ≤ 6 ∧ (ed = 0 → sz = 0)) ∧ nx < 6 ∧ c 47 3 = nI sz ∧ m 0 2 = nI sz ∧ c 47 2 = nI nx ∧ ∀ j, j < sz → HE t c m cur fl ((nx + 6 - sz + j) % 6) j)
  (hf : c 52 2 = nI fl ∧ m 0 4 = nI fl ∧ fl ≤ 800000000) :
    ∃ c' m', f_FL_afterSetting c = some c' ∧ m_clamps m = some m' ∧ INV t c' m' ∧ c' 8 = c 8 ∧ m' 1 = m 1 := by
  have hI : PI 17 8 := Or.inl ⟨rfl, rfl⟩
  have zb := zp_b c 8 na
  have sb := sp_b cur fl
  obtain ⟨c1, ec1⟩ : ∃ c1, c1 = s2 (s2 c 17 5 (1 : Int32)) 27 5 (1 : Int32) := ⟨_, rfl⟩
  have o1 : ∀ a, a ≠ 17 → a ≠ 27 → c1 a = c a := fun a p1 p2 => by rw [ec1, s2_ne p2, s2_ne p1]
  have hD1 : Dm c1 := by rw [ec1]; exact (hD.s2 (by decide)).s2 (by decide)
  have hS1 : SetR c1 m := hS.of (o1 _ (by decide) (by decide)) (fun _ _ => rfl)
  have hA1 : PlanR c1 m 8 0 Ra na := hA.of (o1 _ (by decide) (by decide)) (o1 _ (by decide) (by decide)) (o1 _ (by decide) (by decide)) rfl rfl rfl
  have h27 : c1 27 5 = 1 := by rw [ec1, s2_at]
  have hst : ¬ c1 17 5 = 0 := by rw [ec1, s2_ne (by decide), s2_at]; decide
  have hBs : BsOK m 0 (fun _ => Ra) Ra (Ra + 49900) na := BsOK_all ab.1 (by omega)
  obtain ⟨c2, m2, e1, e2, e3, e4, e5, e6, -, e8⟩ := path_lock hI hD1 hK hS1 hA1 hBs (by omega) (by omega) hst
  have o2 : ∀ a, a < 17 ∨ 46 < a → c2 a = c a := fun a p => by rw [e5.fc a (by omega) (by omega) (by omega) (by omega) (by omega) (by omega), o1 a (by omega) (by omega)]
  have hD2 : Dm c2 := e5.Dm hI hD1
  have hcm : m_count m 0 = some (m 1 0) := mcount (P := 0) (by decide)
  -- both sides, given the new flown length
  have fin : ∀ (fl' : Nat) (m3 : St), fl' ≤ fl → (na = 0 → m3 = m) → (0 < na → m3 = s2 m2 0 4 (nI fl') ∧ (fl' : Int) ≤ (m2 37 cur).toInt) → m3 0 4 = nI fl' → INV t (s2 c2 52 2 (nI fl')) m3 := by
    intro fl' m3 hle h0 h1 h4
    obtain ⟨C, eC⟩ : ∃ C, C = s2 c2 52 2 (nI fl') := ⟨_, rfl⟩
    rw [← eC]
    have oC : ∀ a, a ≠ 52 → C a = c2 a := fun a p => by rw [eC, s2_ne p]
    have oCc : ∀ a, a < 17 ∨ 46 < a → a ≠ 52 → C a = c a := fun a p1 p2 => (oC a p2).trans (o2 a p1)
    have hDC : Dm C := by rw [eC]; exact hD2.s2 (by decide)
    have mo : ∀ a, a ≠ 0 → (a < 7 ∨ 40 < a) → m3 a = m a := fun a p1 p2 => by
      rcases (show na = 0 ∨ 0 < na by omega) with n0 | n0
      · rw [h0 n0]
      · rw [(h1 n0).1, s2_ne p1]; exact e5.fm a p1 p2
    have m0 : ∀ k, (k < 30 ∨ 66 < k) → k ≠ 4 → m3 0 k = m 0 k := fun k p1 p2 => by
      rcases (show na = 0 ∨ 0 < na by omega) with n0 | n0
      · rw [h0 n0]
      · rw [(h1 n0).1, s2_k p2]; exact e5.f0 k (by omega)
    have c1' := oCc 1 (by decide) (by decide)
    have mm1 := mo 1 (by decide) (by decide)
    have mm3 := mo 3 (by decide) (by decide)
    have mm4 := mo 4 (by decide) (by decide)
    have sle := sp_le (cur := cur) hle
    have hPt : 0 < na → Pth C 8 0 na m2 := fun _ => Pth.of ⟨m, _, Ra, _, hK, hS1, hA1, hBs, by omega, by omega, e2⟩ (by rw [c1', o1 1 (by decide) (by decide)]) (by rw [oCc 8 (by decide) (by decide), o1 8 (by decide) (by decide)]) (by rw [oCc 10 (by decide) (by decide), o1 10 (by decide) (by decide)])
    refine ⟨na, cur, fl', ed, nm, Ra, ib_of hDC (hK.of (mo _ (by decide) (by decide)) (mo _ (by decide) (by decide)) (mo _ (by decide) (by decide))) ?_ ?_ ?_ (hA.of (oCc _ (by decide) (by decide)) (oCc _ (by decide) (by decide)) c1' mm1 mm3 mm4) a20 ?_ ⟨fun q => ⟨(an.1 q).1, by have := (an.1 q).2; omega⟩, an.2⟩ ?_ ?_ ?_ ?_ ⟨by rw [eC, s2_at], h4, by omega⟩ (fun n0 => ⟨m2, hPt n0, (h1 n0).2⟩), fun _ => ?_, fun q p => ?_⟩
    · unfold SetR at *
      rw [c1', m0 8 (by decide) (by decide), m0 9 (by decide) (by decide), m0 10 (by decide) (by decide), m0 11 (by decide) (by decide), m0 12 (by decide) (by decide), m0 13 (by decide) (by decide), m0 14 (by decide) (by decide), m0 15 (by decide) (by decide), m0 16 (by decide) (by decide)]
      exact hS
    · unfold FB at *; rw [c1', oCc 3 (by decide) (by decide), oCc 10 (by decide) (by decide), m0 7 (by decide) (by decide), mm3, mm4]; exact hF
    · rw [oCc 4 (by decide) (by decide), oCc 5 (by decide) (by decide), m0 68 (by decide) (by decide), mo 41 (by decide) (by decide)]; exact hL
    · rw [oCc 8 (by decide) (by decide), mm1]; exact ac
    · refine ⟨ab.1, ?_⟩
      have hz : zp C 8 na = zp c 8 na := by unfold zp; rw [oCc 10 (by decide) (by decide)]
      rw [hz]
      have := ab.2
      omega
    · rw [oCc 0 (by decide) (by decide), m0 1 (by decide) (by decide)]; exact hE
    · intro q
      obtain ⟨cu, rs, R, b1, b2, b3, b4, b5, b6, b7⟩ := hM q
      exact ⟨cu, rs, R, by rw [oCc 11 (by decide) (by decide)]; exact b1, by rw [mm1]; exact b2, by rw [oCc 11 (by decide) (by decide)]; exact b3, by rw [mm1]; exact b4, by rw [oCc 11 (by decide) (by decide)]; exact b5, by rw [mm1]; exact b6, (b7.cut hle).of (oCc _ (by decide) (by decide)) (by rw [c1']) mm1 mm3 mm4⟩
    · obtain ⟨sz, nx, b1, b2, b3, b4, b5, b6⟩ := hH
      exact ⟨sz, nx, b1, b2, by rw [oCc 47 (by decide) (by decide)]; exact b3, by rw [m0 2 (by decide) (by decide)]; exact b4, by rw [oCc 47 (by decide) (by decide)]; exact b5, fun j hj => ((b6 j hj).cut hle).of (oCc _ (by decide) (by decide)) (oCc _ (by decide) (by decide)) c1' mm1 (mo _ (by decide) (by decide)) mm3 mm4⟩
    · refine ⟨m2, ?_, e3.of (oC _ (by decide)) (by rw [oC _ (by decide)]) (oC _ (by decide))⟩
      exact Pth.of ⟨m, _, Ra, _, hK, hS1, hA1, hBs, by omega, by omega, e2⟩ (by rw [c1', o1 1 (by decide) (by decide)]) (by rw [oCc 8 (by decide) (by decide), o1 8 (by decide) (by decide)]) (by rw [oCc 10 (by decide) (by decide), o1 10 (by decide) (by decide)])
    · rw [oC 27 (by decide), e5.fc 27 (by decide) (by decide) (by decide) (by decide) (by decide) (by decide), h27] at p
      exact absurd p (by decide)
  have hcut : ∀ L : Int32, c2 19 (cur * 16 + 9) = L → f_FL_afterSetting c = some (s2 c2 52 2 (imin (nI fl) L)) := fun L hL => by
    unfold f_FL_afterSetting
    rw [Lt_e, Lt_e, ← ec1, bd_e e1]
    have hc21 : cur < 21 := by
      rcases (show na = 0 ∨ 0 < na by omega) with n0 | n0
      · have := (an.1 n0).1; omega
      · have := (an.2 n0).1; omega
    have : f_Pg_cutToLeg c2 52 = some (s2 c2 52 2 (imin (nI fl) L)) := by
      unfold f_Pg_cutToLeg
      rw [show rc 52 0 = 8 from rfl, show rc 52 1 = 17 from rfl, show rc 17 1 = 18 from rfl, o2 8 (by decide), ac.1, bd_e (lgg (b := 17) hI hD2 hc21 (by decide)), show c2 (17 + 2) (cur * 16 + 9) = L from hL, Lt_e, o2 52 (by decide), hf.1]
    rw [bd_e this]
  rcases (show na = 0 ∨ 0 < na by omega) with n0 | n0
  · obtain ⟨q1, q2⟩ := an.1 n0
    have hl : c2 19 (cur * 16 + 9) = 0 := e8 cur (by omega) (by omega)
    refine ⟨_, m, hcut 0 hl, ?_, ?_, by rw [s2_ne (by decide), o2 8 (by decide)], rfl⟩
    · unfold m_clamps
      rw [bd_e hcm, Jn_e, hA.cm, n0, if_pos (by decide)]
    · rw [q2]
      exact fin 0 m (by omega) (fun _ => rfl) (fun h => by omega) (by rw [hf.2.1, q2])
  · obtain ⟨hcur, -⟩ := an.2 n0
    have hl : c2 19 (cur * 16 + 9) = m2 37 cur := e3.lg cur 9 hcur (by decide)
    have lb := e4.lb cur hcur
    have efl : (nI fl).toInt = (fl : Int) := nI_toInt (by have := hf.2.2; omega)
    obtain ⟨fl', ef, hle, hle2⟩ : ∃ fl' : Nat, imin (nI fl) (m2 37 cur) = nI fl' ∧ fl' ≤ fl ∧ (fl' : Int) ≤ (m2 37 cur).toInt := by
      have hb := imin_b (a := nI fl) (b := m2 37 cur)
      have h0 : 0 ≤ (imin (nI fl) (m2 37 cur)).toInt := imin_r (by omega) (by omega)
      refine ⟨(imin (nI fl) (m2 37 cur)).toInt.toNat, i2 ?_, by omega, by omega⟩
      rw [nI_toInt (by have := hf.2.2; omega)]
      omega
    have hc := hcut _ hl
    rw [ef] at hc
    have e2' : m_lays m 0 = some m2 := e2
    have cur1 : m2 1 (Int32.toNatClampNeg (1 : Int32)) = nI cur := by
      rw [e5.fm 1 (by decide) (by decide)]; exact ac.2.1
    refine ⟨_, s2 m2 0 4 (nI fl'), hc, ?_, fin fl' _ hle (fun h => by omega) (fun _ => ⟨rfl, hle2⟩) s2_at, by rw [s2_ne (by decide), o2 8 (by decide)], by rw [s2_ne (by decide)]; exact e5.fm 1 (by decide) (by decide)⟩
    unfold m_clamps
    rw [bd_e hcm, Jn_e, hA.cm, if_neg (nI_nle n0 (by omega)), bd_e e2', Gd_t (show Ix (1 : Int32) 2673 from Ix_n (i := 1) (n := 2673) (by decide) (by decide)), cur1, Gd_t (Ix_n (show cur < 21 by omega) (by decide)), nI_clamp (by omega), e5.f0 4 (by decide), hf.2.1, bd_e (lesser_e _ _), ef, Lt_e]
