/-! plans and legs that a call names -/

theorem n10 : ¬ (1 : Int32) = 0 := by decide
theorem p10 {m : St} : ¬ ((1 : Int32), m).1 = 0 := n10
theorem MP.up {t : Nat} {c m : St} {q P n cu rs cur fl : Nat} {R : Int} (h : MP t c m q P n cu rs R cur fl) : MP (t + 1) c m q P n cu rs R cur fl := by
  obtain ⟨a1, a2, a3, a4, a5, a6, a7, a8⟩ := h
  exact ⟨a1, a2, a3, a4, a5, a6, fun e => ⟨(a7 e).1, by have := (a7 e).2; omega⟩, fun e => ⟨(a8 e).1, by have := (a8 e).2; omega⟩⟩
theorem HE.up {t : Nat} {c m : St} {cur fl s j : Nat} (h : HE t c m cur fl s j) : HE (t + 1) c m cur fl s j := by
  obtain ⟨e, a1, a2, a3, a4⟩ := h
  refine ⟨e, a1, a2, a3, fun q => ?_⟩
  obtain ⟨n, cu, rs, R, b1, b2, b3, b4, b5, b6, b7⟩ := a4 q
  exact ⟨n, cu, rs, R, b1, b2, b3, b4, b5, b6, b7.up⟩
theorem IB.up {t na cur fl ed nm : Nat} {Ra : Int} {c m : St} (h : IB t c m na cur fl ed nm Ra) : IB (t + 1) c m na cur fl ed nm Ra := by
  obtain ⟨d1, d2, d3, d4, d5, d6, d7, d8, d9, d10, d11, d12, d13, d14, d15⟩ := h
  obtain ⟨L, l1, l2, l3⟩ := d5
  obtain ⟨sz, nx, a1, a2, a3, a4, a5, a6⟩ := d13
  exact ⟨d1, d2, d3, d4, ⟨L, l1, by omega, l3⟩, d6, d7, d8, ⟨d9.1, fun q => ⟨(d9.2 q).1, by have := (d9.2 q).2; omega⟩⟩, ⟨d10.1, by have := d10.2; omega⟩, ⟨d11.1, d11.2.1, d11.2.2.1, fun q => by have := d11.2.2.2 q; omega⟩, fun q => by
    obtain ⟨cu, rs, R, b1, b2, b3, b4, b5, b6, b7⟩ := d12 q
    exact ⟨cu, rs, R, b1, b2, b3, b4, b5, b6, b7.up⟩, ⟨sz, nx, a1, a2, a3, a4, a5, fun j hj => (a6 j hj).up⟩, d14, d15⟩
theorem INV.up {t : Nat} {c m : St} (h : INV t c m) : INV (t + 1) c m := by
  obtain ⟨na, cur, fl, ed, nm, Ra, h1, h2⟩ := h
  exact ⟨na, cur, fl, ed, nm, Ra, h1.up, h2⟩
theorem isPlan_c0 (c : St) : f_FL_isPlan c 0 = some 1 := by
  unfold f_FL_isPlan
  rw [Jn_e, Jn_e, if_pos rfl]
  exact Gd_t (by decide)
theorem isPlan_c1 {c : St} (h : ¬ c 0 10 = 0) : f_FL_isPlan c 1 = some 1 := by
  unfold f_FL_isPlan
  rw [Jn_e, Jn_e, if_neg (by decide), Jn_e, if_pos rfl, if_neg h]
  exact Gd_t (by decide)
theorem isPlan_cn {c : St} {p : Int32} (h0 : ¬ p = 0) (h : ¬ p = 1 ∨ c 0 10 = 0) : f_FL_isPlan c p = some 0 := by
  unfold f_FL_isPlan
  rw [Jn_e, Jn_e, if_neg h0, Jn_e]
  by_cases h1 : p = 1
  · rw [if_pos h1, if_pos (h.resolve_left (fun q => q h1))]
    exact Gd_t (by decide)
  · rw [if_neg h1]
    exact Gd_t (by decide)
theorem isPlan_m0 {m m' : St} (h : m_lays m (nI 0) = some m') : m_isPlan m 0 = some (1, m') := by
  have e : m_planOf 0 = some (nI 0) := by unfold m_planOf; rw [Jn_e, if_pos rfl]; rfl
  unfold m_isPlan
  rw [Jn_e, if_pos rfl, bd_e e, bd_e h]
theorem planOf_m1 : m_planOf 1 = some (nI 297) := by unfold m_planOf; rw [Jn_e, if_neg (by decide)]; rfl
theorem planOf_m0 : m_planOf 0 = some (nI 0) := by unfold m_planOf; rw [Jn_e, if_pos rfl]; rfl
theorem isPlan_m1 {m m' : St} (h1 : ¬ m 0 1 = 0) (h : m_lays m (nI 297) = some m') : m_isPlan m 1 = some (1, m') := by
  unfold m_isPlan
  rw [Jn_e, if_neg (by decide), Jn_e, if_pos rfl, if_neg h1, bd_e planOf_m1, bd_e h]
theorem isPlan_mn {m : St} {p : Int32} (h0 : ¬ p = 0) (h : ¬ p = 1 ∨ m 0 1 = 0) : m_isPlan m p = some (0, m) := by
  unfold m_isPlan
  rw [Jn_e, if_neg h0, Jn_e]
  by_cases h1 : p = 1
  · rw [if_pos h1, if_pos (h.resolve_left (fun q => q h1))]
  · rw [if_neg h1]
theorem planOf_c (c : St) (p : Int32) : f_FL_planOf c p = some (if p = 0 then 8 else 11) := by
  unfold f_FL_planOf
  rw [Jn_e]
  split <;> rfl
theorem pathOf_c (c : St) (p : Int32) : f_FL_pathOf c p = some (if p = 0 then 17 else 27) := by
  unfold f_FL_pathOf
  rw [Jn_e]
  split <;> rfl
theorem IB.mp {t na cur fl ed nm : Nat} {Ra : Int} {c m : St} (h : IB t c m na cur fl ed nm Ra) (he : ed = 1) : ∃ R : Int, PlanR c m 11 297 R nm ∧ 1 ≤ nm ∧ nm ≤ 20 ∧ 14200 ≤ R ∧ (t ≤ 511 → R + 49900 ≤ 5940000) := by
  obtain ⟨cu, rs, R, b1, b2, b3, b4, b5, b6, b7⟩ := h.M he
  exact ⟨R, ⟨by have := b7.2.1; omega, b1, b2, Or.inr (Or.inl rfl), b7.2.2.1⟩, b7.1, b7.2.1, b7.2.2.2.2.2.1, fun ht => (b7.rm ht).2⟩
/-- the active plan's path, laid out on both sides -/
theorem act_lock {t na cur fl ed nm : Nat} {Ra : Int} {c m : St} (ht : t ≤ 511) (hB : IB t c m na cur fl ed nm Ra) (hA : CA c na) (hM : CM c ed nm) {Bs : Nat → Int} {R : Int} (hBs : BsOK m 0 Bs Ra R na) (hR14 : 14200 ≤ R) (hR : R ≤ 5940000) :
    ∃ c' m', f_Pa_refresh c 17 = some c' ∧ m_lays m (nI 0) = some m' ∧ VR c' m' 17 0 na ∧ WF m' 0 R na ∧ FR c m c' m' 17 ∧ IB t c' m' na cur fl ed nm Ra ∧ CA c' na ∧ CM c' ed nm ∧ Pth c' 8 0 na m' ∧ (0 < na → m' 19 0 = 1 → Nb (Bs 0) (m' 20 0) (m' 21 0)) := by
  have hI : PI 17 8 := Or.inl ⟨rfl, rfl⟩
  obtain ⟨c', m', e1, e2, e3, e4, e5, e6, e7, e8, e9⟩ := refresh_lock hI hB.D hB.K hB.S hB.A hBs hR14 hR hA
  exact ⟨c', m', e1, e2, e3, e4, e5, e5.ib hI hB, fun _ => ⟨m', e7, e3⟩, hM.of (fun a p => e5.fc a (by omega) (by omega) (by omega) (by omega) (by omega) (by omega)), e7, e9⟩
theorem mod_lock {t na cur fl ed nm : Nat} {Ra : Int} {c m : St} (ht : t ≤ 511) (hB : IB t c m na cur fl ed nm Ra) (hA : CA c na) (hM : CM c ed nm) (he : ed = 1) :
    ∃ c' m' R, f_Pa_refresh c 27 = some c' ∧ m_lays m (nI 297) = some m' ∧ VR c' m' 27 297 nm ∧ WF m' 297 R nm ∧ FR c m c' m' 27 ∧ IB t c' m' na cur fl ed nm Ra ∧ CA c' na ∧ CM c' ed nm := by
  have hI : PI 27 11 := Or.inr (Or.inl ⟨rfl, rfl⟩)
  obtain ⟨R, hP, h1, h20, h14, hRR⟩ := hB.mp he
  obtain ⟨c', m', e1, e2, e3, e4, e5, e6, e7, e8⟩ := refresh_lock hI hB.D hB.K hB.S hP (BsOK_all h14 (by omega)) (by omega) (hRR ht) (hM he)
  exact ⟨c', m', _, e1, e2, e3, e4, e5, e5.ib hI hB, hA.of (fun a p => e5.fc a (by omega) (by omega) (by omega) (by omega) (by omega) (by omega)), fun _ _ => ⟨m', e7, e3⟩⟩
def AC (t : Nat) (c m : St) (p : Int32) (b q P n : Nat) (c' m' : St) (R : Int) : Prop :=
  (PI b q) ∧
  (P ≤ 2376) ∧
  (n ≤ 20) ∧
  (f_FL_isPlan c p = some 1) ∧
  (∀ σ, f_FL_planOf σ p = some q) ∧
  (∀ σ, f_FL_pathOf σ p = some b) ∧
  (m_planOf p = some (nI P)) ∧
  (m_isPlan m p = some (1, m')) ∧
  (f_Pa_refresh c b = some c') ∧
  (VR c' m' b P n) ∧
  (WF m' P R n) ∧
  (INV t c' m') ∧
  (INV t c m') ∧
  (Dm c) ∧
  (Dm c') ∧
  (SetR c' m') ∧
  (c q 1 = nI n) ∧
  (c' q 1 = nI n) ∧
  (m' 1 P = nI n) ∧
  (c' (q + 2) = c (q + 2)) ∧
  (∃ R0, ∀ i, i < n → LegR c' m' q P R0 i)
theorem AC.I {t : Nat} {c m : St} {p : Int32} {b q P n : Nat} {c' m' : St} {R : Int} (h : AC t c m p b q P n c' m' R) : PI b q := h.1
theorem AC.Pl {t : Nat} {c m : St} {p : Int32} {b q P n : Nat} {c' m' : St} {R : Int} (h : AC t c m p b q P n c' m' R) : P ≤ 2376 := h.2.1
theorem AC.n20 {t : Nat} {c m : St} {p : Int32} {b q P n : Nat} {c' m' : St} {R : Int} (h : AC t c m p b q P n c' m' R) : n ≤ 20 := h.2.2.1
theorem AC.pc {t : Nat} {c m : St} {p : Int32} {b q P n : Nat} {c' m' : St} {R : Int} (h : AC t c m p b q P n c' m' R) : f_FL_isPlan c p = some 1 := h.2.2.2.1
theorem AC.qc {t : Nat} {c m : St} {p : Int32} {b q P n : Nat} {c' m' : St} {R : Int} (h : AC t c m p b q P n c' m' R) : ∀ σ, f_FL_planOf σ p = some q := h.2.2.2.2.1
theorem AC.bc {t : Nat} {c m : St} {p : Int32} {b q P n : Nat} {c' m' : St} {R : Int} (h : AC t c m p b q P n c' m' R) : ∀ σ, f_FL_pathOf σ p = some b := h.2.2.2.2.2.1
theorem AC.Pm {t : Nat} {c m : St} {p : Int32} {b q P n : Nat} {c' m' : St} {R : Int} (h : AC t c m p b q P n c' m' R) : m_planOf p = some (nI P) := h.2.2.2.2.2.2.1
theorem AC.pm {t : Nat} {c m : St} {p : Int32} {b q P n : Nat} {c' m' : St} {R : Int} (h : AC t c m p b q P n c' m' R) : m_isPlan m p = some (1, m') := h.2.2.2.2.2.2.2.1
theorem AC.rf {t : Nat} {c m : St} {p : Int32} {b q P n : Nat} {c' m' : St} {R : Int} (h : AC t c m p b q P n c' m' R) : f_Pa_refresh c b = some c' := h.2.2.2.2.2.2.2.2.1
theorem AC.V {t : Nat} {c m : St} {p : Int32} {b q P n : Nat} {c' m' : St} {R : Int} (h : AC t c m p b q P n c' m' R) : VR c' m' b P n := h.2.2.2.2.2.2.2.2.2.1
theorem AC.W {t : Nat} {c m : St} {p : Int32} {b q P n : Nat} {c' m' : St} {R : Int} (h : AC t c m p b q P n c' m' R) : WF m' P R n := h.2.2.2.2.2.2.2.2.2.2.1
theorem AC.i1 {t : Nat} {c m : St} {p : Int32} {b q P n : Nat} {c' m' : St} {R : Int} (h : AC t c m p b q P n c' m' R) : INV t c' m' := h.2.2.2.2.2.2.2.2.2.2.2.1
theorem AC.i2 {t : Nat} {c m : St} {p : Int32} {b q P n : Nat} {c' m' : St} {R : Int} (h : AC t c m p b q P n c' m' R) : INV t c m' := h.2.2.2.2.2.2.2.2.2.2.2.2.1
theorem AC.D {t : Nat} {c m : St} {p : Int32} {b q P n : Nat} {c' m' : St} {R : Int} (h : AC t c m p b q P n c' m' R) : Dm c := h.2.2.2.2.2.2.2.2.2.2.2.2.2.1
theorem AC.D' {t : Nat} {c m : St} {p : Int32} {b q P n : Nat} {c' m' : St} {R : Int} (h : AC t c m p b q P n c' m' R) : Dm c' := h.2.2.2.2.2.2.2.2.2.2.2.2.2.2.1
theorem AC.S {t : Nat} {c m : St} {p : Int32} {b q P n : Nat} {c' m' : St} {R : Int} (h : AC t c m p b q P n c' m' R) : SetR c' m' := h.2.2.2.2.2.2.2.2.2.2.2.2.2.2.2.1
theorem AC.cq {t : Nat} {c m : St} {p : Int32} {b q P n : Nat} {c' m' : St} {R : Int} (h : AC t c m p b q P n c' m' R) : c q 1 = nI n := h.2.2.2.2.2.2.2.2.2.2.2.2.2.2.2.2.1
theorem AC.cq' {t : Nat} {c m : St} {p : Int32} {b q P n : Nat} {c' m' : St} {R : Int} (h : AC t c m p b q P n c' m' R) : c' q 1 = nI n := h.2.2.2.2.2.2.2.2.2.2.2.2.2.2.2.2.2.1
theorem AC.mq {t : Nat} {c m : St} {p : Int32} {b q P n : Nat} {c' m' : St} {R : Int} (h : AC t c m p b q P n c' m' R) : m' 1 P = nI n := h.2.2.2.2.2.2.2.2.2.2.2.2.2.2.2.2.2.2.1
theorem AC.fq {t : Nat} {c m : St} {p : Int32} {b q P n : Nat} {c' m' : St} {R : Int} (h : AC t c m p b q P n c' m' R) : c' (q + 2) = c (q + 2) := h.2.2.2.2.2.2.2.2.2.2.2.2.2.2.2.2.2.2.2.1
theorem AC.lg {t : Nat} {c m : St} {p : Int32} {b q P n : Nat} {c' m' : St} {R : Int} (h : AC t c m p b q P n c' m' R) : ∃ R0, ∀ i, i < n → LegR c' m' q P R0 i := h.2.2.2.2.2.2.2.2.2.2.2.2.2.2.2.2.2.2.2.2

theorem acc {t : Nat} {c m : St} (ht : t ≤ 511) (h : INV t c m) (p : Int32) : (f_FL_isPlan c p = some 0 ∧ m_isPlan m p = some (0, m)) ∨ ∃ (b q P n : Nat) (c' m' : St) (R : Int), AC t c m p b q P n c' m' R := by
  obtain ⟨na, cur, fl, ed, nm, Ra, hB, hA, hM⟩ := h
  obtain ⟨ed1, ec, em, -⟩ := hB.E
  have ra := hB.ra ht
  by_cases h0 : p = 0
  · right
    obtain ⟨c', m', e1, e2, e3, e4, e5, e6, e7, e8, -⟩ := act_lock ht hB hA hM (BsOK_all ra.1 (by have := hB.a20; omega)) (by omega) ra.2
    have hI : PI 17 8 := Or.inl ⟨rfl, rfl⟩
    subst h0
    refine ⟨17, 8, 0, na, c', m', _, hI, by decide, hB.a20, isPlan_c0 c, fun σ => ?_, fun σ => ?_, planOf_m0, isPlan_m0 e2, e1, e3, e4, ⟨na, cur, fl, ed, nm, Ra, e6, e7, e8⟩, ⟨na, cur, fl, ed, nm, Ra, hB.of hB.D (fun _ _ _ => rfl) rfl e5.fm (fun k q => e5.f0 k (by omega)), hA, hM⟩, hB.D, e6.D, e6.S, hB.A.cc, e6.A.cc, e6.A.cm, e5.fc _ (by decide) (by decide) (by decide) (by decide) (by decide) (by decide), Ra, e6.A.leg⟩
    · rw [planOf_c, if_pos rfl]
    · rw [pathOf_c, if_pos rfl]
  · by_cases h1 : p = 1 ∧ ed = 1
    · right
      obtain ⟨hp, he⟩ := h1
      obtain ⟨R0, hP, -, h20, -⟩ := hB.mp he
      obtain ⟨c', m', R, e1, e2, e3, e4, e5, e6, e7, e8⟩ := mod_lock ht hB hA hM he
      have hI : PI 27 11 := Or.inr (Or.inl ⟨rfl, rfl⟩)
      obtain ⟨R1, hP', -⟩ := e6.mp he
      subst hp
      refine ⟨27, 11, 297, nm, c', m', R, hI, by decide, h20, isPlan_c1 (by rw [ec, he]; decide), fun σ => ?_, fun σ => ?_, planOf_m1, isPlan_m1 (by rw [em, he]; decide) e2, e1, e3, e4, ⟨na, cur, fl, ed, nm, Ra, e6, e7, e8⟩, ⟨na, cur, fl, ed, nm, Ra, hB.of hB.D (fun _ _ _ => rfl) rfl e5.fm (fun k q => e5.f0 k (by omega)), hA, hM⟩, hB.D, e6.D, e6.S, hP.cc, hP'.cc, hP'.cm, e5.fc _ (by decide) (by decide) (by decide) (by decide) (by decide) (by decide), R1, hP'.leg⟩
      · rw [planOf_c, if_neg (by decide)]
      · rw [pathOf_c, if_neg (by decide)]
    · left
      have e0 : ¬ p = 1 ∨ ed = 0 := by
        by_cases q : p = 1
        · right
          rcases (show ed = 0 ∨ ed = 1 by omega) with e | e
          · exact e
          · exact absurd ⟨q, e⟩ h1
        · exact Or.inl q
      refine ⟨isPlan_cn h0 ?_, isPlan_mn h0 ?_⟩
      · rcases e0 with q | q
        · exact Or.inl q
        · exact Or.inr (by rw [ec, q]; rfl)
      · rcases e0 with q | q
        · exact Or.inl q
        · exact Or.inr (by rw [em, q]; rfl)
theorem lg_case (n : Nat) (hn : n ≤ 1000) (p : Int32) : (∃ i, i < n ∧ p = nI i) ∨ ¬ (0 ≤ p ∧ p < nI n) := by
  by_cases h : 0 ≤ p ∧ p < nI n
  · left
    have h1 := Int32.le_iff_toInt_le.mp h.1
    have h2 := Int32.lt_iff_toInt_lt.mp h.2
    rw [nI_toInt (by omega)] at h2
    rw [show (0 : Int32).toInt = 0 by decide] at h1
    exact ⟨p.toInt.toNat, by omega, i2 (by rw [nI_toInt (by omega)]; omega)⟩
  · exact Or.inr h
theorem hasLeg_n {c : St} {q n : Nat} {p : Int32} (hc : c q 1 = nI n) (h : ¬ (0 ≤ p ∧ p < nI n)) : f_Pl_hasLeg c q p = some 0 := by
  unfold f_Pl_hasLeg
  simp only [Jn_e]
  by_cases h0 : p < 0
  · rw [if_pos h0]
    exact Gd_t (by decide)
  · rw [if_neg h0, hc]
    have : nI n ≤ p := Int32.not_lt.mp (fun q => h ⟨Int32.not_lt.mp h0, q⟩)
    rw [if_pos this]
    exact Gd_t (by decide)
theorem isLeg_mc {m : St} {P n : Nat} (hP : P ≤ 2376) (hn : n ≤ 1000) (hc : m 1 P = nI n) (p : Int32) : (0 ≤ p ∧ p < nI n → m_isLeg m (nI P) p = some 1) ∧ (¬ (0 ≤ p ∧ p < nI n) → m_isLeg m (nI P) p = some 0) := by
  have k1 : (1 : Int32).toInt = 1 := by decide
  have e0 : (nI n).toInt = (n : Int) := nI_toInt (by omega)
  have en : (nI n - (1 : Int32)).toInt = (n : Int) - 1 := by rw [tI_sub (by omega) (by omega), e0, k1]
  have key : ((0 : Int64) ≤ p.toInt64 ∧ p.toInt64 ≤ (nI n - (1 : Int32)).toInt64) ↔ (0 ≤ p ∧ p < nI n) := by
    rw [Int64.le_iff_toInt_le, Int64.le_iff_toInt_le, tw, tw, en, Int32.le_iff_toInt_le, Int32.lt_iff_toInt_lt, nI_toInt (by omega), show (0 : Int64).toInt = 0 by decide, show (0 : Int32).toInt = 0 by decide]
    omega
  unfold m_isLeg
  rw [bd_e (mcount hP), hc, bd_e (in_e _ _ _)]
  constructor
  · intro h
    rw [decide_eq_true (key.mpr h)]
    exact Gd_t (by decide)
  · intro h
    rw [decide_eq_false (fun q => h (key.mp q))]
    exact Gd_t (by decide)
/-- a leg that a call names -/
theorem AC.leg {t : Nat} {c m c' m' : St} {p : Int32} {b q P n : Nat} {R : Int} (h : AC t c m p b q P n c' m' R) (p2 : Int32) : (f_FL_isLeg c p p2 = some 0 ∧ m_isLegOf m p p2 = some (0, m')) ∨ ∃ i, i < n ∧ p2 = nI i ∧ f_FL_isLeg c p p2 = some 1 ∧ m_isLegOf m p p2 = some (1, m') := by
  have hn := h.n20
  have hm := isLeg_mc (p := p2) h.Pl (show n ≤ 1000 by omega) h.mq
  rcases lg_case n (by omega) p2 with ⟨i, hi, e⟩ | e
  · right
    refine ⟨i, hi, e, ?_, ?_⟩
    · have hl : f_Pl_hasLeg c q p2 = some 1 := by rw [e, hasLeg_c h.I h.cq (by omega) (by omega), if_pos hi]
      unfold f_FL_isLeg
      rw [bd_e h.pc, Jn_e, Jn_e, if_neg (by decide), bd_e (h.qc c), bd_e hl, if_neg (by decide)]
      exact Gd_t (by decide)
    · unfold m_isLegOf
      rw [bd_e h.pm, Jn_e, Jn_e, if_neg p10, bd_e h.Pm, bd_e (hm.1 (by rw [e]; exact ⟨nI_pos' (by omega), nI_lt hi (by omega)⟩)), if_neg (by decide)]
      exact Gd_t (by decide)
  · left
    refine ⟨?_, ?_⟩
    · unfold f_FL_isLeg
      rw [bd_e h.pc, Jn_e, Jn_e, if_neg (by decide), bd_e (h.qc c), bd_e (hasLeg_n h.cq e), if_pos rfl]
      exact Gd_t (by decide)
    · unfold m_isLegOf
      rw [bd_e h.pm, Jn_e, Jn_e, if_neg p10, bd_e h.Pm, bd_e (hm.2 e), if_pos rfl]
      exact Gd_t (by decide)
theorem noleg {c m : St} {p p2 : Int32} (h1 : f_FL_isPlan c p = some 0) (h2 : m_isPlan m p = some (0, m)) : f_FL_isLeg c p p2 = some 0 ∧ m_isLegOf m p p2 = some (0, m) := by
  constructor
  · unfold f_FL_isLeg
    rw [bd_e h1, Jn_e, Jn_e, if_pos rfl]
    exact Gd_t (by decide)
  · unfold m_isLegOf
    rw [bd_e h2, Jn_e, Jn_e, if_pos rfl]
    exact Gd_t (by decide)
/-- a call's answers are the same, and the invariant holds behind it -/
def AQ (t : Nat) (x y : Option (Int32 × St)) : Prop := ∃ (v : Int32) (c' m' : St), x = some (v, c') ∧ y = some (v, m') ∧ INV (t + 1) c' m'
def AV (t : Nat) (c : St) (x : Option Int32) (y : Option (Int32 × St)) : Prop := ∃ (v : Int32) (m' : St), x = some v ∧ y = some (v, m') ∧ INV (t + 1) c m'
