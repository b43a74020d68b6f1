/-! a path that is kept: refreshed, or as it was -/

theorem FR.Dm {c m c' m' : St} {b q : Nat} (hI : PI b q) (h : FR c m c' m' b) (hD : Dm c) : Dm c' := by
  have nt := hI.nt
  refine hD.of (fun t k ht => ?_)
  rw [h.fc t (fun e => by rw [e, nt.1] at ht; cases ht) (fun e => by rw [e, nt.2.1] at ht; cases ht) (fun e => by rw [e, nt.2.2.1] at ht; cases ht) (fun e => by rw [e, nt.2.2.2.1] at ht; cases ht) (fun e => by rw [e, nt.2.2.2.2.1] at ht; cases ht) (fun e => by rw [e, nt.2.2.2.2.2.1] at ht; cases ht)]
/-- a reference's state behind its layout of the plan that the class has at q, with the settings that the class has -/
def Pth (c : St) (q P n : Nat) (m' : St) : Prop := ∃ (m1 : St) (Bs : Nat → Int) (R0 R : Int), RefK m1 ∧ SetR c m1 ∧ PlanR c m1 q P R0 n ∧ BsOK m1 P Bs R0 R n ∧ 14200 ≤ R ∧ R ≤ 5940000 ∧ m_lays m1 (nI P) = some m'
theorem Pth.of {c c' m' : St} {q P n : Nat} (h : Pth c q P n m') (h1 : c' 1 = c 1) (h2 : c' q = c q) (h3 : c' (q + 2) = c (q + 2)) : Pth c' q P n m' := by
  obtain ⟨m1, Bs, R0, R, a1, a2, a3, a4⟩ := h
  exact ⟨m1, Bs, R0, R, a1, a2.of h1 (fun _ _ => rfl), a3.of h2 h3 h1 rfl rfl rfl, a4⟩
theorem Pth.of1 {c c' m' : St} {q P n : Nat} (h : Pth c q P n m') (h1 : ∀ k, 2 ≤ k → c' 1 k = c 1 k) (h2 : c' q = c q) (h3 : c' (q + 2) = c (q + 2)) : Pth c' q P n m' := by
  obtain ⟨m1, Bs, R0, R, a1, a2, a3, a4⟩ := h
  exact ⟨m1, Bs, R0, R, a1, a2.of1 h1 (fun _ _ _ => rfl), a3.of1 h2 h3 rfl rfl rfl, a4⟩
def VE (m1 m2 : St) (P n : Nat) : Prop := (∀ i l, i < n → l < 16 → Wc m1 P i l = Wc m2 P i l) ∧ m1 0 57 = m2 0 57 ∧ ∀ k j, k < (m1 0 57).toNatClampNeg → j < 8 → m1 (29 + j) k = m2 (29 + j) k
theorem Pth.det {c m1 m2 : St} {b q P n : Nat} (hI : PI b q) (hD : Dm c) (h1 : Pth c q P n m1) (h2 : Pth c q P n m2) : VE m1 m2 P n := by
  have hlt := hI.lt
  have nt := hI.nt
  have n1 : ∀ a, a ≠ b → s2 c b 5 (1 : Int32) a = c a := fun a p => s2_ne p
  have h1 := h1.of (c' := s2 c b 5 1) (n1 _ (by omega)) (n1 _ (by omega)) (n1 _ (by omega))
  have h2 := h2.of (c' := s2 c b 5 1) (n1 _ (by omega)) (n1 _ (by omega)) (n1 _ (by omega))
  obtain ⟨x1, Bs1, R01, R1, a1, a2, a3, a4, a5, a6, a7⟩ := h1
  obtain ⟨x2, Bs2, R02, R2, b1, b2, b3, b4, b5, b6, b7⟩ := h2
  have hst : ¬ s2 c b 5 (1 : Int32) b 5 = 0 := by rw [s2_at]; decide
  obtain ⟨c1, y1, p1, p2, p3, -⟩ := path_lock hI (hD.s2 nt.1) a1 a2 a3 a4 a5 a6 hst
  obtain ⟨c2, y2, q1, q2, q3, -⟩ := path_lock hI (hD.s2 nt.1) b1 b2 b3 b4 b5 b6 hst
  rw [p1] at q1
  cases q1
  rw [a7] at p2
  cases p2
  rw [b7] at q2
  cases q2
  have e : m1 0 57 = m2 0 57 := by rw [← p3.pc, ← q3.pc]
  exact ⟨fun i l hi hl => by rw [← p3.lg i l hi hl, ← q3.lg i l hi hl], e, fun k j hk hj => by rw [← p3.pr k j hk hj, ← q3.pr k j (by rw [← e]; exact hk) hj]⟩
theorem VR.tr {c m1 m2 : St} {b P n : Nat} (h : VR c m1 b P n) (e : VE m1 m2 P n) : VR c m2 b P n :=
  ⟨fun i l hi hl => (h.lg i l hi hl).trans (e.1 i l hi hl), h.pc.trans e.2.1, fun k j hk hj => by
    have hk1 : k < (m1 0 57).toNatClampNeg := by rw [e.2.1]; exact hk
    exact (h.pr k j hk1 hj).trans (e.2.2 k j hk1 hj)⟩
theorem VR.of {c c' m : St} {b P n : Nat} (h : VR c m b P n) (h2 : c' (b + 2) = c (b + 2)) (h6 : c' (b + 6) 5 = c (b + 6) 5) (h8 : c' (b + 8) = c (b + 8)) : VR c' m b P n :=
  ⟨fun i l hi hl => by rw [h2]; exact h.lg i l hi hl, by rw [h6]; exact h.pc, fun k j hk hj => by rw [h8]; exact h.pr k j hk hj⟩
theorem refresh_lock {Bs : Nat → Int} {c m : St} {b q P n : Nat} {R0 R : Int} (hI : PI b q) (hD : Dm c) (hK : RefK m) (hS : SetR c m) (hP : PlanR c m q P R0 n) (hBs : BsOK m P Bs R0 R n) (hR14 : 14200 ≤ R) (hR : R ≤ 5940000) (hc : c b 5 = 0 → ∃ m1, Pth c q P n m1 ∧ VR c m1 b P n) :
    ∃ c' m', f_Pa_refresh c b = some c' ∧ m_lays m (nI P) = some m' ∧ VR c' m' b P n ∧ WF m' P R n ∧ FR c m c' m' b ∧ c' b 5 = 0 ∧ Pth c' q P n m' ∧ Dm c' ∧ (0 < n → m' 19 0 = 1 → Nb (Bs 0) (m' 20 0) (m' 21 0)) := by
  have hlt := hI.lt
  have nt := hI.nt
  have n1 : ∀ a, a ≠ b → s2 c b 5 (1 : Int32) a = c a := fun a p => s2_ne p
  by_cases hst : c b 5 = 0
  · have hst' : ¬ s2 c b 5 (1 : Int32) b 5 = 0 := by rw [s2_at]; decide
    obtain ⟨c1, m', p1, p2, p3, p4, p5, -, p7, -⟩ := path_lock (c := s2 c b 5 1) hI (hD.s2 nt.1) hK (hS.of (n1 _ (by omega)) (fun _ _ => rfl)) (hP.of (n1 _ (by omega)) (n1 _ (by omega)) (n1 _ (by omega)) rfl rfl rfl) hBs hR14 hR hst'
    have hPt : Pth c q P n m' := ⟨m, Bs, R0, R, hK, hS, hP, hBs, hR14, hR, p2⟩
    obtain ⟨m1, k1, k2⟩ := hc hst
    exact ⟨c, m', by rw [refresh_e, if_pos hst], p2, k2.tr (k1.det hI hD hPt), p4, ⟨fun _ _ _ _ _ _ _ => rfl, fun _ _ => rfl, p5.fm, p5.f0⟩, hst, hPt, hD, p7⟩
  · obtain ⟨c1, m', p1, p2, p3, p4, p5, p6, p7, -⟩ := path_lock hI hD hK hS hP hBs hR14 hR hst
    have hPt : Pth c q P n m' := ⟨m, Bs, R0, R, hK, hS, hP, hBs, hR14, hR, p2⟩
    exact ⟨c1, m', p1, p2, p3, p4, p5, p6, hPt.of (p5.fc _ (by omega) (by omega) (by omega) (by omega) (by omega) (by omega)) (p5.fc _ (by omega) (by omega) (by omega) (by omega) (by omega) (by omega)) (p5.fc _ (by omega) (by omega) (by omega) (by omega) (by omega) (by omega)), p5.Dm hI hD, p7⟩
