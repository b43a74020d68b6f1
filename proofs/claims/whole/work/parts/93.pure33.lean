/-! the profile as a whole; the path as a whole -/

def altv (m : St) (j : Nat) : Int32 := imin (m 39 j) (m 40 j)
def vio (m : St) (P j : Nat) : Int32 := (if m 1 (P + 3 + 14 * j + 9) ≤ altv m j then 0 else 1) + (if (Int32.toInt64 ((if j = 0 then m 0 15 else altv m (j - 1)) - altv m j)) * (1000 : Int64) ≤ (Int32.toInt64 (m 37 j)) * (Int32.toInt64 (m 0 14)) then 0 else 2)
theorem alt_m {m : St} {j : Nat} (hj : j < 21) : m_altitudeOf m (nI j) = some (altv m j) := by
  unfold m_altitudeOf
  rw [Gd_t (Ix_n hj (by decide)), Gd_t (Ix_n hj (by decide)), nI_clamp (by omega), bd_e (lesser_e _ _)]
  rfl
theorem altb_m {m : St} {j : Nat} (hj : j < 21) : m_altitudeBefore m (nI j) = some (if j = 0 then m 0 15 else altv m (j - 1)) := by
  unfold m_altitudeBefore
  rw [Jn_e]
  by_cases h : j = 0
  · rw [if_pos (show nI j = 0 by rw [h]; rfl), if_pos h]
  · have e : nI j - (1 : Int32) = nI (j - 1) := pk_sub (a := j) (b := 1) (by omega)
    rw [if_neg (nI_ne0 (by omega) (by omega)), if_neg h, e, bd_e (alt_m (show j - 1 < 21 by omega))]
theorem vio_m {m : St} {P j : Nat} (hP : P ≤ 2376) (hj : j < 21) : m_violationOf m (nI P) (nI j) = some (vio m P j) := by
  unfold m_violationOf vio
  rw [bd_e (alt_m hj), bd_e (mof hP hj (by decide)), Jn_if, bd_e (altb_m hj), bd_e (alt_m hj), Lt_e, Gd_t (Ix_n hj (by decide)), Jn_if, nI_clamp (by omega)]
theorem ite_add2 (w : Int32) {C : Prop} {inst : Decidable C} : (@ite Int32 C inst w (w + 2)) = w + (@ite Int32 C inst 0 2) := by
  by_cases h : C
  · rw [if_pos h, if_pos h, Int32.add_zero]
  · rw [if_neg h, if_neg h]
theorem vio_c {c m : St} {b q P n j : Nat} {R0 : Int} (hI : PI b q) (hB : BS c m b q P R0 n) (hj : j < n) (h14 : c (b + 2) (j * 16 + 14) = altv m j) (hb : 0 < j → c (b + 2) ((j - 1) * 16 + 14) = altv m (j - 1)) : f_Pf_violationOf c (b + 9) (nI j) = some (vio m P j) := by
  have hn := hB.P.le
  have hj21 : j < 21 := by omega
  obtain ⟨lw, -, lwc, lwm⟩ := (hB.P.leg j hj).low
  have eb : (if j = 0 then c 1 9 else c (b + 2) ((j - 1) * 16 + 14)) = (if j = 0 then m 0 15 else altv m (j - 1)) := by
    by_cases h : j = 0
    · rw [if_pos h, if_pos h, hB.S.2.2.2.2.2.2.2.2.1.1]
    · rw [if_neg h, if_neg h, hb (by omega)]
  unfold f_Pf_violationOf vio
  rw [rc_b92 hI, rc_b91 hI, rc_b90 hI, rc_q0 hI, bd_e (lgg hI hB.D hj21 (by decide)), bd_e (hb_c hI hB.D hj21 (by decide)), Lt_e, bd_e (lgg hI hB.D hj21 (by decide)), Lt_e, bd_e (pg hI hB.D hj21 (by decide)), Jn_if, Jn_if, h14, eb, hB.ln j hj, ← hB.S.2.2.2.2.2.2.2.1.1, lwc, ← lwm]
  exact congrArg some (ite_add2 _)
def VI (c m c2 : St) (b P n i : Nat) : Prop :=
  (∀ a, a ≠ b + 2 → c a = c2 a) ∧
  (∀ j l, l < 14 → c (b + 2) (j * 16 + l) = c2 (b + 2) (j * 16 + l)) ∧
  (∀ j, j < i → c (b + 2) (j * 16 + 14) = altv m j ∧ c (b + 2) (j * 16 + 15) = vio m P j)
theorem VI.fc {c m c2 : St} {b P n i : Nat} (h : VI c m c2 b P n i) : ∀ a, a ≠ b + 2 → c a = c2 a := h.1
theorem VI.f2 {c m c2 : St} {b P n i : Nat} (h : VI c m c2 b P n i) : ∀ j l, l < 14 → c (b + 2) (j * 16 + l) = c2 (b + 2) (j * 16 + l) := h.2.1
theorem VI.vi {c m c2 : St} {b P n i : Nat} (h : VI c m c2 b P n i) : ∀ j, j < i → c (b + 2) (j * 16 + 14) = altv m j ∧ c (b + 2) (j * 16 + 15) = vio m P j := h.2.2

theorem vio_loop {c2 m : St} {b q P n : Nat} {R0 : Int} (hI : PI b q) (hB : BS c2 m b q P R0 n) (h12 : ∀ j, j < n → c2 (b + 2) (j * 16 + 12) = m 39 j) (h13 : ∀ j, j < n → c2 (b + 2) (j * 16 + 13) = m 40 j) (J : St → Option St) : ∀ (d i : Nat) (c : St) (g : Nat), i + d = n → d < g → VI c m c2 b P n i → ∃ c', lp (lb_f_Pf_calculate_51 (b + 9) J) g (nI i, c) = J c' ∧ VI c' m c2 b P n n := by
  have hn := hB.P.le
  have nt := hI.nt.2.1
  intro d
  induction d with
  | zero =>
    intro i c g hd hg h
    have e : i = n := by omega
    subst e
    have hb := hB.of (m' := m) hI h.fc (fun j => h.f2 j 9 (by decide)) (fun _ _ _ => rfl)
    refine ⟨c, ?_, h⟩
    rw [lp_s hg]
    show (if c (rc (b + 9) 0) 1 ≤ nI i then J c else _) = _
    rw [if_pos (by rw [rc_b90 hI, hb.P.cc]; exact Int32.le_refl _)]
  | succ d ih =>
    intro i c g hd hg h
    have hi : i < n := by omega
    have hi21 : i < 21 := by omega
    have hb := hB.of (m' := m) hI h.fc (fun j => h.f2 j 9 (by decide)) (fun _ _ _ => rfl)
    obtain ⟨C, eC⟩ : ∃ C, C = s2 c (b + 2) (i * 16 + 14) (altv m i) := ⟨_, rfl⟩
    have hbC : BS C m b q P R0 n := hb.of hI (fun a p => by rw [eC, s2_ne p]) (fun j => by rw [eC, s2_k (by omega)]) (fun _ _ _ => rfl)
    have hv := vio_c (j := i) hI hbC hi (by rw [eC, s2_at]) (fun p => by rw [eC, s2_k (by omega)]; exact (h.vi (i - 1) (by omega)).1)
    obtain ⟨c', q1, q2⟩ := ih (i + 1) (s2 C (b + 2) (i * 16 + 15) (vio m P i)) (g - 1) (by omega) (by omega) ⟨fun a p => by rw [s2_ne p, eC, s2_ne p]; exact h.fc a p, fun j l hl => by rw [s2_k (by omega), eC, s2_k (by omega)]; exact h.f2 j l hl, fun j hj => by
      by_cases e : j = i
      · rw [e, s2_at, s2_k (by omega), eC, s2_at]; exact ⟨rfl, rfl⟩
      · rw [s2_k (by omega), s2_k (by omega), eC, s2_k (by omega), s2_k (by omega)]; exact h.vi j (by omega)⟩
    refine ⟨c', ?_, q2⟩
    rw [lp_s (by omega)]
    show (if c (rc (b + 9) 0) 1 ≤ nI i then J c else Option.bind (f_Tb_get c (rc (b + 9) 2) (nI i) (12 : Int32)) fun x10 => Option.bind (f_Tb_get c (rc (b + 9) 2) (nI i) (13 : Int32)) fun x11 => Option.bind (f_Tb_put c (rc (b + 9) 2) (nI i) (14 : Int32) (imin x10 x11)) fun x12 => Option.bind (f_Pf_violationOf x12 (b + 9) (nI i)) fun x13 => Option.bind (f_Tb_put x12 (rc (b + 9) 2) (nI i) (15 : Int32) x13) fun x14 => Lt (nI i + (1 : Int32)) fun x15 => lp (lb_f_Pf_calculate_51 (b + 9) J) (g - 1) (x15, x14)) = _
    rw [if_neg (by rw [rc_b90 hI, hb.P.cc]; exact nI_ge hi (by omega)), rc_b92 hI, bd_e (lgg hI hb.D hi21 (by decide)), bd_e (lgg hI hb.D hi21 (by decide)), h.f2 i 12 (by decide), h.f2 i 13 (by decide), h12 i hi, h13 i hi, bd_e (lgp hI hb.D hi21 (by decide))]
    show Option.bind (f_Pf_violationOf (s2 c (b + 2) (i * 16 + 14) (altv m i)) (b + 9) (nI i)) _ = _
    rw [← eC, bd_e hv]
    show Option.bind (f_Tb_put (s2 c (b + 2) (i * 16 + 14) (altv m i)) (b + 1) (nI i) (15 : Int32) (vio m P i)) _ = _
    rw [← eC, bd_e (lgp hI hbC.D hi21 (by decide)), Lt_e, nI_1]
    exact q1
theorem prof_lock {c m : St} {b q P n : Nat} {R0 : Int} (hI : PI b q) (hB : BS c m b q P R0 n) :
    ∃ c' m', f_Pf_calculate c (b + 9) = some c' ∧ m_laysAltitudes m (nI P) = some m' ∧ (∀ a, a ≠ b + 2 → c' a = c a) ∧ (∀ j l, l < 12 → c' (b + 2) (j * 16 + l) = c (b + 2) (j * 16 + l)) ∧ (∀ a, a ≠ 39 → a ≠ 40 → m' a = m a) ∧ (∀ j, j < n → c' (b + 2) (j * 16 + 12) = m' 39 j ∧ c' (b + 2) (j * 16 + 13) = m' 40 j ∧ c' (b + 2) (j * 16 + 14) = altv m' j ∧ c' (b + 2) (j * 16 + 15) = vio m' P j) ∧ (∀ j, j < n → 0 ≤ (m' 39 j).toInt ∧ (m' 39 j).toInt ≤ 450 ∧ 0 ≤ (m' 40 j).toInt ∧ (m' 40 j).toInt ≤ 450) := by
  have hn := hB.P.le
  obtain ⟨K5, eK5⟩ : ∃ K5 : St → Option St, K5 = fun (σ4 : St) => Jn (fun (σ6 : St) => some σ6) fun J7 => lp (lb_f_Pf_calculate_51 (b + 9) J7) 4000 ((0 : Int32), σ4) := ⟨_, rfl⟩
  obtain ⟨K2, eK2⟩ : ∃ K2 : St → Option St, K2 = fun (σ1 : St) => Lt (((σ1 (rc (b + 9) 0) 1) - (1 : Int32)) : Int32) fun x3 => Jn K5 fun J5 => lp (lb_f_Pf_calculate_34 (b + 9) J5) 4000 (x3, σ1) := ⟨_, rfl⟩
  obtain ⟨M6, eM6⟩ : ∃ M6 : St → Option St, M6 = fun (σ5 : St) => some σ5 := ⟨_, rfl⟩
  obtain ⟨M3, eM3⟩ : ∃ M3 : St → Option St, M3 = fun (σ2 : St) => Lt ((nI n - (1 : Int32)) : Int32) fun x4 => Jn M6 fun J6 => lp (lb_m_laysAltitudes_84 (nI P) (nI n) J6) 4000 (x4, σ2) := ⟨_, rfl⟩
  obtain ⟨c1, m1, e1, e2, e3⟩ := climb_loop hI hB K2 M3 n 0 c m 4000 4000 (by omega) (by omega) (by omega) ⟨fun _ _ => rfl, fun _ _ _ => rfl, fun _ _ _ => rfl, fun j hj => absurd hj (by omega), fun j hj => absurd hj (by omega)⟩
  have hB1 := e3.bs hI hB
  obtain ⟨c2, m2, q1, q2, q3⟩ := desc_loop hI hB1 K5 M6 n c1 m1 4000 4000 (Nat.le_refl _) (by omega) (by omega) ⟨fun _ _ => rfl, fun _ _ _ => rfl, fun _ _ => rfl, fun j p1 p2 => by omega, fun j p1 p2 => by omega⟩
  have hB2 := q3.bs hI hB1
  have h12 : ∀ j, j < n → c2 (b + 2) (j * 16 + 12) = m2 39 j := fun j hj => by rw [q3.f2 j 12 (by decide), q3.fm 39 (by decide)]; exact e3.cl j hj
  have h13 : ∀ j, j < n → c2 (b + 2) (j * 16 + 13) = m2 40 j := fun j hj => q3.ds j (by omega) hj
  obtain ⟨c3, w1, w2⟩ := vio_loop (P := P) hI hB2 h12 h13 (fun (σ6 : St) => some σ6) n 0 c2 4000 (by omega) (by omega) ⟨fun _ _ => rfl, fun _ _ _ => rfl, fun j hj => absurd hj (by omega)⟩
  refine ⟨c3, m2, ?_, ?_, fun a p => by rw [w2.fc a p, q3.fc a p, e3.fc a p], fun j l hl => by rw [w2.f2 j l (by omega), q3.f2 j l (by omega), e3.f2 j l hl], fun a p1 p2 => by rw [q3.fm a p2, e3.fm a p1 p2], fun j hj => ⟨by rw [w2.f2 j 12 (by decide)]; exact h12 j hj, by rw [w2.f2 j 13 (by decide)]; exact h13 j hj, w2.vi j hj⟩, fun j hj => by
    rw [q3.fm 39 (by decide)]
    have a1 := e3.cb j hj
    have a2 := q3.db j (by omega) hj
    exact ⟨a1.1, a1.2, a2.1, a2.2⟩⟩
  · unfold f_Pf_calculate
    rw [← eK5, ← eK2, Jn_e]
    refine Eq.trans e1 ?_
    rw [eK2]
    dsimp only
    rw [Lt_e, Jn_e, rc_b90 hI, hB1.P.cc]
    refine Eq.trans q1 ?_
    rw [eK5]
    dsimp only
    rw [Jn_e]
    exact w1
  · unfold m_laysAltitudes
    rw [bd_e (mcount hB.P.Pl), hB.P.cm, ← eM6, ← eM3, Jn_e]
    refine Eq.trans e2 ?_
    rw [eM3]
    dsimp only
    rw [Lt_e, Jn_e]
    refine Eq.trans q2 ?_
    rw [eM6]
