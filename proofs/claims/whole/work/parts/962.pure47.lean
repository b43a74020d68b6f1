/-! flying -/

theorem nI_min {a b : Nat} (ha : a < 2 ^ 31) (hb : b < 2 ^ 31) : imin (nI a) (nI b) = nI (min a b) := by
  unfold imin
  by_cases h : b < a
  · rw [if_pos (nI_lt h ha), Nat.min_eq_right (by omega)]
  · rw [if_neg (nI_nlt (by omega) hb), Nat.min_eq_left (by omega)]
def Fs (c c' : St) (cur fl : Nat) : Prop := (∀ a, a ≠ 8 → a ≠ 52 → c' a = c a) ∧ (∀ k, k ≠ 2 → c' 8 k = c 8 k) ∧ c' 8 2 = nI cur ∧ c' 52 2 = nI fl
def Fm (m m' : St) (cur fl : Nat) : Prop := (∀ a, a ≠ 0 → a ≠ 1 → m' a = m a) ∧ (∀ k, k ≠ 1 → m' 1 k = m 1 k) ∧ (∀ k, k ≠ 4 → m' 0 k = m 0 k) ∧ m' 1 1 = nI cur ∧ m' 0 4 = nI fl
theorem Fs.Dm {c c' : St} {cur fl : Nat} (h : Fs c c' cur fl) (hD : Dm c) : Dm c' := hD.of (fun t k ht => by
  rw [h.1 t (by rintro rfl; exact absurd ht (by decide)) (by rintro rfl; exact absurd ht (by decide))])
theorem Fs.f {c c' : St} {cur fl fl' : Nat} (h : Fs c c' cur fl) : Fs c (s2 c' 52 2 (nI fl')) cur fl' :=
  ⟨fun a p q => by rw [s2_ne q]; exact h.1 a p q, fun k p => by rw [s2_ne (by decide)]; exact h.2.1 k p, by rw [s2_ne (by decide)]; exact h.2.2.1, s2_at⟩
theorem Fs.n {c c' : St} {cur cur' fl : Nat} (h : Fs c c' cur fl) : Fs c (s2 (s2 c' 8 2 (nI cur')) 52 2 (0 : Int32)) cur' 0 :=
  ⟨fun a p q => by rw [s2_ne q, s2_ne p]; exact h.1 a p q, fun k p => by rw [s2_ne (by decide), s2_k p]; exact h.2.1 k p, by rw [s2_ne (by decide), s2_at], s2_at⟩
theorem Fm.f {m m' : St} {cur fl fl' : Nat} (h : Fm m m' cur fl) : Fm m (s2 m' 0 4 (nI fl')) cur fl' :=
  ⟨fun a p q => by rw [s2_ne p]; exact h.1 a p q, fun k p => by rw [s2_ne (by decide)]; exact h.2.1 k p, fun k p => by rw [s2_k p]; exact h.2.2.1 k p, by rw [s2_ne (by decide)]; exact h.2.2.2.1, s2_at⟩
theorem Fm.n {m m' : St} {cur cur' fl : Nat} (h : Fm m m' cur fl) : Fm m (s2 (s2 m' 1 1 (nI cur')) 0 4 (0 : Int32)) cur' 0 :=
  ⟨fun a p q => by rw [s2_ne p, s2_ne q]; exact h.1 a p q, fun k p => by rw [s2_ne (by decide), s2_k p]; exact h.2.1 k p, fun k p => by rw [s2_k p, s2_ne (by decide)]; exact h.2.2.1 k p, by rw [s2_ne (by decide), s2_at], s2_at⟩
theorem adv {c m : St} {na : Nat} {J3 J6 J7 : Int32 → St → Option (Int32 × St)} (hD : Dm c) (h20 : na ≤ 20) (h8 : c 8 1 = nI na) (hn : m 1 0 = nI na) (hL : ∀ i, i < na → c 19 (i * 16 + 9) = m 37 i ∧ ∃ L : Nat, L ≤ 800000000 ∧ m 37 i = nI L) (hG : ∀ i, i < na → c 19 (i * 16 + 0) = m 18 i ∧ (m 18 i = 0 ∨ m 18 i = 1)) (hJ : ∀ x σ, J6 x σ = J3 x σ) :
    ∀ (r cur fl d k n n' : Nat) (c1 m1 : St), r + cur + 1 = na → Fs c c1 cur fl → Fm m m1 cur fl → (fl : Int) ≤ (m 37 cur).toInt → d ≤ 2000 → k ≤ cur → r + 1 < n → r + 2 < n' →
    ∃ (d' cur' fl' : Nat) (c2 m2 : St), d' ≤ d ∧ cur' < na ∧ (fl' : Int) ≤ (m 37 cur').toInt ∧ fl' ≤ 800000000 ∧ Fs c c2 cur' fl' ∧ Fm m m2 cur' fl' ∧ lp (lb_f_Pg_advance_4 52 J3 J6) n (nI d, nI k, c1) = J3 (nI d') c2 ∧ lp (lb_m_fly_44 J7) n' (nI d, (1 : Int32), m1) = J7 (nI d') m2 := by
  have hI : PI 17 8 := Or.inl ⟨rfl, rfl⟩
  intro r
  induction r with
  | zero =>
    intro cur fl d k n n' c1 m1 hr F M hfl hd hk n1 n2
    obtain ⟨L, l1, l2⟩ := (hL cur (by omega)).2
    obtain ⟨y, ey⟩ : ∃ y, y = min d (L - fl) := ⟨_, rfl⟩
    rw [l2, nI_toInt (by omega)] at hfl
    have eL : c1 (17 + 2) (cur * 16 + 9) = nI L := by rw [F.1 19 (by decide) (by decide)]; exact (hL cur (by omega)).1.trans l2
    have k37 : ∀ (s : St) (g : Nat), Fm m s cur g → s 37 (Int32.toNatClampNeg (nI cur)) = nI L := fun s g h => by rw [nI_clamp (by omega), h.1 37 (by decide) (by decide), l2]
    have r1 : f_Pg_restOfLeg c1 52 = some (nI (L - fl)) := by
      unfold f_Pg_restOfLeg
      rw [show rc 52 0 = 8 from rfl, show rc 52 1 = 17 from rfl, show rc 17 1 = 18 from rfl, F.2.2.1, bd_e (lgg (b := 17) hI (F.Dm hD) (show cur < 21 by omega) (by decide)), eL, F.2.2.2, pk_sub (by omega)]
    have F2 : Fs c (s2 c1 52 2 (nI (fl + y))) cur (fl + y) := F.f
    have M2 : Fm m (s2 m1 0 4 (nI (fl + y))) cur (fl + y) := M.f
    obtain ⟨c2, ec2⟩ : ∃ c2, c2 = s2 c1 52 2 (nI (fl + y)) := ⟨_, rfl⟩
    obtain ⟨m2, em2⟩ : ∃ m2, m2 = s2 m1 0 4 (nI (fl + y)) := ⟨_, rfl⟩
    rw [← ec2] at F2
    rw [← em2] at M2
    have eL2 : c2 (17 + 2) (cur * 16 + 9) = nI L := by rw [F2.1 19 (by decide) (by decide)]; exact (hL cur (by omega)).1.trans l2
    have r2 : f_Pg_restOfLeg c2 52 = some (nI (L - (fl + y))) := by
      unfold f_Pg_restOfLeg
      rw [show rc 52 0 = 8 from rfl, show rc 52 1 = 17 from rfl, show rc 17 1 = 18 from rfl, F2.2.2.1, bd_e (lgg (b := 17) hI (F2.Dm hD) (show cur < 21 by omega) (by decide)), eL2, F2.2.2.2, pk_sub (by omega)]
    have hh : f_Pl_hasLeg c2 8 (nI (cur + 1)) = some 0 := by rw [hasLeg_c hI (show c2 8 1 = nI na by rw [F2.2.1 1 (by decide)]; exact h8) (by omega) (by omega), if_neg (by omega)]
    refine ⟨d - y, cur, fl + y, c2, m2, by omega, by omega, by rw [l2, nI_toInt (by omega)]; omega, by omega, F2, M2, ?_, ?_⟩
    · rw [lp_s (by omega)]
      generalize lp (lb_f_Pg_advance_4 52 J3 J6) (n - 1) = ih
      unfold lb_f_Pg_advance_4
      dsimp only
      rw [if_neg (show ¬ (20 : Int32) ≤ nI k from nI_ge (a := k) (b := 20) (by omega) (by decide)), bd_e r1, Lt_e, nI_min (by omega) (by omega), ← ey, F.2.2.2, nI_add, ← ec2, Lt_e, pk_sub (by omega), Lt_e, bd_e r2]
      split
      · rfl
      · rw [show rc 52 0 = 8 from rfl, F2.2.2.1, nI_1, bd_e hh, if_pos rfl]
    · have hcm : m_count m2 0 = some (m2 1 0) := mcount (P := 0) (by decide)
      have hc0 : m2 1 0 = nI na := by rw [M2.2.1 0 (by decide)]; exact hn
      have hlast : lp (lb_m_fly_44 J7) (n' - 1) (nI (d - y), (0 : Int32), m2) = J7 (nI (d - y)) m2 := by
        rw [lp_s (by omega)]
        unfold lb_m_fly_44
        dsimp only
        rw [if_pos rfl]
      rw [lp_s (by omega)]
      generalize lp (lb_m_fly_44 J7) (n' - 1) = ih at hlast ⊢
      unfold lb_m_fly_44
      dsimp only
      have c11 : m1 1 (Int32.toNatClampNeg (1 : Int32)) = nI cur := M.2.2.2.1
      rw [if_neg n10, Gd_t (show Ix (1 : Int32) 2673 from Ix_n (i := 1) (n := 2673) (by decide) (by decide)), Lt_e, c11, Gd_t (Ix_n (show cur < 21 by omega) (by decide)), k37 m1 _ M, M.2.2.2.2, pk_sub (by omega), bd_e (lesser_e _ _), nI_min (by omega) (by omega), ← ey, nI_add, ← em2, Lt_e, pk_sub (by omega), Lt_e, Gd_t (Ix_n (show cur < 21 by omega) (by decide)), Jn_e, Jn_e, M2.2.2.2.2, k37 m2 _ M2]
      split
      · rw [bd_e hcm, hc0, nI_1, if_pos (nI_le (by omega) (by omega))]
        dsimp only
        rw [Jn_e, if_pos rfl]
        exact hlast
      · dsimp only
        rw [Jn_e, if_pos rfl]
        exact hlast
  | succ r ih =>
    intro cur fl d k n n' c1 m1 hr F M hfl hd hk n1 n2
    obtain ⟨L, l1, l2⟩ := (hL cur (by omega)).2
    obtain ⟨y, ey⟩ : ∃ y, y = min d (L - fl) := ⟨_, rfl⟩
    rw [l2, nI_toInt (by omega)] at hfl
    have eL : c1 (17 + 2) (cur * 16 + 9) = nI L := by rw [F.1 19 (by decide) (by decide)]; exact (hL cur (by omega)).1.trans l2
    have k37 : ∀ (s : St) (g : Nat), Fm m s cur g → s 37 (Int32.toNatClampNeg (nI cur)) = nI L := fun s g h => by rw [nI_clamp (by omega), h.1 37 (by decide) (by decide), l2]
    have r1 : f_Pg_restOfLeg c1 52 = some (nI (L - fl)) := by
      unfold f_Pg_restOfLeg
      rw [show rc 52 0 = 8 from rfl, show rc 52 1 = 17 from rfl, show rc 17 1 = 18 from rfl, F.2.2.1, bd_e (lgg (b := 17) hI (F.Dm hD) (show cur < 21 by omega) (by decide)), eL, F.2.2.2, pk_sub (by omega)]
    have F2 : Fs c (s2 c1 52 2 (nI (fl + y))) cur (fl + y) := F.f
    have M2 : Fm m (s2 m1 0 4 (nI (fl + y))) cur (fl + y) := M.f
    obtain ⟨c2, ec2⟩ : ∃ c2, c2 = s2 c1 52 2 (nI (fl + y)) := ⟨_, rfl⟩
    obtain ⟨m2, em2⟩ : ∃ m2, m2 = s2 m1 0 4 (nI (fl + y)) := ⟨_, rfl⟩
    rw [← ec2] at F2
    rw [← em2] at M2
    have eL2 : c2 (17 + 2) (cur * 16 + 9) = nI L := by rw [F2.1 19 (by decide) (by decide)]; exact (hL cur (by omega)).1.trans l2
    have r2 : f_Pg_restOfLeg c2 52 = some (nI (L - (fl + y))) := by
      unfold f_Pg_restOfLeg
      rw [show rc 52 0 = 8 from rfl, show rc 52 1 = 17 from rfl, show rc 17 1 = 18 from rfl, F2.2.2.1, bd_e (lgg (b := 17) hI (F2.Dm hD) (show cur < 21 by omega) (by decide)), eL2, F2.2.2.2, pk_sub (by omega)]
    have hh : f_Pl_hasLeg c2 8 (nI (cur + 1)) = some 1 := by rw [hasLeg_c hI (show c2 8 1 = nI na by rw [F2.2.1 1 (by decide)]; exact h8) (by omega) (by omega), if_pos (by omega)]
    obtain ⟨g1, g2⟩ := hG (cur + 1) (by omega)
    have hg : f_Pa_gapBefore c2 17 (nI (cur + 1)) = some (m 18 (cur + 1)) := by
      rw [gapb_c (v := m 18 (cur + 1)) hI (F2.Dm hD) (by omega) (by rw [F2.1 19 (by decide) (by decide)]; exact g1) g2, if_neg (by omega)]
    have hcm : m_count m2 0 = some (m2 1 0) := mcount (P := 0) (by decide)
    have hc0 : m2 1 0 = nI na := by rw [M2.2.1 0 (by decide)]; exact hn
    have hlast : lp (lb_m_fly_44 J7) (n' - 1) (nI (d - y), (0 : Int32), m2) = J7 (nI (d - y)) m2 := by
      rw [lp_s (by omega)]
      unfold lb_m_fly_44
      dsimp only
      rw [if_pos rfl]
    have c11 : m1 1 (Int32.toNatClampNeg (1 : Int32)) = nI cur := M.2.2.2.1
    -- the class's step and the reference's, up to where they part
    have k18 : m2 18 (Int32.toNatClampNeg (nI (cur + 1))) = m 18 (cur + 1) := by rw [nI_clamp (by omega), M2.1 18 (by decide) (by decide)]
    have hC : lp (lb_f_Pg_advance_4 52 J3 J6) n (nI d, nI k, c1) = if (0 : Int32) < nI (L - (fl + y)) then J3 (nI (d - y)) c2 else if m 18 (cur + 1) = 0 then lp (lb_f_Pg_advance_4 52 J3 J6) (n - 1) (nI (d - y), nI (k + 1), s2 (s2 c2 8 2 (nI (cur + 1))) 52 2 (0 : Int32)) else J3 (nI (d - y)) c2 := by
      rw [lp_s (by omega)]
      generalize lp (lb_f_Pg_advance_4 52 J3 J6) (n - 1) = ih
      unfold lb_f_Pg_advance_4
      dsimp only
      rw [if_neg (show ¬ (20 : Int32) ≤ nI k from nI_ge (a := k) (b := 20) (by omega) (by decide)), bd_e r1, Lt_e, nI_min (by omega) (by omega), ← ey, F.2.2.2, nI_add, ← ec2, Lt_e, pk_sub (by omega), Lt_e, bd_e r2]
      split
      · rfl
      · rw [show rc 52 0 = 8 from rfl, show rc 52 1 = 17 from rfl, F2.2.2.1, nI_1, bd_e hh, if_neg n10, bd_e hg]
        split
        · unfold f_Pg_beginNextLeg
          rw [show rc 52 0 = 8 from rfl, F2.2.2.1, nI_1, Lt_e, Lt_e, Option.bind_some, Lt_e, nI_1]
        · exact hJ _ _
    have hM : lp (lb_m_fly_44 J7) n' (nI d, (1 : Int32), m1) = if nI (fl + y) = nI L then (if m 18 (cur + 1) = 0 then lp (lb_m_fly_44 J7) (n' - 1) (nI (d - y), (1 : Int32), s2 (s2 m2 1 1 (nI (cur + 1))) 0 4 (0 : Int32)) else J7 (nI (d - y)) m2) else J7 (nI (d - y)) m2 := by
      rw [lp_s (by omega)]
      generalize lp (lb_m_fly_44 J7) (n' - 1) = ih at hlast ⊢
      unfold lb_m_fly_44
      dsimp only
      rw [if_neg n10, Gd_t (show Ix (1 : Int32) 2673 from Ix_n (i := 1) (n := 2673) (by decide) (by decide)), Lt_e, c11, Gd_t (Ix_n (show cur < 21 by omega) (by decide)), k37 m1 _ M, M.2.2.2.2, pk_sub (by omega), bd_e (lesser_e _ _), nI_min (by omega) (by omega), ← ey, nI_add, ← em2, Lt_e, pk_sub (by omega), Lt_e, Gd_t (Ix_n (show cur < 21 by omega) (by decide)), Jn_e, Jn_e, M2.2.2.2.2, k37 m2 _ M2]
      split
      · rw [bd_e hcm, hc0, nI_1, if_neg (nI_ge (by omega) (by omega)), Gd_t (Ix_n (show cur + 1 < 21 by omega) (by decide)), k18]
        split
        · dsimp only
          rw [Jn_e, if_neg n10, Gd_t (show Ix (1 : Int32) 2673 from Ix_n (i := 1) (n := 2673) (by decide) (by decide)), Lt_e, Lt_e]
          rfl
        · dsimp only
          rw [Jn_e, if_pos rfl]
          exact hlast
      · dsimp only
        rw [Jn_e, if_pos rfl]
        exact hlast
    have hstop : d - y ≤ d ∧ cur < na ∧ ((fl + y : Nat) : Int) ≤ (m 37 cur).toInt ∧ fl + y ≤ 800000000 := ⟨by omega, by omega, by rw [l2, nI_toInt (by omega)]; omega, by omega⟩
    by_cases q : fl + y = L
    · rw [if_neg (show ¬ (0 : Int32) < nI (L - (fl + y)) from nI_nlt (a := 0) (b := L - (fl + y)) (by omega) (by omega))] at hC
      rw [if_pos (by rw [q])] at hM
      rcases g2 with z | z
      · rw [if_pos z] at hC hM
        obtain ⟨L', x1, x2⟩ := (hL (cur + 1) (by omega)).2
        obtain ⟨d', cur', fl', C, M', b1, b2, b3, b4, b5, b6, b7, b8⟩ := ih (cur + 1) 0 (d - y) (k + 1) (n - 1) (n' - 1) _ _ (by omega) (F2.n (cur' := cur + 1)) (M2.n (cur' := cur + 1)) (by rw [x2, nI_toInt (by omega)]; omega) (by omega) (by omega) (by omega) (by omega)
        exact ⟨d', cur', fl', C, M', by omega, b2, b3, b4, b5, b6, hC.trans b7, hM.trans b8⟩
      · rw [if_neg (by rw [z]; decide)] at hC hM
        exact ⟨d - y, cur, fl + y, c2, m2, hstop.1, hstop.2.1, hstop.2.2.1, hstop.2.2.2, F2, M2, hC, hM⟩
    · rw [if_pos (nI_p (by omega) (by omega))] at hC
      rw [if_neg (fun e => q ((nI_eq (by omega) (by omega)).mp e))] at hM
      exact ⟨d - y, cur, fl + y, c2, m2, hstop.1, hstop.2.1, hstop.2.2.1, hstop.2.2.2, F2, M2, hC, hM⟩
