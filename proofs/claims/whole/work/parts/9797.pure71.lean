/-! going direct: the class; both together -/

def ppc (x y k : Int32) : Nat → Int32 := fun j => if j = 0 then 8 else if j = 1 then -1000000 else if j = 2 then k else if j = 7 then x else if j = 8 then y else if j = 10 then 450 else if j = 11 then 999 else 0
theorem gd_c {c : St} {b o n i k : Nat} {px py pc : Int32} (hI : PI b o) (hD : Dm c) (hc : c o 1 = nI n) (hn : n ≤ 20) (hi : i < n) (hk : c (o + 2) (i * 14 + 0) = nI k) (hk9 : k < 9) : ∃ c2, f_Pl_goDirect c o (nI i) px py pc = some c2 ∧ Dm c2 ∧ (∀ a, a ≠ o → a ≠ o + 2 → c2 a = c a) ∧ c2 o 1 = nI (n - i + 1) ∧ c2 o 2 = 0 ∧ c2 o 3 = 1 ∧ (∀ j, j < 14 → c2 (o + 2) (0 * 14 + j) = ppc px py pc j) ∧ c2 (o + 2) (1 * 14 + 0) = (if k = 7 then nI 7 else 2) ∧ c2 (o + 2) (1 * 14 + 13) = 0 ∧ (∀ j, 1 ≤ j → j < 13 → c2 (o + 2) (1 * 14 + j) = c (o + 2) (i * 14 + j)) ∧ ∀ z, 14 ≤ z → z < (n - i) * 14 → c2 (o + 2) (1 * 14 + z) = c (o + 2) (i * 14 + z) := by
  have nt := hI.nt
  have nto : isTab o = false := nt.2.2.2.2.2.2.1
  have nto2 : isTab (o + 2) = false := nt.2.2.2.2.2.2.2
  have r0 := rc_q0 hI
  have r2 := rc_q12 hI
  have T := (hD.pl hI).1
  have ne1 : o + 2 ≠ o + 1 := by omega
  have neo : o ≠ o + 1 := by omega
  have noo : o ≠ o + 2 := by omega
  obtain ⟨X, eX⟩ : ∃ X, X = scp c (o + 2) (o + 2) (i * 14) (1 * 14) ((n - i) * 14) := ⟨_, rfl⟩
  have cp := Tb_copy (i := i) (j := 1) T T (show 0 < n - i by omega) (by omega) (by omega)
  rw [r2, ← eX] at cp
  have cp' : f_Tb_copyRows c (o + 1) (o + 1) (nI i) (1 : Int32) (nI (n - i)) = some X := cp
  have DX : Dm X := by rw [eX]; exact hD.scp nto2
  have Xx : ∀ a, a ≠ o + 2 → X a = c a := fun a p => by rw [eX, scp_ne p]
  have Xr : ∀ z, z < (n - i) * 14 → X (o + 2) (1 * 14 + z) = c (o + 2) (i * 14 + z) := fun z hz => by rw [eX]; exact scp_in hz
  obtain ⟨Y, eY⟩ : ∃ Y, Y = s2 X o 1 (nI (n - i + 1)) := ⟨_, rfl⟩
  have DY : Dm Y := by rw [eY]; exact DX.s2 nto
  have Yx : ∀ a, a ≠ o → Y a = X a := fun a p => by rw [eY, s2_ne p]
  obtain ⟨Z, z1, z2, z3, z4⟩ := plain_c (kd := 8) (i := 0) (DY.pl hI).1 r2 ne1 (by decide)
  have z1' : f_Pl_putPlainLeg Y (o + 1) (0 : Int32) (8 : Int32) = some Z := z1
  have DZ : Dm Z := DY.of (fun t j ht => by rw [z2 t (fun e => by rw [e, nto2] at ht; cases ht)])
  have st : ∀ (S : St) (r cc : Nat) (pr pcc v : Int32), Dm S → pr = nI r → pcc = nI cc → r < 21 → cc < 14 → f_Tb_put S (o + 1) pr pcc v = some (s2 S (o + 2) (r * 14 + cc) v) := fun S r cc pr pcc v h e1 e2 h1 h2 => by
    rw [← r2]
    exact Tb_put' (h.pl hI).1 e1 e2 h1 h2
  have ds : ∀ (S : St) (z : Nat) (v : Int32), Dm S → Dm (s2 S (o + 2) z v) := fun S z v h => h.s2 nto2
  obtain ⟨W, eW⟩ : ∃ W, W = s2 (s2 (s2 (s2 Z (o + 2) (0 * 14 + 7) px) (o + 2) (0 * 14 + 8) py) (o + 2) (0 * 14 + 2) pc) (o + 2) (1 * 14 + 13) (0 : Int32) := ⟨_, rfl⟩
  have DW : Dm W := by rw [eW]; exact ds _ _ _ (ds _ _ _ (ds _ _ _ (ds _ _ _ DZ)))
  have Wx : ∀ a, a ≠ o + 2 → W a = Z a := fun a p => by rw [eW, s2_ne p, s2_ne p, s2_ne p, s2_ne p]
  have Wk : ∀ z, z ≠ 7 → z ≠ 8 → z ≠ 2 → z ≠ 27 → W (o + 2) z = Z (o + 2) z := fun z p1 p2 p3 p4 => by rw [eW, s2_k (by omega), s2_k (by omega), s2_k (by omega), s2_k (by omega)]
  have Zr : ∀ z, z < (n - i) * 14 → Z (o + 2) (1 * 14 + z) = c (o + 2) (i * 14 + z) := fun z hz => by rw [z3 _ (by omega), Yx _ (by omega), Xr z hz]
  have W14 : W (o + 2) (1 * 14 + 0) = nI k := by rw [Wk _ (by decide) (by decide) (by decide) (by decide), Zr 0 (by omega)]; exact hk
  have gk : f_Pl_kind W o (1 : Int32) = some (nI k) := by
    have : f_Tb_get W (o + 1) (1 : Int32) (0 : Int32) = some (W (o + 2) (1 * 14 + 0)) := pg_get (j := 0) hI DW (by decide) rfl rfl (by decide)
    unfold f_Pl_kind
    rw [r0, bd_e this, W14]
  obtain ⟨V, eV, DV, Vx, V1, V2⟩ : ∃ V, (if nI k = (7 : Int32) then some W else some (s2 W (o + 2) (1 * 14 + 0) (2 : Int32))) = some V ∧ Dm V ∧ (∀ a, a ≠ o + 2 → V a = W a) ∧ (∀ z, z ≠ 14 → V (o + 2) z = W (o + 2) z) ∧ V (o + 2) (1 * 14 + 0) = (if k = 7 then nI 7 else 2) := by
    by_cases q : k = 7
    · refine ⟨W, by rw [if_pos (show nI k = 7 by rw [q]; rfl)], DW, fun _ _ => rfl, fun _ _ => rfl, ?_⟩
      rw [if_pos q, W14, q]
    · refine ⟨_, by rw [if_neg (kn_ne (j := 7) (pj := 7) (by omega) rfl (by decide) q)], ds _ _ _ DW, fun a p => s2_ne p, fun z p => s2_k (by omega), ?_⟩
      rw [if_neg q, s2_at]
  obtain ⟨C, eC⟩ : ∃ C, C = s2 (s2 V o 2 (0 : Int32)) o 3 (1 : Int32) := ⟨_, rfl⟩
  have eg : f_Pl_goDirect c o (nI i) px py pc = some C := by
    have rs : f_Pl_restart V o = some C := by
      unfold f_Pl_restart
      rw [Lt_e, Lt_e, eC]
    unfold f_Pl_goDirect
    rw [r0, hc, pk_sub (by omega), bd_e cp', Xx o noo, hc, pk_sub (by omega), nI_1, ← eY, Lt_e, bd_e z1', bd_e (st Z 0 7 0 7 px DZ rfl rfl (by decide) (by decide)), bd_e (st _ 0 8 0 8 py (ds _ _ _ DZ) rfl rfl (by decide) (by decide)), bd_e (st _ 0 2 0 2 pc (ds _ _ _ (ds _ _ _ DZ)) rfl rfl (by decide) (by decide)), bd_e (st _ 1 13 1 13 0 (ds _ _ _ (ds _ _ _ (ds _ _ _ DZ))) rfl rfl (by decide) (by decide)), ← eW, bd_e gk, Jn_e]
    by_cases q : nI k = (7 : Int32)
    · rw [if_pos q] at eV ⊢
      cases eV
      try dsimp only
      rw [bd_e rs]
    · rw [if_neg q] at eV ⊢
      rw [bd_e (st W 1 0 1 0 2 DW rfl rfl (by decide) (by decide))]
      cases eV
      try dsimp only
      rw [bd_e rs]
  have C2 : C (o + 2) = V (o + 2) := by rw [eC, s2_ne (by omega), s2_ne (by omega)]
  refine ⟨C, eg, by rw [eC]; exact (DV.s2 nto).s2 nto, fun a p q => ?_, ?_, ?_, ?_, fun j hj => ?_, ?_, ?_, fun j j1 j2 => ?_, fun z y1 y2 => ?_⟩
  · rw [eC, s2_ne p, s2_ne p, Vx a q, Wx a q, z2 a q, Yx a p, Xx a q]
  · rw [eC, s2_k (by decide), s2_k (by decide), Vx o noo, Wx o noo, z2 o noo, eY, s2_at]
  · rw [eC, s2_k (by decide), s2_at]
  · rw [eC, s2_at]
  · rw [C2, V1 _ (by omega)]
    unfold ppc
    have zz := z4 j hj
    unfold pln at zz
    by_cases j0 : j = 0
    · rw [if_pos j0, Wk _ (by omega) (by omega) (by omega) (by omega), zz, if_pos j0]
    · rw [if_neg j0]
      rw [if_neg j0] at zz
      by_cases j1 : j = 1
      · rw [if_pos j1, Wk _ (by omega) (by omega) (by omega) (by omega), zz, if_pos j1]
      · rw [if_neg j1]
        rw [if_neg j1] at zz
        by_cases j2 : j = 2
        · rw [if_pos j2, j2, eW, s2_k (by decide), s2_at]
        · rw [if_neg j2]
          by_cases j7 : j = 7
          · rw [if_pos j7, j7, eW, s2_k (by decide), s2_k (by decide), s2_k (by decide), s2_at]
          · rw [if_neg j7]
            by_cases j8 : j = 8
            · rw [if_pos j8, j8, eW, s2_k (by decide), s2_k (by decide), s2_at]
            · rw [if_neg j8, Wk _ (by omega) (by omega) (by omega) (by omega), zz]
  · rw [C2, V2]
  · rw [C2, V1 _ (by decide), eW, s2_at]
  · rw [C2, V1 _ (by omega), Wk _ (by omega) (by omega) (by omega) (by omega), Zr j (by omega)]
  · rw [C2, V1 _ (by omega), Wk _ (by omega) (by omega) (by omega) (by omega), Zr z y2]
theorem dirct_lock {c m : St} {b o P n i : Nat} {R R' : Int} {px py pc : Int32} (hI : PI b o) (hP : P ≤ 297) (hD : Dm c) (hc : c o 1 = nI n) (hm : m 1 P = nI n) (hn : n ≤ 20) (hi : i < n) (hl : ∀ l, l < n → LegR c m o P R l) (hf : ∀ k, k < 9 → c (o + 2) (i * 14 + 0) = nI k → hfx k) (hx : px = m 0 64) (hy : py = m 0 65) (hpc : pc = m 0 66) (hk : ∃ v : Nat, v < 24 ∧ m 0 66 = nI v) (hN : Nb R' (m 0 64) (m 0 65)) (hF : FB c o n) :
    ∃ c2 m2, f_Pl_goDirect c o (nI i) px py pc = some c2 ∧ m_laysDirect m (nI P) (nI i) = some m2 ∧ Dm c2 ∧ (∀ a, a ≠ o → a ≠ o + 2 → c2 a = c a) ∧ c2 o 1 = nI (n - i + 1) ∧ c2 o 2 = 0 ∧ c2 o 3 = 1 ∧ (∀ a, a ≠ 1 → m2 a = m a) ∧ (∀ z, z < 594 ∨ 891 ≤ z → m2 1 z = m 1 z) ∧ m2 1 594 = nI (n - i + 1) ∧ (∀ l, l < n - i + 1 → LegR c2 m2 o 594 R' l) ∧ FB c2 o (n - i + 1) ∧ (c2 (o + 2) (1 * 14 + 0) = 2 ∨ c2 (o + 2) (1 * 14 + 0) = 7) ∧ (m2 1 (594 + 3 + 14 * 1 + 0) = 2 ∨ m2 1 (594 + 3 + 14 * 1 + 0) = 7) := by
  have hlt := hI.lt
  obtain ⟨k, k1, k2, k3, k4, k5, k6⟩ := (hl i hi).kd
  obtain ⟨c2, c_e, c_D, c_x, c_1, c_2, c_3, c_0r, c_k, c_g, c_r, c_s⟩ := gd_c (px := px) (py := py) (pc := pc) hI hD hc hn hi k2 k1
  obtain ⟨m2, m_e, m_x, m_1, m_n, m_0r, m_k, m_g, m_r, m_s⟩ := ld_m hP hn hi hm k3 k1
  have m3 : m2 3 = m 3 := m_x 3 (by decide)
  have m4 : m2 4 = m 4 := m_x 4 (by decide)
  have hc1 : c2 1 = c 1 := c_x 1 (by omega) (by omega)
  obtain ⟨kk, kk1, kk2, kk3⟩ : ∃ kk : Nat, kk < 9 ∧ hfx kk ∧ (if k = 7 then nI 7 else (2 : Int32)) = nI kk := by
    by_cases q : k = 7
    · exact ⟨7, by decide, Or.inr rfl, by rw [if_pos q]⟩
    · exact ⟨2, by decide, Or.inl (by decide), by rw [if_neg q]; rfl⟩
  have k27 : (if k = 7 then nI 7 else (2 : Int32)) = 2 ∨ (if k = 7 then nI 7 else (2 : Int32)) = 7 := by
    by_cases q : k = 7
    · right; rw [if_pos q]; rfl
    · left; rw [if_neg q]
  have not8 : ∀ l, l < n → i ≤ l → ¬ c (o + 2) (l * 14 + 0) = 8 := fun l hl1 hl2 e => by
    have h0 := (hl l hl1).k8 e
    have hi0 : i = 0 := by omega
    subst h0
    subst hi0
    have := hf 8 (by decide) e
    unfold hfx at this
    omega
  refine ⟨c2, m2, c_e, m_e, c_D, c_x, c_1, c_2, c_3, m_x, m_1, m_n, fun l hl1 => ?_, ?_, by rw [c_k]; exact k27, ?_⟩
  · rcases (show l = 0 ∨ l = 1 ∨ 2 ≤ l by omega) with h | h | h
    · subst h
      have cr : ∀ j, j < 14 → c2 (o + 2) (0 * 14 + j) = ppc px py pc j := c_0r
      have mr : ∀ j, j < 14 → m2 1 (594 + 3 + 14 * 0 + j) = ppr (m 0 64) (m 0 65) (m 0 66) j := fun j hj => m_0r j hj
      obtain ⟨v, v1, v2⟩ := hk
      refine ⟨⟨8, by decide, cr 0 (by decide), mr 0 (by decide), fun q => ?_, fun _ => cr 1 (by decide), fun _ => ⟨rfl, ?_, ?_, ?_⟩⟩, ⟨v, by omega, ?_, ?_⟩, ⟨0, by decide, cr 3 (by decide), mr 3 (by decide)⟩, ⟨0, by decide, cr 4 (by decide), mr 4 (by decide)⟩, ⟨0, by decide, cr 5 (by decide), mr 5 (by decide)⟩, ⟨0, by decide, cr 6 (by decide), mr 6 (by decide)⟩, ⟨0, by decide, cr 9 (by decide), mr 9 (by decide)⟩, ⟨450, by decide, cr 10 (by decide), mr 10 (by decide)⟩, ⟨999, by decide, by decide, cr 11 (by decide), mr 11 (by decide)⟩, ⟨0, by decide, cr 12 (by decide), mr 12 (by decide)⟩, ⟨0, by decide, cr 13 (by decide), mr 13 (by decide)⟩⟩
      · unfold hfx at q; omega
      · rw [cr 7 (by decide), mr 7 (by decide)]; exact hx
      · rw [cr 8 (by decide), mr 8 (by decide)]; exact hy
      · rw [cr 7 (by decide), cr 8 (by decide)]
        show Nb R' px py
        rw [hx, hy]
        exact hN
      · rw [cr 2 (by decide)]; exact hpc.trans v2
      · rw [mr 2 (by decide)]; exact v2
    · subst h
      exact (hl i hi).mod1 (q' := o) (P' := 594) (i' := 1) hf c_r (fun j j1 j2 => m_r j j1 j2) kk1 kk2 (c_k.trans kk3) (m_k.trans kk3) c_g m_g m3 m4
    · have hL := (hl (i + l - 1) (by omega)).anyR (R' := R') (not8 _ (by omega) (by omega))
      refine hL.tr (fun j hj => ?_) (fun j hj => ?_) m3 m4 (Int.le_refl _) (fun e => absurd e (not8 _ (by omega) (by omega)))
      · have := c_s ((l - 1) * 14 + j) (by omega) (by omega)
        rw [show 1 * 14 + ((l - 1) * 14 + j) = l * 14 + j by omega, show i * 14 + ((l - 1) * 14 + j) = (i + l - 1) * 14 + j by omega] at this
        exact this
      · have := m_s (14 * (l - 1) + j) (by omega) (by omega)
        rw [show 611 + (14 * (l - 1) + j) = 594 + 3 + 14 * l + j by omega, show P + 3 + 14 * i + (14 * (l - 1) + j) = P + 3 + 14 * (i + l - 1) + j by omega] at this
        exact this
  · intro l kx hl1 e kx9 hfk
    rw [hc1]
    rcases (show l = 0 ∨ l = 1 ∨ 2 ≤ l by omega) with h | h | h
    · subst h
      have e0 : c2 (o + 2) (0 * 14 + 0) = nI 8 := c_0r 0 (by decide)
      have : kx = 8 := (nI_eq (by omega) (by decide)).mp (e.symm.trans e0)
      rw [this] at hfk
      unfold hfx at hfk
      omega
    · subst h
      rw [c_r 1 (by decide) (by decide)]
      exact hF i k hi k2 k1 (hf k k1 k2)
    · have e0 : c2 (o + 2) (l * 14 + 0) = c (o + 2) ((i + l - 1) * 14 + 0) := by
        have := c_s ((l - 1) * 14 + 0) (by omega) (by omega)
        rw [show 1 * 14 + ((l - 1) * 14 + 0) = l * 14 + 0 by omega, show i * 14 + ((l - 1) * 14 + 0) = (i + l - 1) * 14 + 0 by omega] at this
        exact this
      have e1 : c2 (o + 2) (l * 14 + 1) = c (o + 2) ((i + l - 1) * 14 + 1) := by
        have := c_s ((l - 1) * 14 + 1) (by omega) (by omega)
        rw [show 1 * 14 + ((l - 1) * 14 + 1) = l * 14 + 1 by omega, show i * 14 + ((l - 1) * 14 + 1) = (i + l - 1) * 14 + 1 by omega] at this
        exact this
      rw [e1]
      exact hF (i + l - 1) kx (by omega) (e0.symm.trans e) kx9 hfk
  · have : m2 1 (594 + 3 + 14 * 1 + 0) = m2 1 (611 + 0) := rfl
    rw [this, m_k]
    exact k27
