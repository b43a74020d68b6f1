/-! setFlyOver, setSpeedLimit -/

theorem get_c {c : St} {i j : Nat} (hD : Dm c) (hi : i < 21) (hj : j < 14) : f_Tb_get c 12 (nI i) (nI j) = some (c 13 (i * 14 + j)) := Tb_get hD.2.2.2.2.1.2.1 hi hj
theorem k_setFlyOver {t : Nat} {c m : St} (h : INV t c m) (p1 p2 : Int32) : AQ t (f_FL_setFlyOver c p1 p2) (m_setFlyOver m p1 p2) := by
  have h' := h
  obtain ⟨na, cur, fl, ed, nm, Ra, hB, hA, hM⟩ := h
  obtain ⟨q, P, n, cu, hP⟩ := pe_of hB
  have n20 := hP.n20
  have cu20 := hP.cu20
  unfold f_FL_setFlyOver m_setFlyOver
  rw [bd_e hP.q, bd_e hP.P]
  rcases hP.leg p1 with ⟨a, b⟩ | ⟨i, hi, e, a, b⟩
  · rw [bd_e a, bd_e b, if_pos rfl, if_pos rfl]
    exact ⟨_, c, m, rfl, rfl, h'.up⟩
  rw [bd_e a, bd_e b, if_neg n10, if_neg n10, Gd_t hP.cur.1, hP.cur.2, hP.c2, e]
  by_cases hcu : cu ≤ i
  · obtain ⟨c1, m1, ec, em, G⟩ := begin_lock hB
    obtain ⟨n0, cu', rs, R, z0, z1, z2, z3, z4, z5, z6, z7, z8, z9⟩ := G.M
    have hn : n0 = n := z0.trans hP.en.symm
    have hMP := z9 (by omega)
    obtain ⟨w, w1, w2, w3⟩ := (hMP.2.2.1 i (by omega)).ovr
    have w2' : c1 13 (i * 14 + 12) = nI w := w2
    have gm : m_of m1 (297 : Int32) (nI i) (12 : Int32) = some (nI w) := (mof (P := 297) (j := 12) (by decide) (show i < 21 by omega) (by decide)).trans (congrArg some w3)
    have gc : f_Tb_get c1 12 (nI i) (12 : Int32) = some (nI w) := (get_c (j := 12) G.D (show i < 21 by omega) (by decide)).trans (congrArg some w2')
    obtain ⟨v, ev, hv⟩ : ∃ v : Nat, (if p2 = 0 then (0 : Int32) else 1) = nI v ∧ v ≤ 1 := by
      split
      · exact ⟨0, rfl, by decide⟩
      · exact ⟨1, rfl, by decide⟩
    have pc : f_Tb_put c1 12 (nI i) (12 : Int32) (nI v) = _ := put_c (j := 12) G.D (show i < 21 by omega) (by decide)
    have pm : m_sets m1 (297 : Int32) (nI i) (12 : Int32) (nI v) = _ := sets_m (j := 12) (show i < 21 by omega) (by decide)
    rw [if_pos (nI_le hcu (by omega)), if_pos (nI_le hcu (by omega)), bd_e ec, bd_e em, bd_e gc, bd_e gm, Jn_if, Jn_if, ev, bd_e pc, bd_e pm]
    exact ⟨_, _, _, rfl, rfl, BG.set1 hB hA G hP.en hi (by decide) (by decide) (Or.inr (Or.inr ⟨by decide, hv⟩))⟩
  · rw [if_neg (nI_ge (by omega) (by omega)), if_neg (nI_ge (by omega) (by omega))]
    exact ⟨_, c, m, rfl, rfl, h'.up⟩
theorem k_setSpeedLimit {t : Nat} {c m : St} (h : INV t c m) (p1 p2 : Int32) : AQ t (f_FL_setSpeedLimit c p1 p2) (m_setSpeedLimit m p1 p2) := by
  have h' := h
  obtain ⟨na, cur, fl, ed, nm, Ra, hB, hA, hM⟩ := h
  obtain ⟨q, P, n, cu, hP⟩ := pe_of hB
  have n20 := hP.n20
  have cu20 := hP.cu20
  unfold f_FL_setSpeedLimit m_setSpeedLimit
  rw [bd_e hP.q, bd_e hP.P]
  rcases hP.leg p1 with ⟨a, b⟩ | ⟨i, hi, e, a, b⟩
  · rw [bd_e a, bd_e b, if_pos rfl, if_pos rfl]
    exact ⟨_, c, m, rfl, rfl, h'.up⟩
  rw [bd_e a, bd_e b, if_neg n10, if_neg n10, hP.c2, hP.cur.2, e]
  have yes : ∀ v : Nat, p2 = nI v → 100 ≤ v → v ≤ 999 → AQ t (if nI cu ≤ nI i then (Option.bind (f_FL_beginEdit c) fun x5 => Option.bind (f_Tb_get x5 12 (nI i) (11 : Int32)) fun x6 => Option.bind (f_Tb_put x5 12 (nI i) (11 : Int32) p2) fun x7 => some (x6, x7)) else some ((-1000003 : Int32), c)) (Gd (Ix (nI P + (1 : Int32)) 2673) <| if nI cu ≤ nI i then (Option.bind (m_begins m) fun x5 => Option.bind (m_of x5 (297 : Int32) (nI i) (11 : Int32)) fun x6 => Option.bind (m_sets x5 (297 : Int32) (nI i) (11 : Int32) p2) fun x7 => some (x6, x7)) else some ((-1000003 : Int32), m)) := by
    intro v ep v1 v2
    rw [Gd_t hP.cur.1, ep]
    by_cases hcu : cu ≤ i
    · obtain ⟨c1, m1, ec, em, G⟩ := begin_lock hB
      obtain ⟨n0, cu', rs, R, z0, z1, z2, z3, z4, z5, z6, z7, z8, z9⟩ := G.M
      have hn : n0 = n := z0.trans hP.en.symm
      have hMP := z9 (by omega)
      obtain ⟨w, w0, w1, w2, w3⟩ := (hMP.2.2.1 i (by omega)).lim
      have w2' : c1 13 (i * 14 + 11) = nI w := w2
      have gm : m_of m1 (297 : Int32) (nI i) (11 : Int32) = some (nI w) := (mof (P := 297) (j := 11) (by decide) (show i < 21 by omega) (by decide)).trans (congrArg some w3)
      have gc : f_Tb_get c1 12 (nI i) (11 : Int32) = some (nI w) := (get_c (j := 11) G.D (show i < 21 by omega) (by decide)).trans (congrArg some w2')
      have pc : f_Tb_put c1 12 (nI i) (11 : Int32) (nI v) = _ := put_c (j := 11) G.D (show i < 21 by omega) (by decide)
      have pm : m_sets m1 (297 : Int32) (nI i) (11 : Int32) (nI v) = _ := sets_m (j := 11) (show i < 21 by omega) (by decide)
      rw [if_pos (nI_le hcu (by omega)), if_pos (nI_le hcu (by omega)), bd_e ec, bd_e em, bd_e gc, bd_e gm, bd_e pc, bd_e pm]
      exact ⟨_, _, _, rfl, rfl, BG.set1 hB hA G hP.en hi (by decide) (by decide) (Or.inr (Or.inl ⟨rfl, v1, v2⟩))⟩
    · rw [if_neg (nI_ge (by omega) (by omega)), if_neg (nI_ge (by omega) (by omega))]
      exact ⟨_, c, m, rfl, rfl, h'.up⟩
  rcases wi (p := p2) (a := 100) (b := 500) (a' := 100) (b' := 500) (by decide) (by decide) with ⟨a, b, lo, hi2⟩ | ⟨a, b⟩
  · have lo : 100 ≤ p2.toInt := lo
    have hi2 : p2.toInt ≤ 500 := hi2
    rw [bd_e a, bd_e b, Jn_e, Jn_e, if_neg n10, if_neg n10]
    exact yes p2.toInt.toNat (i2 (by rw [nI_toInt (by omega)]; omega)) (by omega) (by omega)
  · rw [bd_e a, bd_e b, Jn_e, Jn_e, if_pos rfl, if_pos rfl]
    by_cases z : p2 = 999
    · rw [if_pos z, if_pos z]
      exact yes 999 z (by decide) (by decide)
    · rw [if_neg z, if_neg z]
      exact ⟨_, c, m, rfl, rfl, h'.up⟩
