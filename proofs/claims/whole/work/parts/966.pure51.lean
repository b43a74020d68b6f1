/-! the start of an edit on both sides -/
def BgM (m m1 : St) (sz ed : Nat) : Prop :=
  (∀ a, 2 < a → m1 a = m a) ∧
  (∀ k, k ≠ 1 → k ≠ 2 → m1 0 k = m 0 k) ∧
  (m1 0 1 = 1) ∧
  (m1 0 2 = nI (min sz 5 + 1)) ∧
  (∀ k, k < 297 ∨ (594 ≤ k ∧ k < 891) → m1 1 k = m 1 k) ∧
  (sz < 6 → ∀ j, j < sz → (∀ k, k < 297 → m1 1 (891 + 297 * j + k) = m 1 (891 + 297 * j + k)) ∧ m1 2 j = m 2 j) ∧
  (sz = 6 → ∀ j, j < 5 → (∀ k, k < 297 → m1 1 (891 + 297 * j + k) = m 1 (891 + 297 * (j + 1) + k)) ∧ m1 2 j = m 2 (j + 1) &&& 1) ∧
  ((∀ k, k < 297 → m1 1 (891 + 297 * min sz 5 + k) = m 1 (297 + k)) ∧ m1 2 (min sz 5) = nI ed) ∧
  (ed = 1 → ∀ k, k < 297 → m1 1 (297 + k) = m 1 (297 + k)) ∧
  (ed = 0 → (∀ k, k < 297 → k ≠ 2 → m1 1 (297 + k) = m 1 (0 + k)) ∧ m1 1 299 = 0)
theorem BgM.fm {m m1 : St} {sz ed : Nat} (h : BgM m m1 sz ed) : ∀ a, 2 < a → m1 a = m a := h.1
theorem BgM.g0 {m m1 : St} {sz ed : Nat} (h : BgM m m1 sz ed) : ∀ k, k ≠ 1 → k ≠ 2 → m1 0 k = m 0 k := h.2.1
theorem BgM.e {m m1 : St} {sz ed : Nat} (h : BgM m m1 sz ed) : m1 0 1 = 1 := h.2.2.1
theorem BgM.s {m m1 : St} {sz ed : Nat} (h : BgM m m1 sz ed) : m1 0 2 = nI (min sz 5 + 1) := h.2.2.2.1
theorem BgM.f1 {m m1 : St} {sz ed : Nat} (h : BgM m m1 sz ed) : ∀ k, k < 297 ∨ (594 ≤ k ∧ k < 891) → m1 1 k = m 1 k := h.2.2.2.2.1
theorem BgM.h {m m1 : St} {sz ed : Nat} (h : BgM m m1 sz ed) : sz < 6 → ∀ j, j < sz → (∀ k, k < 297 → m1 1 (891 + 297 * j + k) = m 1 (891 + 297 * j + k)) ∧ m1 2 j = m 2 j := h.2.2.2.2.2.1
theorem BgM.h6 {m m1 : St} {sz ed : Nat} (h : BgM m m1 sz ed) : sz = 6 → ∀ j, j < 5 → (∀ k, k < 297 → m1 1 (891 + 297 * j + k) = m 1 (891 + 297 * (j + 1) + k)) ∧ m1 2 j = m 2 (j + 1) &&& 1 := h.2.2.2.2.2.2.1
theorem BgM.n {m m1 : St} {sz ed : Nat} (h : BgM m m1 sz ed) : (∀ k, k < 297 → m1 1 (891 + 297 * min sz 5 + k) = m 1 (297 + k)) ∧ m1 2 (min sz 5) = nI ed := h.2.2.2.2.2.2.2.1
theorem BgM.m1 {m m1 : St} {sz ed : Nat} (h : BgM m m1 sz ed) : ed = 1 → ∀ k, k < 297 → m1 1 (297 + k) = m 1 (297 + k) := h.2.2.2.2.2.2.2.2.1
theorem BgM.m0 {m m1 : St} {sz ed : Nat} (h : BgM m m1 sz ed) : ed = 0 → (∀ k, k < 297 → k ≠ 2 → m1 1 (297 + k) = m 1 (0 + k)) ∧ m1 1 299 = 0 := h.2.2.2.2.2.2.2.2.2

theorem beg_m {m : St} {sz ed : Nat} (hsz : sz ≤ 6) (he : ed ≤ 1) (hs : m 0 2 = nI sz) (hed : m 0 1 = nI ed) : ∃ m1, m_begins m = some m1 ∧ BgM m m1 sz ed := by
  -- the tail, from a state with room
  obtain ⟨T, eT⟩ : ∃ T : St → Option St, T = fun (σ1 : St) =>
    Option.bind (m_copyPlan σ1 (297 : Int32) ((891 : Int32) + ((297 : Int32) * (σ1 0 2)))) fun x3 =>
    Gd (Ix (x3 0 2) 6) <|
    Lt (s2 x3 2 (Int32.toNatClampNeg (x3 0 2)) ((x3 0 1) &&& 1)) fun σ4 =>
    Lt (s2 σ4 0 2 ((σ4 0 2) + (1 : Int32))) fun σ5 =>
    Jn (fun (σ6 : St) => some σ6) fun J7 =>
    if ((σ5 0 1) : Int32) = 0 then (
    Option.bind (m_copyPlan σ5 (0 : Int32) (297 : Int32)) fun x8 =>
    Gd (Ix (299 : Int32) 2673) <|
    Lt (s2 x8 1 (Int32.toNatClampNeg (299 : Int32)) (0 : Int32)) fun σ9 =>
    Lt (s2 σ9 0 1 (1 : Int32)) fun σ10 =>
    J7 σ10
    ) else (J7 σ5) := ⟨_, rfl⟩
  have tail : ∀ (u : St) (z : Nat), z ≤ 5 → u 0 2 = nI z → u 0 1 = nI ed → ∃ m1, T u = some m1 ∧ (∀ a, 2 < a → m1 a = u a) ∧ (∀ k, k ≠ 1 → k ≠ 2 → m1 0 k = u 0 k) ∧ m1 0 1 = 1 ∧ m1 0 2 = nI (z + 1) ∧ (∀ k, k < 297 ∨ (594 ≤ k ∧ k < 891) → m1 1 k = u 1 k) ∧ (∀ j, j < z → (∀ k, k < 297 → m1 1 (891 + 297 * j + k) = u 1 (891 + 297 * j + k)) ∧ m1 2 j = u 2 j) ∧ ((∀ k, k < 297 → m1 1 (891 + 297 * z + k) = u 1 (297 + k)) ∧ m1 2 z = nI ed) ∧ (ed = 1 → ∀ k, k < 297 → m1 1 (297 + k) = u 1 (297 + k)) ∧ (ed = 0 → (∀ k, k < 297 → k ≠ 2 → m1 1 (297 + k) = u 1 (0 + k)) ∧ m1 1 299 = 0) := by
    intro u z hz hu2 hu1
    have e1 : (891 : Int32) + (297 : Int32) * nI z = nI (891 + 297 * z) := by
      rw [show (297 : Int32) = nI 297 from rfl, pk_mul, show (891 : Int32) = nI 891 from rfl, nI_add]
    have c1 : m_copyPlan u (297 : Int32) (nI (891 + 297 * z)) = some (plc u 297 (891 + 297 * z) 297) := cpl_m (P := 297) (by decide) (by omega) (by omega)
    obtain ⟨v, ev⟩ : ∃ v, v = plc u 297 (891 + 297 * z) 297 := ⟨_, rfl⟩
    have v0 : ∀ a, a ≠ 1 → v a = u a := fun a p => by rw [ev, plc_ne p]
    have v1 : ∀ k, k < 891 + 297 * z → v 1 k = u 1 k := fun k p => by rw [ev, plc_k (Or.inl p)]
    have v2 : ∀ k, k < 297 → v 1 (891 + 297 * z + k) = u 1 (297 + k) := fun k p => by rw [ev, plc_at p]
    have kz : Int32.toNatClampNeg (nI z) = z := nI_clamp (by omega)
    have ea : nI ed &&& 1 = nI ed := by
      rcases (show ed = 0 ∨ ed = 1 by omega) with h | h <;> rw [h] <;> decide
    obtain ⟨w, ew⟩ : ∃ w, w = s2 (s2 v 2 z (nI ed)) 0 2 (nI (z + 1)) := ⟨_, rfl⟩
    have w0 : ∀ a, 2 < a → w a = u a := fun a p => by rw [ew, s2_ne (by omega), s2_ne (by omega), v0 a (by omega)]
    have w1 : w 1 = v 1 := by rw [ew, s2_ne (by decide), s2_ne (by decide)]
    have w2 : w 2 z = nI ed := by rw [ew, s2_ne (by decide), s2_at]
    have w2' : ∀ j, j ≠ z → w 2 j = u 2 j := fun j p => by rw [ew, s2_ne (by decide), s2_k p, v0 2 (by decide)]
    have w02 : w 0 2 = nI (z + 1) := by rw [ew, s2_at]
    have w00 : ∀ k, k ≠ 2 → w 0 k = u 0 k := fun k p => by rw [ew, s2_k p, s2_ne (by decide), v0 0 (by decide)]
    have hT : T u = Jn (fun (σ6 : St) => some σ6) fun J7 =>
      if ((w 0 1) : Int32) = 0 then (
      Option.bind (m_copyPlan w (0 : Int32) (297 : Int32)) fun x8 =>
      Gd (Ix (299 : Int32) 2673) <|
      Lt (s2 x8 1 (Int32.toNatClampNeg (299 : Int32)) (0 : Int32)) fun σ9 =>
      Lt (s2 σ9 0 1 (1 : Int32)) fun σ10 =>
      J7 σ10
      ) else (J7 w) := by
      rw [eT]
      dsimp only
      rw [hu2, e1, bd_e c1, ← ev, v0 0 (by decide), hu2, Gd_t (Ix_n (show z < 6 by omega) (by decide)), Lt_e, kz, hu1, ea, s2_ne (show (0 : Nat) ≠ 2 by decide), v0 0 (by decide), hu2, nI_1, ← ew, Lt_e]
    rw [hT, Jn_e, w00 1 (by decide), hu1]
    rcases (show ed = 0 ∨ ed = 1 by omega) with h | h
    · subst h
      have c2 : m_copyPlan w (0 : Int32) (297 : Int32) = some (plc w 0 297 297) := cpl_m (P := 0) (Q := 297) (by decide) (by decide) (by omega)
      have k299 : Int32.toNatClampNeg (299 : Int32) = 299 := by decide
      rw [if_pos (show nI 0 = 0 from rfl), bd_e c2, Gd_t (show Ix (299 : Int32) 2673 from Ix_n (i := 299) (n := 2673) (by decide) (by decide)), Lt_e, Lt_e, k299]
      have x1 : ∀ k, k < 297 ∨ 594 ≤ k → s2 (s2 (plc w 0 297 297) 1 299 (0 : Int32)) 0 1 (1 : Int32) 1 k = w 1 k := fun k p => by rw [s2_ne (by decide), s2_k (by omega), plc_k (by omega)]
      refine ⟨_, rfl, fun a p => ?_, fun k p q => ?_, s2_at, ?_, fun k p => ?_, fun j hj => ⟨fun k hk => ?_, ?_⟩, ⟨fun k hk => ?_, ?_⟩, fun q => by omega, fun _ => ⟨fun k hk k2 => ?_, ?_⟩⟩
      · rw [s2_ne (by omega), s2_ne (by omega), plc_ne (by omega), w0 a p]
      · rw [s2_k p, s2_ne (by decide), plc_ne (by decide), w00 k q]
      · rw [s2_k (by decide), s2_ne (by decide), plc_ne (by decide), w02]
      · rw [x1 k (by omega), w1, v1 k (by omega)]
      · rw [x1 _ (by omega), w1, v1 _ (by omega)]
      · rw [s2_ne (by decide), s2_ne (by decide), plc_ne (by decide), w2' j (by omega)]
      · rw [x1 _ (by omega), w1, v2 k hk]
      · rw [s2_ne (by decide), s2_ne (by decide), plc_ne (by decide), w2]
      · rw [s2_ne (by decide), s2_k (by omega), plc_at hk, w1, v1 _ (by omega)]
      · rw [s2_ne (by decide), s2_at]
    · subst h
      rw [if_neg (by decide)]
      refine ⟨w, rfl, w0, fun k p q => w00 k q, by rw [w00 1 (by decide), hu1]; rfl, w02, fun k p => by rw [w1, v1 k (by omega)], fun j hj => ⟨fun k hk => by rw [w1, v1 _ (by omega)], w2' j (by omega)⟩, ⟨fun k hk => by rw [w1, v2 k hk], w2⟩, fun _ k hk => by rw [w1, v1 _ (by omega)], fun q => by omega⟩
  unfold m_begins
  rw [Jn_e, ← eT, hs]
  rcases (show sz = 6 ∨ sz < 6 by omega) with h | h
  · subst h
    obtain ⟨u, eu⟩ : ∃ u, u = s2 (hm2 (hmv m 2376) 5) 0 2 (nI 5) := ⟨_, rfl⟩
    have z1 : ∀ (J : St → Option St), lp (lb_m_begins_13 J) 4000 ((891 : Int32), m) = J (hmv m 2376) := fun J => by
      have e : hmv m 891 = m := by
        funext a k
        unfold hmv
        rw [if_neg (by omega)]
      have := hmv_m (m := m) (J := J) 1485 891 4000 (by decide) (by decide) (by decide)
      rw [e] at this
      exact this
    have z2 : ∀ (J : St → Option St), lp (lb_m_begins_44 J) 4000 ((0 : Int32), hmv m 2376) = J (hm2 (hmv m 2376) 5) := fun J => by
      have e : hm2 (hmv m 2376) 0 = hmv m 2376 := by
        funext a k
        unfold hm2
        rw [if_neg (by omega)]
      have := hm2_m (m := hmv m 2376) (J := J) 5 0 4000 (by decide) (by decide)
      rw [e] at this
      exact this
    have q0 : ∀ k, hm2 (hmv m 2376) 5 0 k = m 0 k := fun k => by
      unfold hm2
      rw [if_neg (by omega)]
      unfold hmv
      rw [if_neg (by omega)]
    rw [if_pos (show nI 6 = 6 from rfl), Jn_e, z1, Jn_e, z2, q0, hs, show nI 6 - (1 : Int32) = nI 5 by decide, Lt_e, ← eu]
    have ua : ∀ a, 2 < a → u a = m a := fun a p => by
      rw [eu, s2_ne (by omega)]
      funext k
      unfold hm2
      rw [if_neg (by omega)]
      unfold hmv
      rw [if_neg (by omega)]
    have u0 : ∀ k, k ≠ 2 → u 0 k = m 0 k := fun k p => by rw [eu, s2_k p, q0]
    have u1 : ∀ k, k < 891 → u 1 k = m 1 k := fun k p => by
      rw [eu, s2_ne (by decide)]
      unfold hm2
      rw [if_neg (by omega)]
      unfold hmv
      rw [if_neg (by omega)]
    have u1' : ∀ k, 891 ≤ k → k < 2376 → u 1 k = m 1 (k + 297) := fun k p q => by
      rw [eu, s2_ne (by decide)]
      unfold hm2
      rw [if_neg (by omega)]
      unfold hmv
      rw [if_pos (by omega)]
    have u2 : ∀ j, j < 5 → u 2 j = m 2 (j + 1) &&& 1 := fun j p => by
      rw [eu, s2_ne (by decide)]
      unfold hm2
      rw [if_pos (by omega)]
      unfold hmv
      rw [if_neg (by omega)]
    obtain ⟨m1, f0, f1, f2, f3, f4, f5, f6, f7, f8, f9⟩ := tail u 5 (by decide) (by rw [eu, s2_at]) (by rw [u0 1 (by decide), hed])
    refine ⟨m1, f0, fun a p => by rw [f1 a p, ua a p], fun k p q => by rw [f2 k p q, u0 k q], f3, f4, fun k p => by rw [f5 k p, u1 k (by omega)], fun q => by omega, fun _ j hj => ⟨fun k hk => ?_, by rw [(f6 j hj).2, u2 j hj]⟩, ⟨fun k hk => ?_, f7.2⟩, fun q k hk => by rw [f8 q k hk, u1 _ (by omega)], fun q => ⟨fun k hk k2 => by rw [(f9 q).1 k hk k2, u1 _ (by omega)], (f9 q).2⟩⟩
    · rw [(f6 j hj).1 k hk, u1' _ (by omega) (by omega), show 891 + 297 * j + k + 297 = 891 + 297 * (j + 1) + k by omega]
    · rw [← u1 (297 + k) (by omega)]; exact f7.1 k hk
  · rw [if_neg (fun q => by have := (nIl 6 (by omega) (by decide)).mp q; omega)]
    obtain ⟨m1, f0, f1, f2, f3, f4, f5, f6, f7, f8, f9⟩ := tail m sz (by omega) hs hed
    have e5 : min sz 5 = sz := by omega
    exact ⟨m1, f0, f1, f2, f3, by rw [e5]; exact f4, f5, fun _ => f6, fun q => by omega, by rw [e5]; exact f7, f8, f9⟩
