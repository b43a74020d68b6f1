/-! the legs, one after another -/
variable {N : Nat}

theorem MID.fro {c m c' m' : St} {b r r' i : Nat} {R B : Int} {x y : Int32} (h : MID N c (s2 (s2 m 0 42 x) 0 43 y) c' m' b R B r r' i) : MID N c m c' m' b R B r r' i := by
  have e0 : ∀ k, k ≠ 42 → k ≠ 43 → s2 (s2 m 0 42 x) 0 43 y 0 k = m 0 k := fun k p q => by rw [s2_k q, s2_k p]
  have e1 : ∀ a, a ≠ 0 → s2 (s2 m 0 42 x) 0 43 y a = m a := fun a p => by rw [s2_ne p, s2_ne p]
  refine ⟨h.le, h.le2, h.sr, h.ir, h.fc, h.f11, h.f2, fun a p q => (h.fm a p q).trans (e1 a p), fun a k p q s => (h.fe a k p q s).trans (by rw [e1 a (by omega)]), fun k p q s => (h.f0 k p q s).trans (e0 k q s), h.lg, fun u p a q s => (h.old u p a q s).trans (by rw [e1 a (by omega)]), ?_, ?_⟩
  · have := h.la
    rw [e0 31 (by decide) (by decide)] at this
    exact this
  · have := h.en
    rw [e1 19 (by decide)] at this
    exact this
def midx (c : St) (b q i : Nat) (k : Int32) (J : St → Option St) : Option St :=
  if (k : Int32) = (3 : Int32) then (
  Option.bind (f_Tk_followCourseToFix c (b + 3) (nI i)) fun x21 =>
  J x21
  ) else (
  if (k : Int32) = (4 : Int32) then (
  Option.bind (f_Tk_climbOnCourse c (b + 3) (nI i)) fun x20 =>
  J x20
  ) else (
  if (k : Int32) = (5 : Int32) then (
  Option.bind (f_Tk_followToInterception c (b + 3) (nI i)) fun x19 =>
  J x19
  ) else (
  if (k : Int32) = (6 : Int32) then (
  Option.bind (f_Tk_runOn c (b + 3) (nI i) (100 : Int32)) fun x18 =>
  J x18
  ) else (
  Option.bind (f_Tb_get c (q + 1) (nI i) (7 : Int32)) fun x14 =>
  Option.bind (f_Tb_get c (q + 1) (nI i) (8 : Int32)) fun x15 =>
  Option.bind (f_Tk_runTo c (b + 3) (nI i) x14 x15) fun x16 =>
  Option.bind (f_Tk_endHere x16 (b + 3) (nI i)) fun x17 =>
  J x17
  ))))
theorem nIl {k : Nat} (j : Nat) (hk : k < 1000) (hj : j < 1000) : (nI k = (OfNat.ofNat j : Int32)) ↔ k = j := nI_eq (a := k) (b := j) (by omega) (by omega)
theorem MID.leB {c m c' m' : St} {b r r' i : Nat} {R B B' : Int} (h : MID N c m c' m' b R B r r' i) (hB : B ≤ B') : MID N c m c' m' b R B' r r' i := by
  refine ⟨h.le, h.le2, h.sr, h.ir, h.fc, h.f11, h.f2, h.fm, h.fe, h.f0, h.lg, h.old, h.la, ?_⟩
  rcases h.en with v | v
  · exact Or.inl v
  · exact Or.inr ⟨v.1, v.2.1, v.2.2.1, v.2.2.2.1, v.2.2.2.2.1, v.2.2.2.2.2.1, v.2.2.2.2.2.2.le hB⟩
theorem mid_leg {c m : St} {b q P r i n t k : Nat} {R R0 RP : Int} (hI : PI b q) (hD : Dm c) (hK : RefK m) (hG : SetR c m) (hP : PlanR c m q P RP n) (hi : i < n) (h0 : 0 < i) (hS : SR n c m b R r) (hN : IR n c m b R r) (hr : r + 1 < 42) (h14 : 14200 ≤ R0) (hRR : R0 + 2261 * (i : Int) + 2351 ≤ R) (hR : R ≤ 5940000)
    (hx : c (b + 3) 5 = m 20 (i - 1)) (hy : c (b + 3) 6 = m 21 (i - 1)) (ht : t ≤ 450) (hs : Nb (R0 + 2261 * ((i : Int) - 1) + 5 * t) (m 20 (i - 1)) (m 21 (i - 1))) (htc : c (b + 3) 11 = nI t) (htm : m 0 41 = nI t) (hk : c (q + 2) (i * 14 + 0) = nI k) (hk9 : k < 9) (hk0 : k ≠ 0) (hk8 : k ≠ 8) :
    ∃ (c' m' : St) (r' t' : Nat), (∀ J, midx c b q i (nI k) J = J c') ∧ Dm c' ∧ m_laysLeg m (nI P) (nI i) = some m' ∧ MID n c m c' m' b R (R0 + 2261 * i + 5 * t') r r' i ∧ t' ≤ 450 ∧ (k = 4 → c (q + 2) (i * 14 + 3) = nI t' ∧ m 1 (P + 3 + 14 * i + 3) = nI t') ∧ (k ≠ 4 → t' = t) ∧ (hfx k → ∀ B' : Int, 14143 ≤ B' → MID n c m c' m' b R B' r r' i) := by
  have hn := hP.le
  have hPl := hP.Pl
  have hi21 : i < 21 := by omega
  have ei : nI i - (1 : Int32) = nI (i - 1) := pk_sub (a := i) (b := 1) (by omega)
  have hL := hP.leg i hi
  obtain ⟨v, v23, vc, vm⟩ := hL.crs
  have km : m 1 (P + 3 + 14 * i + 0) = nI k := by
    obtain ⟨k', k9, kc, km, -⟩ := hL.kd
    rw [km, ← kc, hk]
  obtain ⟨M, eM⟩ : ∃ M, M = s2 (s2 m 0 42 (m 20 (i - 1))) 0 43 (m 21 (i - 1)) := ⟨_, rfl⟩
  have M0 : ∀ k, k ≠ 42 → k ≠ 43 → M 0 k = m 0 k := fun k p q => by rw [eM, s2_k q, s2_k p]
  have M1 : ∀ a, a ≠ 0 → M a = m a := fun a p => by rw [eM, s2_ne p, s2_ne p]
  have M42 : M 0 42 = m 20 (i - 1) := by rw [eM, s2_k (by decide), s2_at]
  have M43 : M 0 43 = m 21 (i - 1) := by rw [eM, s2_at]
  have hKM : RefK M := hK.of (M1 _ (by decide)) (M1 _ (by decide)) (M1 _ (by decide))
  have hSM : SR n c M b R r := hS.of rfl rfl (M0 _ (by decide) (by decide)) (fun a p q => M1 a (by omega))
  have hNM : IR n c M b R r := hN.of rfl rfl rfl rfl (fun k p q => M0 k (by omega) (by omega)) (fun _ => by rw [M1 12 (by decide)])
  have hPM : PlanR c M q P RP n := hP.of rfl rfl rfl (M1 _ (by decide)) (M1 _ (by decide)) (M1 _ (by decide))
  have hGM : SetR c M := by
    unfold SetR at *
    rw [M0 8 (by decide) (by decide), M0 9 (by decide) (by decide), M0 10 (by decide) (by decide), M0 11 (by decide) (by decide), M0 12 (by decide) (by decide), M0 13 (by decide) (by decide), M0 14 (by decide) (by decide), M0 15 (by decide) (by decide), M0 16 (by decide) (by decide)]
    exact hG
  have hxM : c (b + 3) 5 = M 0 42 := by rw [M42]; exact hx
  have hyM : c (b + 3) 6 = M 0 43 := by rw [M43]; exact hy
  have hsM : Nb (R0 + 2261 * ((i : Int) - 1) + 5 * t) (M 0 42) (M 0 43) := by rw [M42, M43]; exact hs
  have hin : (i : Int) < n := by omega
  have key : ∃ (c' m' : St) (r' t' : Nat), (∀ J, midx c b q i (nI k) J = J c') ∧ Dm c' ∧ m_laysLeg m (nI P) (nI i) = some m' ∧ MID n c M c' m' b R (R0 + 2261 * i + 5 * t') r r' i ∧ t' ≤ 450 ∧ (k = 4 → c (q + 2) (i * 14 + 3) = nI t' ∧ m 1 (P + 3 + 14 * i + 3) = nI t') ∧ (k ≠ 4 → t' = t) ∧ (hfx k → ∀ B' : Int, 14143 ≤ B' → MID n c M c' m' b R B' r r' i) := by
    unfold m_laysLeg
    rw [bd_e (mof hPl hi21 (by decide)), bd_e (mof hPl hi21 (by decide)), ei, Gd_t (Ix_n (show i - 1 < 21 by omega) (by decide)), Lt_e, Gd_t (Ix_n (show i - 1 < 21 by omega) (by decide)), Lt_e, nI_clamp (by omega), s2_ne (show (21 : Nat) ≠ 0 by decide), ← eM, Jn_e, km, vm]
    unfold midx
    by_cases k5 : k = 5
    · obtain ⟨c1, m1, r1, e1, e2, e3, e4⟩ := mid_ci (B' := R0 + 2261 * i + 5 * t) hI hD hKM hPM hi hi hSM hNM (by omega) (by omega) hR hxM hyM hsM (by omega) (by omega) (show v < 24 by omega) vc (by rw [M1 1 (by decide)]; exact vm)
      refine ⟨c1, m1, r1, t, fun J => ?_, e2, ?_, e4, ht, fun h => absurd h (by omega), fun _ => rfl, fun h => absurd h (by unfold hfx; omega)⟩
      · rw [if_neg (fun h => by have := (nIl 3 (by omega) (by omega)).mp h; omega), if_neg (fun h => by have := (nIl 4 (by omega) (by omega)).mp h; omega), if_pos ((nIl 5 (by omega) (by omega)).mpr k5), bd_e e1]
      · rw [if_pos ((nIl 5 (by omega) (by omega)).mpr k5), bd_e e3]
    · by_cases k6 : k = 6
      · obtain ⟨c1, m1, r1, e1, e2, e3, e4⟩ := mid_vm (B' := R0 + 2261 * i + 5 * t) hI hD hKM hSM hNM (by omega) hi21 hi (by omega) hR hxM hyM hsM (by omega) (show v < 24 by omega) vc
        refine ⟨c1, m1, r1, t, fun J => ?_, e2, ?_, e4, ht, fun h => absurd h (by omega), fun _ => rfl, fun h => absurd h (by unfold hfx; omega)⟩
        · rw [if_neg (fun h => by have := (nIl 3 (by omega) (by omega)).mp h; omega), if_neg (fun h => by have := (nIl 4 (by omega) (by omega)).mp h; omega), if_neg (fun h => by have := (nIl 5 (by omega) (by omega)).mp h; omega), if_pos ((nIl 6 (by omega) (by omega)).mpr k6)]
          exact bd_e e1
        · rw [if_neg (fun h => by have := (nIl 5 (by omega) (by omega)).mp h; omega), if_pos ((nIl 6 (by omega) (by omega)).mpr k6)]
          exact bd_e e3
      · by_cases k4 : k = 4
        · obtain ⟨a, a1, ac, am⟩ := hL.tgt
          obtain ⟨l, c1, m1, r1, e1, e2, e3, e4, e5⟩ := mid_ca (a := a) (t := t) hPl hI hD hKM hGM hSM hNM (by omega) hi21 hi (by omega) hR hxM hyM hsM (by omega) (show v < 24 by omega) vc a1 ac (by rw [M1 1 (by decide)]; exact am) ht htc (by rw [M0 41 (by decide) (by decide)]; exact htm)
          refine ⟨c1, m1, r1, a, fun J => ?_, e2, ?_, ?_, a1, fun _ => ⟨ac, am⟩, fun h => absurd k4 h, fun h => absurd h (by unfold hfx; omega)⟩
          · rw [if_neg (fun h => by have := (nIl 3 (by omega) (by omega)).mp h; omega), if_pos ((nIl 4 (by omega) (by omega)).mpr k4), bd_e e1]
          · rw [if_neg (fun h => by have := (nIl 5 (by omega) (by omega)).mp h; omega), if_neg (fun h => by have := (nIl 6 (by omega) (by omega)).mp h; omega), if_pos ((nIl 4 (by omega) (by omega)).mpr k4), bd_e e3, bd_e (sx_e hKM _), bd_e (ahead_e _ _ _), bd_e (sy_e hKM _), bd_e (ahead_e _ _ _), bd_e (ends_m hi21), bd_e e4]
          · have : R0 + 2261 * ((i : Int) - 1) + 5 * t + 2261 + 5 * ((a : Int) - t) = R0 + 2261 * i + 5 * a := by omega
            rw [this] at e5
            exact e5
        · have hh : hfx k := by unfold hfx; omega
          have hp := pxy (b := b) hPl hi21 (hPM.leg i hi) hk hk9 (Or.inl hh)
          have hb := pnb hL hk hk9 hh
          by_cases k3 : k = 3
          · obtain ⟨k1, k19, k1c, k1m, -⟩ := (hP.leg (i - 1) (by omega)).kd
            obtain ⟨c1, m1, r1, e1, e2, e3, e4⟩ := mid_cf (B := 14143) (v := v) (k1 := k1) hPl hI hD hKM hSM hNM hr hi21 hi h0 (by omega) hR hxM hyM (hsM.le (by omega)) hb (by omega) (by omega) vc (by rw [M1 1 (by decide)]; exact vm) rfl rfl k1c (by rw [M1 1 (by decide)]; exact k1m) k19
            refine ⟨c1, m1, r1, t, fun J => ?_, e2, ?_, e4.leB (by omega), ht, fun h => absurd h k4, fun _ => rfl, fun _ B' hB' => e4.leB hB'⟩
            · rw [if_pos ((nIl 3 (by omega) (by omega)).mpr k3), bd_e e1]
            · rw [if_neg (fun h => by have := (nIl 5 (by omega) (by omega)).mp h; omega), if_neg (fun h => by have := (nIl 6 (by omega) (by omega)).mp h; omega), if_neg (fun h => by have := (nIl 4 (by omega) (by omega)).mp h; omega), bd_e hp.1, bd_e hp.2, bd_e (ends_m hi21), if_pos ((nIl 3 (by omega) (by omega)).mpr k3), bd_e e3]
          · obtain ⟨c1, m1, r1, e1, e2, e3, e4⟩ := mid_fix (B := 14143) (P := P) hI hD hKM hSM hNM (by omega) hi21 hi (by omega) hR hxM hyM (hsM.le (by omega)) hb (by omega)
            refine ⟨_, m1, r1, t, fun J => ?_, Dm_eh hI e2, ?_, e4.leB (by omega), ht, fun h => absurd h k4, fun _ => rfl, fun _ B' hB' => e4.leB hB'⟩
            · rw [if_neg (fun h => by have := (nIl 3 (by omega) (by omega)).mp h; omega), if_neg (fun h => by have := (nIl 4 (by omega) (by omega)).mp h; omega), if_neg (fun h => by have := (nIl 5 (by omega) (by omega)).mp h; omega), if_neg (fun h => by have := (nIl 6 (by omega) (by omega)).mp h; omega), bd_e (pg hI hD hi21 (by decide)), bd_e (pg hI hD hi21 (by decide)), bd_e e1, bd_e (endHere_c hI e2 hi21)]
            · rw [if_neg (fun h => by have := (nIl 5 (by omega) (by omega)).mp h; omega), if_neg (fun h => by have := (nIl 6 (by omega) (by omega)).mp h; omega), if_neg (fun h => by have := (nIl 4 (by omega) (by omega)).mp h; omega), bd_e hp.1, bd_e hp.2, bd_e (ends_m hi21), if_neg (fun h => by have := (nIl 3 (by omega) (by omega)).mp h; omega), bd_e e3]
  obtain ⟨c', m', r', t', e1, e2, e3, e4, e5, e6, e7, e8⟩ := key
  rw [eM] at e4 e8
  exact ⟨c', m', r', t', e1, e2, e3, e4.fro, e5, e6, e7, fun h B' hB' => (e8 h B' hB').fro⟩
