/-! a leg that does not start anew -/
variable {N : Nat}
def MID (N : Nat) (c m c' m' : St) (b : Nat) (R B : Int) (r r' i : Nat) : Prop :=
  (r ≤ r') ∧
  (r' ≤ r + 2) ∧
  (SR N c' m' b R r') ∧
  (IR N c' m' b R r') ∧
  (∀ a, a ≠ b + 2 → a ≠ b + 3 → a ≠ b + 5 → c' a = c a) ∧
  (c' (b + 3) 11 = c (b + 3) 11) ∧
  (∀ k, k ≠ i * 16 + 1 → k ≠ i * 16 + 2 → k ≠ i * 16 + 3 → c' (b + 2) k = c (b + 2) k) ∧
  (∀ a, a ≠ 0 → (a < 7 ∨ 21 < a ∨ a = 18) → m' a = m a) ∧
  (∀ a k, 19 ≤ a → a ≤ 21 → k ≠ i → m' a k = m a k) ∧
  (∀ k, (k < 30 ∨ 34 < k) → k ≠ 42 → k ≠ 43 → m' 0 k = m 0 k) ∧
  (∀ u, r ≤ u → u < r' → m' 7 u = nI i) ∧
  (∀ u, u < r → ∀ a, 7 ≤ a → a ≤ 17 → m' a u = m a u) ∧
  ((if r' ≤ r then m 0 31 else m' 13 (r' - 1)) = m' 0 31) ∧
  ((m' 19 i = m 19 i ∧ (∀ k, c' (b + 2) k = c (b + 2) k)) ∨ (m' 19 i = 1 ∧ c' (b + 2) (i * 16 + 1) = 1 ∧ c' (b + 2) (i * 16 + 2) = m' 20 i ∧ c' (b + 2) (i * 16 + 3) = m' 21 i ∧ c' (b + 3) 5 = m' 20 i ∧ c' (b + 3) 6 = m' 21 i ∧ Nb B (m' 20 i) (m' 21 i)))
theorem MID.le {N : Nat} {c m c' m' : St} {b : Nat} {R B : Int} {r r' i : Nat} (h : MID N c m c' m' b R B r r' i) : r ≤ r' := h.1
theorem MID.le2 {N : Nat} {c m c' m' : St} {b : Nat} {R B : Int} {r r' i : Nat} (h : MID N c m c' m' b R B r r' i) : r' ≤ r + 2 := h.2.1
theorem MID.sr {N : Nat} {c m c' m' : St} {b : Nat} {R B : Int} {r r' i : Nat} (h : MID N c m c' m' b R B r r' i) : SR N c' m' b R r' := h.2.2.1
theorem MID.ir {N : Nat} {c m c' m' : St} {b : Nat} {R B : Int} {r r' i : Nat} (h : MID N c m c' m' b R B r r' i) : IR N c' m' b R r' := h.2.2.2.1
theorem MID.fc {N : Nat} {c m c' m' : St} {b : Nat} {R B : Int} {r r' i : Nat} (h : MID N c m c' m' b R B r r' i) : ∀ a, a ≠ b + 2 → a ≠ b + 3 → a ≠ b + 5 → c' a = c a := h.2.2.2.2.1
theorem MID.f11 {N : Nat} {c m c' m' : St} {b : Nat} {R B : Int} {r r' i : Nat} (h : MID N c m c' m' b R B r r' i) : c' (b + 3) 11 = c (b + 3) 11 := h.2.2.2.2.2.1
theorem MID.f2 {N : Nat} {c m c' m' : St} {b : Nat} {R B : Int} {r r' i : Nat} (h : MID N c m c' m' b R B r r' i) : ∀ k, k ≠ i * 16 + 1 → k ≠ i * 16 + 2 → k ≠ i * 16 + 3 → c' (b + 2) k = c (b + 2) k := h.2.2.2.2.2.2.1
theorem MID.fm {N : Nat} {c m c' m' : St} {b : Nat} {R B : Int} {r r' i : Nat} (h : MID N c m c' m' b R B r r' i) : ∀ a, a ≠ 0 → (a < 7 ∨ 21 < a ∨ a = 18) → m' a = m a := h.2.2.2.2.2.2.2.1
theorem MID.fe {N : Nat} {c m c' m' : St} {b : Nat} {R B : Int} {r r' i : Nat} (h : MID N c m c' m' b R B r r' i) : ∀ a k, 19 ≤ a → a ≤ 21 → k ≠ i → m' a k = m a k := h.2.2.2.2.2.2.2.2.1
theorem MID.f0 {N : Nat} {c m c' m' : St} {b : Nat} {R B : Int} {r r' i : Nat} (h : MID N c m c' m' b R B r r' i) : ∀ k, (k < 30 ∨ 34 < k) → k ≠ 42 → k ≠ 43 → m' 0 k = m 0 k := h.2.2.2.2.2.2.2.2.2.1
theorem MID.lg {N : Nat} {c m c' m' : St} {b : Nat} {R B : Int} {r r' i : Nat} (h : MID N c m c' m' b R B r r' i) : ∀ u, r ≤ u → u < r' → m' 7 u = nI i := h.2.2.2.2.2.2.2.2.2.2.1
theorem MID.old {N : Nat} {c m c' m' : St} {b : Nat} {R B : Int} {r r' i : Nat} (h : MID N c m c' m' b R B r r' i) : ∀ u, u < r → ∀ a, 7 ≤ a → a ≤ 17 → m' a u = m a u := h.2.2.2.2.2.2.2.2.2.2.2.1
theorem MID.la {N : Nat} {c m c' m' : St} {b : Nat} {R B : Int} {r r' i : Nat} (h : MID N c m c' m' b R B r r' i) : (if r' ≤ r then m 0 31 else m' 13 (r' - 1)) = m' 0 31 := h.2.2.2.2.2.2.2.2.2.2.2.2.1
theorem MID.en {N : Nat} {c m c' m' : St} {b : Nat} {R B : Int} {r r' i : Nat} (h : MID N c m c' m' b R B r r' i) : (m' 19 i = m 19 i ∧ (∀ k, c' (b + 2) k = c (b + 2) k)) ∨ (m' 19 i = 1 ∧ c' (b + 2) (i * 16 + 1) = 1 ∧ c' (b + 2) (i * 16 + 2) = m' 20 i ∧ c' (b + 2) (i * 16 + 3) = m' 21 i ∧ c' (b + 3) 5 = m' 20 i ∧ c' (b + 3) 6 = m' 21 i ∧ Nb B (m' 20 i) (m' 21 i)) := h.2.2.2.2.2.2.2.2.2.2.2.2.2

def eh (c : St) (b i : Nat) : St := s2 (s2 (s2 c (b + 2) (i * 16 + 1) 1) (b + 2) (i * 16 + 2) (c (b + 3) 5)) (b + 2) (i * 16 + 3) (c (b + 3) 6)
def mE (m : St) (i : Nat) (x y : Int32) : St := s2 (s2 (s2 m 19 i 1) 20 i x) 21 i y
theorem endHere_c {c : St} {b q i : Nat} (hI : PI b q) (hD : Dm c) (hi : i < 21) : f_Tk_endHere c (b + 3) (nI i) = some (eh c b i) := by
  have nt := hI.nt.2.1
  unfold f_Tk_endHere eh
  rw [rc_b32 hI, bd_e (lgp hI hD hi (by decide)), bd_e (lgp hI (hD.s2 nt) hi (by decide)), bd_e (lgp hI ((hD.s2 nt).s2 nt) hi (by decide)), s2_ne (by omega), s2_ne (by omega), s2_ne (by omega)]
theorem ends_m {m : St} {i : Nat} {x y : Int32} (hi : i < 21) : m_ends m (nI i) x y = some (mE m i x y) := by
  unfold m_ends mE
  rw [Gd_t (Ix_n hi (by decide)), Lt_e, Gd_t (Ix_n hi (by decide)), Lt_e, Gd_t (Ix_n hi (by decide)), Lt_e, nI_clamp (by omega)]
  rfl
theorem eh_o {c : St} {b i a : Nat} (h : a ≠ b + 2) : eh c b i a = c a := by unfold eh; rw [s2_ne h, s2_ne h, s2_ne h]
theorem eh_2 {c : St} {b i k : Nat} (h1 : k ≠ i * 16 + 1) (h2 : k ≠ i * 16 + 2) (h3 : k ≠ i * 16 + 3) : eh c b i (b + 2) k = c (b + 2) k := by unfold eh; rw [s2_k h3, s2_k h2, s2_k h1]
theorem eh_3 {c : St} {b i : Nat} : eh c b i (b + 2) (i * 16 + 1) = 1 ∧ eh c b i (b + 2) (i * 16 + 2) = c (b + 3) 5 ∧ eh c b i (b + 2) (i * 16 + 3) = c (b + 3) 6 := by
  unfold eh
  refine ⟨?_, ?_, ?_⟩
  · rw [s2_k (by omega), s2_k (by omega), s2_at]
  · rw [s2_k (by omega), s2_at]
  · rw [s2_at]
theorem mE_o {m : St} {i a : Nat} {x y : Int32} (h : a < 19 ∨ 21 < a) : mE m i x y a = m a := by unfold mE; rw [s2_ne (by omega), s2_ne (by omega), s2_ne (by omega)]
theorem mE_k {m : St} {i a k : Nat} {x y : Int32} (h : k ≠ i) : mE m i x y a k = m a k := by unfold mE; rw [s2_nk (Or.inr h), s2_nk (Or.inr h), s2_nk (Or.inr h)]
theorem mE_3 {m : St} {i : Nat} {x y : Int32} : mE m i x y 19 i = 1 ∧ mE m i x y 20 i = x ∧ mE m i x y 21 i = y := by
  unfold mE
  refine ⟨?_, ?_, ?_⟩
  · rw [s2_ne (by decide), s2_ne (by decide), s2_at]
  · rw [s2_ne (by decide), s2_at]
  · rw [s2_at]
theorem Dm_eh {c : St} {b q i : Nat} (hI : PI b q) (hD : Dm c) : Dm (eh c b i) := by
  have nt := hI.nt.2.1
  exact ((hD.s2 nt).s2 nt).s2 nt
theorem SR.mE {c m : St} {b r i : Nat} {R : Int} {x y : Int32} (h : SR N c m b R r) : SR N c (mE m i x y) b R r := h.of rfl rfl (by rw [mE_o (by omega)]) (fun a p q => mE_o (by omega))
theorem IR.mE {c m : St} {b r i : Nat} {R : Int} {x y : Int32} (h : IR N c m b R r) : IR N c (mE m i x y) b R r := h.of rfl rfl rfl rfl (fun k _ _ => by rw [mE_o (by omega)]) (fun _ => by rw [mE_o (by omega)])
theorem RefK.of {m m' : St} (h : RefK m) (h5 : m' 5 = m 5) (h6 : m' 6 = m 6) (h42 : m' 42 = m 42) : RefK m' := by
  unfold RefK at *
  rw [h5, h6, h42]
  exact h
theorem mid_end {c m c1 m2 : St} {b r r' i : Nat} {R B : Int} {x y : Int32} (h : SS N c (mE m i x y) c1 m2 b R r r' i) (hr : r' ≤ r + 2) (hx : c1 (b + 3) 5 = x) (hy : c1 (b + 3) 6 = y) (hB : Nb B x y) : MID N c m (eh c1 b i) m2 b R B r r' i := by
  have e19 : ∀ a k, 19 ≤ a → a ≤ 21 → m2 a k = mE m i x y a k := fun a k p q => by rw [h.fm a (by omega) (by omega)]
  have e3 := mE_3 (m := m) (i := i) (x := x) (y := y)
  have f3 := eh_3 (c := c1) (b := b) (i := i)
  refine ⟨h.le, hr, h.sr.of (by rw [eh_o (by omega)]) (eh_o (by omega)) rfl (fun _ _ _ => rfl), h.ir.of (by rw [eh_o (by omega)]) (by rw [eh_o (by omega)]) (by rw [eh_o (by omega)]) (by rw [eh_o (by omega)]) (fun _ _ _ => rfl) (fun _ => rfl), fun a p q s => (eh_o p).trans (h.fc a q s), by rw [eh_o (by omega)]; exact h.f11, fun k p q s => by rw [eh_2 p q s, h.fc (b + 2) (by omega) (by omega)], fun a p q => by rw [h.fm a p (by omega), mE_o (by omega)], fun a k p q s => by rw [e19 a k p q, mE_k s], fun k p q s => by rw [h.f0 k p q s, mE_o (by omega)], h.lg, fun u p a q s => by rw [h.old u p a q s, mE_o (by omega)], ?_, Or.inr ⟨?_, f3.1, ?_, ?_, ?_, ?_, ?_⟩⟩
  · have := h.la
    rw [mE_o (by omega)] at this
    exact this
  · rw [e19 _ _ (by decide) (by decide), e3.1]
  · rw [e19 _ _ (by decide) (by decide), e3.2.1, f3.2.1, hx]
  · rw [e19 _ _ (by decide) (by decide), e3.2.2, f3.2.2, hy]
  · rw [e19 _ _ (by decide) (by decide), e3.2.1, eh_o (by omega), hx]
  · rw [e19 _ _ (by decide) (by decide), e3.2.2, eh_o (by omega), hy]
  · rw [e19 _ _ (by decide) (by decide), e3.2.1, e19 _ _ (by decide) (by decide), e3.2.2]
    exact hB
theorem mid_no {c m c1 m2 : St} {b r r' i : Nat} {R B : Int} (h : SS N c m c1 m2 b R r r' i) (hr : r' ≤ r + 2) : MID N c m c1 m2 b R B r r' i :=
  ⟨h.le, hr, h.sr, h.ir, fun a _ q s => h.fc a q s, h.f11, fun k _ _ _ => by rw [h.fc (b + 2) (by omega) (by omega)], fun a p q => h.fm a p (by omega), fun a k p q _ => by rw [h.fm a (by omega) (by omega)], h.f0, h.lg, h.old, h.la, Or.inl ⟨by rw [h.fm 19 (by decide) (by decide)], fun k => by rw [h.fc (b + 2) (by omega) (by omega)]⟩⟩
/-- a leg's point -/
theorem pxy {c m : St} {b q P i k : Nat} {R : Int} (hP : P ≤ 2376) (hi : i < 21) (h : LegR c m q P R i) (hk : c (q + 2) (i * 14 + 0) = nI k) (hk9 : k < 9) (hh : hfx k ∨ k = 8) : m_pointX m (nI P) (nI i) = some (c (q + 2) (i * 14 + 7)) ∧ m_pointY m (nI P) (nI i) = some (c (q + 2) (i * 14 + 8)) := by
  obtain ⟨k', h9, e1, e2, e3, e4, e5⟩ := h.kd
  have ek : k' = k := by
    rw [hk] at e1
    exact ((nI_eq (by omega) (by omega)).mp e1).symm
  subst ek
  by_cases h8 : k' = 8
  · have e8 := e5 h8
    have ec : nI k' = (8 : Int32) := by rw [h8]; rfl
    unfold m_pointX m_pointY
    rw [bd_e (mof hP hi (by decide)), bd_e (mof hP hi (by decide)), Jn_e, e2, if_pos ec, bd_e (mof hP hi (by decide)), Jn_e, if_pos ec, bd_e (mof hP hi (by decide)), e8.2.1, e8.2.2.1]
    exact ⟨rfl, rfl⟩
  · obtain ⟨f, F, f1, f2, f3, f4, f5, f6, f7, f8⟩ := e3 (hh.resolve_right h8)
    have ec : ¬ nI k' = (8 : Int32) := fun q => h8 ((nI_eq (a := k') (b := 8) (by omega) (by omega)).mp q)
    unfold m_pointX m_pointY
    rw [bd_e (mof hP hi (by decide)), bd_e (mof hP hi (by decide)), Jn_e, e2, if_neg ec, bd_e (mof hP hi (by decide)), Jn_e, if_neg ec, bd_e (mof hP hi (by decide)), f5, Gd_t (Ix_n (by omega) (by decide)), Gd_t (Ix_n (by omega) (by decide)), nI_clamp (by omega), f6, f7]
    exact ⟨rfl, rfl⟩
theorem pnb {c m : St} {q P i k : Nat} {R : Int} (h : LegR c m q P R i) (hk : c (q + 2) (i * 14 + 0) = nI k) (hk9 : k < 9) (hh : hfx k) : Nb 14143 (c (q + 2) (i * 14 + 7)) (c (q + 2) (i * 14 + 8)) := by
  obtain ⟨k', h9, e1, e2, e3, e4, e5⟩ := h.kd
  have ek : k' = k := by
    rw [hk] at e1
    exact ((nI_eq (by omega) (by omega)).mp e1).symm
  subst ek
  obtain ⟨f, F, f1, f2, f3, f4, f5, f6, f7, f8⟩ := e3 hh
  rw [f6, f7]
  exact f8
/-- to a fix -/
theorem mid_fix {c m : St} {b q P r i : Nat} {R B : Int} {x y : Int32} (hI : PI b q) (hD : Dm c) (hK : RefK m) (hS : SR N c m b R r) (hN : IR N c m b R r) (hr : r < 42) (hi : i < 21) (hiN : i < N) (h14 : 14200 ≤ R) (hR : R ≤ 5940000) (hx : c (b + 3) 5 = m 0 42) (hy : c (b + 3) 6 = m 0 43) (hs : Nb R (m 0 42) (m 0 43)) (ht : Nb 14143 x y) (hB : 14143 ≤ B) :
    ∃ c1 m' r', f_Tk_runTo c (b + 3) (nI i) x y = some c1 ∧ Dm c1 ∧ m_straightTo (mE m i x y) (nI i) x y = some m' ∧ MID N c m (eh c1 b i) m' b R B r r' i := by
  have z : ∀ k, mE m i x y 0 k = m 0 k := fun k => by rw [mE_o (by omega)]
  obtain ⟨c1, m1, r1, e1, e2, e3, e4, e5, e6⟩ := run_lock (c := c) (m := mE m i x y) (g := i) (tx := x) (ty := y) hI hD (hK.of (mE_o (by omega)) (mE_o (by omega)) (mE_o (by omega))) hS.mE hN.mE hr hi hiN h14 hR (by rw [z]; exact hx) (by rw [z]; exact hy) (by rw [z, z]; exact hs) (ht.le (by decide))
  exact ⟨c1, m1, r1, e1, hD.of (fun t k ht => by rw [e4.fc t (fun e => by rw [e, hI.nt.2.2.1] at ht; cases ht) (fun e => by rw [e, hI.nt.2.2.2.1] at ht; cases ht)]), e2, mid_end e4 (by omega) e5 e6 (ht.le hB)⟩
theorem SS.Dm {c m c' m' : St} {b q r r' g : Nat} {R : Int} (hI : PI b q) (h : SS N c m c' m' b R r r' g) (hD : Dm c) : Dm c' :=
  hD.of (fun t k ht => by rw [h.fc t (fun e => by rw [e, hI.nt.2.2.1] at ht; cases ht) (fun e => by rw [e, hI.nt.2.2.2.1] at ht; cases ht)])
theorem SS.RefK {c m c' m' : St} {b r r' g : Nat} {R : Int} (h : SS N c m c' m' b R r r' g) (hK : RefK m) : RefK m' := hK.of (h.fm _ (by decide) (by decide)) (h.fm _ (by decide) (by decide)) (h.fm _ (by decide) (by decide))
/-- on a course to a fix -/
theorem mid_cf {c m : St} {b q P r i v k1 : Nat} {R B : Int} {x y : Int32} (hP : P ≤ 2376) (hI : PI b q) (hD : Dm c) (hK : RefK m) (hS : SR N c m b R r) (hN : IR N c m b R r) (hr : r + 1 < 42) (hi : i < 21) (hiN : i < N) (h0 : 0 < i) (h14 : 14200 ≤ R) (hR : R ≤ 5940000) (hx : c (b + 3) 5 = m 0 42) (hy : c (b + 3) 6 = m 0 43) (hs : Nb R (m 0 42) (m 0 43)) (ht : Nb 14143 x y) (hB : 14143 ≤ B)
    (hv : v < 24) (hvc : c (q + 2) (i * 14 + 2) = nI v) (hvm : m 1 (P + 3 + 14 * i + 2) = nI v) (hX : c (q + 2) (i * 14 + 7) = x) (hY : c (q + 2) (i * 14 + 8) = y) (hkc : c (q + 2) ((i - 1) * 14 + 0) = nI k1) (hkm : m 1 (P + 3 + 14 * (i - 1) + 0) = nI k1) (hk1 : k1 < 9) :
    ∃ c' m' r', f_Tk_followCourseToFix c (b + 3) (nI i) = some c' ∧ Dm c' ∧ m_laysCourseToFix (mE m i x y) (nI P) (nI i) x y = some m' ∧ MID N c m c' m' b R B r r' i := by
  have z : ∀ k, mE m i x y 0 k = m 0 k := fun k => by rw [mE_o (by omega)]
  have z1 : mE m i x y 1 = m 1 := mE_o (by omega)
  have ei : nI i - (1 : Int32) = nI (i - 1) := pk_sub (a := i) (b := 1) (by omega)
  have hKE : RefK (mE m i x y) := hK.of (mE_o (by omega)) (mE_o (by omega)) (mE_o (by omega))
  unfold f_Tk_followCourseToFix m_laysCourseToFix
  rw [rc_b30 hI, rc_q0 hI, bd_e (pg hI hD hi (by decide)), bd_e (pg hI hD hi (by decide)), bd_e (pg hI hD hi (by decide)), ei, bd_e (kd_c hI hD (show i - 1 < 21 by omega)), bd_e (mof hP hi (by decide)), bd_e (mof hP (show i - 1 < 21 by omega) (by decide)), z1, hvc, hvm, hX, hY, hkc, hkm, Jn_e]
  by_cases h5 : nI k1 = (5 : Int32)
  · rw [if_pos h5, if_pos h5]
    obtain ⟨d, d1, d2, d3, d4, d5⟩ := dist_n hs ht (by omega) (by decide)
    rw [hx, hy, z, z, bd_e d1, bd_e d2]
    obtain ⟨c1, m1, r1, e1, e2, e3, e4, e5, e6⟩ := tow_lock (c := c) (m := mE m i x y) (g := i) (v := v) (l := d) (tx := x) (ty := y) hI hD hS.mE hN.mE (by omega) hi hiN hv (by omega) hR (by rw [z]; exact hx) (by rw [z]; exact hy) (by rw [z, z]; exact hs) (ht.le (by omega)) (by rw [z, z]; exact d4) (by rw [z, z]; exact d5)
    rw [bd_e e1, bd_e e2]
    exact ⟨_, _, r1, bd_e (endHere_c hI (e4.Dm hI hD) hi), Dm_eh hI (e4.Dm hI hD), rfl, mid_end e4 (by omega) e5 e6 (ht.le hB)⟩
  · rw [if_neg h5, if_neg h5, bd_e (pointX_e c _ _ _), bd_e (pointY_e c _ _ _), bd_e (sx_e hKE _), bd_e (ahead_e _ _ _), bd_e (sy_e hKE _), bd_e (ahead_e _ _ _)]
    have e12 : nI v + (12 : Int32) = nI (v + 12) := nI_add v 12
    have hb := ah_nb (l := 50) (v := v + 12) ht (by decide) (by decide) (by omega)
    rw [e12]
    obtain ⟨c1, m1, r1, e1, e2, e3, e4, e5, e6⟩ := run_lock (c := c) (m := mE m i x y) (g := i) hI hD hKE hS.mE hN.mE (by omega) hi hiN h14 hR (by rw [z]; exact hx) (by rw [z]; exact hy) (by rw [z, z]; exact hs) (hb.le (by decide))
    have hD1 := e4.Dm hI hD
    have e7 := e4.fx (x := ah x (nI 50) (sn (nI (v + 12)))) (y := ah y (nI 50) (sn (nI (v + 12) + (6 : Int32))))
    obtain ⟨c2, m2, r2, g1, g2, g3, g4, g5, g6⟩ := tow_lock (c := c1) (m := s2 (s2 m1 0 42 (ah x (nI 50) (sn (nI (v + 12))))) 0 43 (ah y (nI 50) (sn (nI (v + 12) + (6 : Int32))))) (g := i) (v := v) (l := 50) (tx := x) (ty := y) hI hD1 e7.sr e7.ir (by omega) hi hiN hv (by omega) hR (by rw [s2_k (by decide), s2_at]; exact e5) (by rw [s2_at]; exact e6) (by rw [s2_k (by decide), s2_at, s2_at]; exact hb.le (by omega)) (ht.le (by omega)) (fun h => absurd h (by decide)) (by rw [s2_k (by decide), s2_at, s2_at, dsq_comm]; exact ah_d (l := 50) ht (by decide) (by decide) (by omega))
    have e50 : (50 : Int32) = nI 50 := rfl
    rw [e50, bd_e e1, bd_e e2, Lt_e, Lt_e, bd_e g1, bd_e g2]
    exact ⟨_, _, r2, bd_e (endHere_c hI (g4.Dm hI hD1) hi), Dm_eh hI (g4.Dm hI hD1), rfl, mid_end (e7.trans g4) (by omega) g5 g6 (ht.le hB)⟩
/-- a climb's length -/
theorem cl_lock {a t : Nat} {G : Int32} (ha : a ≤ 450) (ht : t ≤ 450) (hG : 100 ≤ G.toInt ∧ G.toInt ≤ 900) : ∃ l : Nat, 10 ≤ l ∧ l ≤ 4500 ∧ (l : Int) ≤ 2260 + 5 * ((a : Int) - t) ∧ imax (10 : Int32) (((nI a - nI t) * (1000 : Int32)) / G) = nI l ∧ (if (10 : Int64) ≤ ((Int32.toInt64 (nI a - nI t)) * (1000 : Int64)) / (Int32.toInt64 G) then (Int64.toInt32 (((Int32.toInt64 (nI a - nI t)) * (1000 : Int64)) / (Int32.toInt64 G))) else (10 : Int32)) = nI l := by
  have ea : (nI a).toInt = (a : Int) := nI_toInt (by omega)
  have et : (nI t).toInt = (t : Int) := nI_toInt (by omega)
  have k10 : (10 : Int32).toInt = 10 := by decide
  have k10L : (10 : Int64).toInt = 10 := by decide
  have e0 : (nI a - nI t).toInt = (a : Int) - t := by rw [tI_sub (by omega) (by omega), ea, et]
  have e1 : (((nI a - nI t) * (1000 : Int32)) / G).toInt = (((a : Int) - t) * 1000).tdiv G.toInt := by rw [tI_div rfl (by omega), tI_mul (by rw [e0, k1000]; omega) (by rw [e0, k1000]; omega), e0, k1000]
  have e2 : (((Int32.toInt64 (nI a - nI t)) * (1000 : Int64)) / (Int32.toInt64 G)).toInt = (((a : Int) - t) * 1000).tdiv G.toInt := by rw [tL_div (tw G) (by omega), tL_mul (by rw [tw, e0, k1000L]; omega) (by rw [tw, e0, k1000L]; omega), tw, e0, k1000L]
  have bnd : (((a : Int) - t) * 1000).tdiv G.toInt ≤ 10 * ((a : Int) - t) ∨ ((a : Int) - t < 0 ∧ (((a : Int) - t) * 1000).tdiv G.toInt ≤ 0) := by
    rcases Int.lt_or_le ((a : Int) - t) 0 with h | h
    · right
      refine ⟨h, ?_⟩
      rw [td_neg (by omega)]
      have := Int.ediv_nonneg (a := -(((a : Int) - t) * 1000)) (b := G.toInt) (by omega) (by omega)
      omega
    · left
      rw [td_pos (by omega)]
      apply Int.ediv_le_of_le_mul (by omega)
      have := Int.mul_le_mul_of_nonneg_left hG.1 (show 0 ≤ 10 * ((a : Int) - t) by omega)
      omega
  have lo : -450000 ≤ (((a : Int) - t) * 1000).tdiv G.toInt := (tdb (x := ((a : Int) - t) * 1000) (d := G.toInt) (B := 450000) (by omega) (by omega) (by omega)).1
  generalize (((a : Int) - t) * 1000).tdiv G.toInt = z at *
  by_cases hz : 10 ≤ z
  · refine ⟨z.toNat, by omega, by omega, by omega, i2 ?_, ?_⟩
    · have hx : imax (10 : Int32) (((nI a - nI t) * (1000 : Int32)) / G) = (((nI a - nI t) * (1000 : Int32)) / G) := by
        unfold imax
        by_cases q : (10 : Int32) < (((nI a - nI t) * (1000 : Int32)) / G)
        · rw [if_pos q]
        · rw [if_neg q]
          apply i2
          have := mt Int32.lt_iff_toInt_lt.mpr q
          omega
      rw [hx, e1, nI_toInt (by omega)]
      omega
    · rw [if_pos (Int64.le_iff_toInt_le.mpr (by rw [k10L, e2]; exact hz))]
      apply i2
      rw [tn (by omega) (by omega), e2, nI_toInt (by omega)]
      omega
  · refine ⟨10, by omega, by omega, by omega, ?_, ?_⟩
    · unfold imax
      rw [if_neg (fun q => by have := Int32.lt_iff_toInt_lt.mp q; omega)]
      rfl
    · rw [if_neg (fun q => by have := Int64.le_iff_toInt_le.mp q; omega)]
      rfl
