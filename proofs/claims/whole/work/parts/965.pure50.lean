/-! the history; the start of an edit -/

theorem scp_in {c : St} {i j sp dp n k : Nat} (h : k < n) : scp c i j sp dp n j (dp + k) = c i (sp + k) := by
  unfold scp va_cpy
  rw [if_pos rfl, if_pos (by omega), show dp + k - dp = k by omega]
theorem scp_out {c : St} {i j sp dp n k : Nat} (h : k < dp ∨ dp + n ≤ k) : scp c i j sp dp n j k = c j k := by
  unfold scp va_cpy
  rw [if_pos rfl, if_neg (by omega)]
theorem Dm.scp {c : St} {i j sp dp n : Nat} (h : Dm c) (hj : isTab j = false) : Dm (scp c i j sp dp n) := h.of (fun t k ht => by
  rw [scp_ne (by rintro rfl; rw [hj] at ht; exact absurd ht (by decide))])
theorem zp_tr {c c' : St} {q q' n : Nat} (h1 : ∀ k, k < n * 14 → c' (q' + 2) k = c (q + 2) k) : zp c' q' n = zp c q n := by
  unfold zp
  by_cases h : 2 ≤ n
  · rw [h1 (1 * 14 + 0) (by omega), h1 (1 * 14 + 13) (by omega)]
  · rw [if_neg (fun q => h q.1), if_neg (fun q => h q.1)]
theorem FB.tr {c c' : St} {q q' n : Nat} (h : FB c q n) (h1 : ∀ k, k < n * 14 → c' (q' + 2) k = c (q + 2) k) (h2 : c' 1 1 = c 1 1) : FB c' q' n := by
  intro i k p1 p2 p3 p4
  rw [h1 _ (by omega)] at p2
  rw [h1 _ (by omega), h2]
  exact h i k p1 p2 p3 p4
theorem LegR.cp {c m c' m' : St} {q P q' P' i n : Nat} {R : Int} (h : LegR c m q P R i) (hi : i < n) (hn : n ≤ 21) (h1 : ∀ k, k < n * 14 → c' (q' + 2) k = c (q + 2) k) (h3 : ∀ k, k < 297 → m' 1 (P' + k) = m 1 (P + k)) (m3 : m' 3 = m 3) (m4 : m' 4 = m 4) : LegR c' m' q' P' R i :=
  h.tr (fun j hj => h1 _ (by omega)) (fun j hj => by
    have := h3 (3 + 14 * i + j) (by omega)
    rw [show P' + 3 + 14 * i + j = P' + (3 + 14 * i + j) by omega, show P + 3 + 14 * i + j = P + (3 + 14 * i + j) by omega]
    exact this) m3 m4 (Int.le_refl _) (fun e => by
    obtain ⟨k, k1, k2, k3, k4, k5, k6⟩ := h.kd
    rw [k2] at e
    exact (k6 ((nIl 8 (by omega) (by decide)).mp e)).1)
theorem MP.tr {t : Nat} {c m c' m' : St} {q P q' P' n cu rs cur fl : Nat} {R : Int} (h : MP t c m q P n cu rs R cur fl) (h1 : ∀ k, k < n * 14 → c' (q' + 2) k = c (q + 2) k) (h2 : c' 1 1 = c 1 1) (h3 : ∀ k, k < 297 → m' 1 (P' + k) = m 1 (P + k)) (m3 : m' 3 = m 3) (m4 : m' 4 = m 4) : MP t c' m' q' P' n cu rs R cur fl := by
  obtain ⟨a1, a2, a3, ⟨a4, a5⟩, a6⟩ := h
  refine ⟨a1, a2, fun i hi => (a3 i hi).cp hi (by omega) h1 h3 m3 m4, ⟨a4, a5.tr h1 h2⟩, ?_⟩
  rw [zp_tr h1]
  exact a6
theorem HE.tr {t : Nat} {c m c' m' : St} {cur fl s s' j j' : Nat} (h : HE t c m cur fl s j) (h49 : ∀ k, k < 4 → c' 49 (s' * 4 + k) = c 49 (s * 4 + k)) (h51 : ∀ k, k < 280 → c' 51 (s' * 280 + k) = c 51 (s * 280 + k)) (h1 : c' 1 1 = c 1 1) (h3 : ∀ k, k < 297 → m' 1 (891 + 297 * j' + k) = m 1 (891 + 297 * j + k)) (m2 : m' 2 j' = m 2 j) (m3 : m' 3 = m 3) (m4 : m' 4 = m 4) (hj : 0 < j' → 0 < j) : HE t c' m' cur fl s' j' := by
  obtain ⟨e, a1, a2, a3, a4⟩ := h
  refine ⟨e, ⟨a1.1, fun q => a1.2 (hj q)⟩, by rw [h49 0 (by decide)]; exact a2, by rw [m2]; exact a3, fun q => ?_⟩
  obtain ⟨n, cu, rs, R, b1, b2, b3, b4, b5, b6, b7⟩ := a4 q
  have hn := b7.2.1
  refine ⟨n, cu, rs, R, by rw [h49 1 (by decide)]; exact b1, (h3 0 (by decide)).trans b2, by rw [h49 2 (by decide)]; exact b3, by rw [h3 1 (by decide)]; exact b4, by rw [h49 3 (by decide)]; exact b5, by rw [h3 2 (by decide)]; exact b6, b7.tr (fun k hk => ?_) h1 h3 m3 m4⟩
  show vw c' s' 13 k = vw c s 13 k
  unfold vw
  rw [if_pos rfl, if_pos rfl]
  exact h51 k (by omega)
/-- an edit: a call may raise zp by one -/
theorem MP.ch {t : Nat} {c m c' m' : St} {q P n n' cu rs cur fl : Nat} {R : Int} (h : MP t c m q P n cu rs R cur fl) (h1 : 1 ≤ n') (h20 : n' ≤ 20) (hl : ∀ i, i < n' → LegR c' m' q P R i) (hF : FB c' q n') (hcu : cu < n') : MP (t + 1) c' m' q P n' cu rs R cur fl := by
  obtain ⟨a1, a2, a3, a4, a5, a6, a7, a8⟩ := h
  have z1 := zp_b c q n
  have z2 := zp_b c' q n'
  exact ⟨h1, h20, hl, ⟨hcu, hF⟩, a5, a6, fun e => ⟨(a7 e).1, by have := (a7 e).2; omega⟩, fun e => ⟨(a8 e).1, by have := (a8 e).2; omega⟩⟩
/-- behind an edit -/
theorem INV.ed {t na cur fl ed nm nm' : Nat} {Ra : Int} {c m c' m' : St} (hB : IB t c m na cur fl ed nm Ra) (hA : CA c na) (hD : Dm c') (hc : ∀ a, (1 ≤ a ∧ a ≤ 5) ∨ (8 ≤ a ∧ a ≤ 10) ∨ (17 ≤ a ∧ a ≤ 26) → c' a = c a) (h52 : c' 52 2 = c 52 2) (h010 : c' 0 10 = 1) (g01 : m' 0 1 = 1) (h27 : c' 27 5 = 1)
  (hm : ∀ a, 2 < a → (a < 7 ∨ 40 < a) → m' a = m a) (hm1 : ∀ k, k < 297 → m' 1 k = m 1 k) (h0 : ∀ k, k ≠ 1 → k ≠ 2 → (k < 30 ∨ 66 < k) → m' 0 k = m 0 k) (ht : 1 ≤ t)
  (hM : ∃ (cu rs : Nat) (R : Int), c' 11 1 = nI nm' ∧ m' 1 297 = nI nm' ∧ c' 11 2 = nI cu ∧ m' 1 298 = nI cu ∧ c' 11 3 = nI rs ∧ m' 1 299 = nI rs ∧ MP (t + 1) c' m' 11 297 nm' cu rs R cur fl)
  (hH : ∃ sz nx : Nat, sz ≤ 6 ∧ nx < 6 ∧ c' 47 3 = nI sz ∧ m' 0 2 = nI sz ∧ c' 47 2 = nI nx ∧ ∀ j, j < sz → HE (t + 1) c' m' cur fl ((nx + 6 - sz + j) % 6) j) : INV (t + 1) c' m' := by
  obtain ⟨d1, d2, d3, d4, d5, d6, d7, d8, d9, d10, d11, d12, d13, d14, d15⟩ := hB.up
  have c1 := hc 1 (by decide)
  have c8 := hc 8 (by decide)
  have c10 := hc 10 (by decide)
  have m3 := hm 3 (by decide) (by decide)
  have m4 := hm 4 (by decide) (by decide)
  refine ⟨na, cur, fl, 1, nm', Ra, ⟨hD, d2.of (hm _ (by decide) (by decide)) (hm _ (by decide) (by decide)) (hm _ (by decide) (by decide)), d3.of1 (fun k _ => by rw [c1]) (fun k p q => h0 k (by omega) (by omega) (by omega)), ?_, ?_, ⟨d6.le, by rw [c8]; exact d6.cc, by rw [hm1 0 (by decide)]; exact d6.cm, d6.off, fun i hi => (d6.leg i hi).tr (fun j _ => by rw [show c' (8 + 2) = c (8 + 2) from c10]) (fun j hj => hm1 _ (by omega)) m3 m4 (Int.le_refl _) (fun e => ?_)⟩, d7, ?_, d9, ?_, ⟨by decide, h010, g01, fun _ => by omega⟩, fun _ => hM, ?_, ?_, ?_⟩, ?_, fun _ q => ?_⟩
  · unfold FB at *; rw [c1, hc 3 (by decide), c10, h0 7 (by decide) (by decide) (by decide), m3, m4]; exact d4
  · rw [hc 4 (by decide), hc 5 (by decide), h0 68 (by decide) (by decide) (by decide), hm 41 (by decide) (by decide)]; exact d5
  · obtain ⟨k, k1, k2, k3, k4, k5, k6⟩ := (d6.leg i hi).kd
    rw [k2] at e
    exact (k6 ((nIl 8 (by omega) (by decide)).mp e)).1
  · rw [c8, hm1 1 (by decide)]; exact d8
  · unfold zp at *; rw [show c' (8 + 2) = c (8 + 2) from c10]; exact d10
  · obtain ⟨sz, nx, a1, a2⟩ := hH
    exact ⟨sz, nx, ⟨a1, fun q => by omega⟩, a2⟩
  · rw [h52, h0 4 (by decide) (by decide) (by decide)]; exact d14
  · intro q
    obtain ⟨x, a1, a2⟩ := d15 q
    exact ⟨x, a1.of c1 c8 c10, a2⟩
  · intro q
    rw [hc 17 (by decide)] at q
    obtain ⟨x, a1, a2⟩ := hA q
    exact ⟨x, a1.of c1 c8 c10, a2.of (hc _ (by decide)) (by rw [hc _ (by decide)]) (hc _ (by decide))⟩
  · rw [h27] at q
    exact absurd q (by decide)
def RecR (c c1 : St) (nx sz ed : Nat) : Prop :=
  (Dm c1) ∧
  (∀ a, a ≠ 47 → a ≠ 49 → a ≠ 51 → c1 a = c a) ∧
  (c1 47 2 = nI ((nx + 1) % 6)) ∧
  (c1 47 3 = nI (min (sz + 1) 6)) ∧
  (∀ k, k < nx * 4 ∨ nx * 4 + 4 ≤ k → c1 49 k = c 49 k) ∧
  (c1 49 (nx * 4 + 0) = nI ed) ∧
  (c1 49 (nx * 4 + 1) = c 11 1) ∧
  (c1 49 (nx * 4 + 2) = c 11 2) ∧
  (c1 49 (nx * 4 + 3) = (if c 11 3 = 0 then 0 else 1)) ∧
  (∀ k, k < nx * 280 ∨ nx * 280 + 280 ≤ k → c1 51 k = c 51 k) ∧
  (∀ n, n ≤ 20 → c 11 1 = nI n → ∀ k, k < n * 14 → c1 51 (nx * 280 + k) = c 13 k)
theorem RecR.D {c c1 : St} {nx sz ed : Nat} (h : RecR c c1 nx sz ed) : Dm c1 := h.1
theorem RecR.fc {c c1 : St} {nx sz ed : Nat} (h : RecR c c1 nx sz ed) : ∀ a, a ≠ 47 → a ≠ 49 → a ≠ 51 → c1 a = c a := h.2.1
theorem RecR.n {c c1 : St} {nx sz ed : Nat} (h : RecR c c1 nx sz ed) : c1 47 2 = nI ((nx + 1) % 6) := h.2.2.1
theorem RecR.s {c c1 : St} {nx sz ed : Nat} (h : RecR c c1 nx sz ed) : c1 47 3 = nI (min (sz + 1) 6) := h.2.2.2.1
theorem RecR.h {c c1 : St} {nx sz ed : Nat} (h : RecR c c1 nx sz ed) : ∀ k, k < nx * 4 ∨ nx * 4 + 4 ≤ k → c1 49 k = c 49 k := h.2.2.2.2.1
theorem RecR.h0 {c c1 : St} {nx sz ed : Nat} (h : RecR c c1 nx sz ed) : c1 49 (nx * 4 + 0) = nI ed := h.2.2.2.2.2.1
theorem RecR.h1 {c c1 : St} {nx sz ed : Nat} (h : RecR c c1 nx sz ed) : c1 49 (nx * 4 + 1) = c 11 1 := h.2.2.2.2.2.2.1
theorem RecR.h2 {c c1 : St} {nx sz ed : Nat} (h : RecR c c1 nx sz ed) : c1 49 (nx * 4 + 2) = c 11 2 := h.2.2.2.2.2.2.2.1
theorem RecR.h3 {c c1 : St} {nx sz ed : Nat} (h : RecR c c1 nx sz ed) : c1 49 (nx * 4 + 3) = (if c 11 3 = 0 then 0 else 1) := h.2.2.2.2.2.2.2.2.1
theorem RecR.l {c c1 : St} {nx sz ed : Nat} (h : RecR c c1 nx sz ed) : ∀ k, k < nx * 280 ∨ nx * 280 + 280 ≤ k → c1 51 k = c 51 k := h.2.2.2.2.2.2.2.2.2.1
theorem RecR.r {c c1 : St} {nx sz ed : Nat} (h : RecR c c1 nx sz ed) : ∀ n, n ≤ 20 → c 11 1 = nI n → ∀ k, k < n * 14 → c1 51 (nx * 280 + k) = c 13 k := h.2.2.2.2.2.2.2.2.2.2

theorem rec_c {c : St} {nx sz ed : Nat} (hD : Dm c) (hnx : nx < 6) (hsz : sz ≤ 6) (he : ed ≤ 1) (h2 : c 47 2 = nI nx) (h3 : c 47 3 = nI sz) : ∃ c1, f_Hi_record c 47 (nI ed) 11 = some c1 ∧ RecR c c1 nx sz ed := by
  obtain ⟨a1, e1⟩ : ∃ a1, a1 = s2 c 49 (nx * 4 + 0) (nI ed) := ⟨_, rfl⟩
  obtain ⟨a2, e2⟩ : ∃ a2, a2 = s2 a1 49 (nx * 4 + 1) (c 11 1) := ⟨_, rfl⟩
  obtain ⟨a3, e3⟩ : ∃ a3, a3 = s2 a2 49 (nx * 4 + 2) (c 11 2) := ⟨_, rfl⟩
  obtain ⟨a4, e4⟩ : ∃ a4, a4 = s2 a3 49 (nx * 4 + 3) (if c 11 3 = 0 then 0 else 1) := ⟨_, rfl⟩
  have D1 : Dm a1 := by rw [e1]; exact hD.s2 (by decide)
  have D2 : Dm a2 := by rw [e2]; exact D1.s2 (by decide)
  have D3 : Dm a3 := by rw [e3]; exact D2.s2 (by decide)
  have D4 : Dm a4 := by rw [e4]; exact D3.s2 (by decide)
  have o1 : ∀ a, a ≠ 49 → a1 a = c a := fun a p => by rw [e1, s2_ne p]
  have o2 : ∀ a, a ≠ 49 → a2 a = c a := fun a p => by rw [e2, s2_ne p, o1 a p]
  have o3 : ∀ a, a ≠ 49 → a3 a = c a := fun a p => by rw [e3, s2_ne p, o2 a p]
  have o4 : ∀ a, a ≠ 49 → a4 a = c a := fun a p => by rw [e4, s2_ne p, o3 a p]
  have p1 : f_Tb_put c 48 (nI nx) 0 (nI ed) = some a1 := by rw [e1]; exact Tb_put' hD.2.2.1 rfl rfl hnx (by decide)
  have p2 : f_Tb_put a1 48 (nI nx) 1 (c 11 1) = some a2 := by rw [e2]; exact Tb_put' D1.2.2.1 rfl rfl hnx (by decide)
  have p3 : f_Tb_put a2 48 (nI nx) 2 (c 11 2) = some a3 := by rw [e3]; exact Tb_put' D2.2.2.1 rfl rfl hnx (by decide)
  have p4 : f_Tb_put a3 48 (nI nx) 3 (if c 11 3 = 0 then 0 else 1) = some a4 := by rw [e4]; exact Tb_put' D3.2.2.1 rfl rfl hnx (by decide)
  have q4 : ∀ k, k < nx * 4 ∨ nx * 4 + 4 ≤ k → a4 49 k = c 49 k := fun k h => by rw [e4, s2_k (by omega), e3, s2_k (by omega), e2, s2_k (by omega), e1, s2_k (by omega)]
  have r0 : a4 49 (nx * 4 + 0) = nI ed := by rw [e4, s2_k (by omega), e3, s2_k (by omega), e2, s2_k (by omega), e1, s2_at]
  have r1 : a4 49 (nx * 4 + 1) = c 11 1 := by rw [e4, s2_k (by omega), e3, s2_k (by omega), e2, s2_at]
  have r2 : a4 49 (nx * 4 + 2) = c 11 2 := by rw [e4, s2_k (by omega), e3, s2_at]
  have r3 : a4 49 (nx * 4 + 3) = (if c 11 3 = 0 then 0 else 1) := by rw [e4, s2_at]
  have e20 : nI nx * (20 : Int32) = nI (nx * 20) := pk_mul (a := nx) (b := 20)
  have md : (nI nx + (1 : Int32)) - (nI nx + (1 : Int32)) / (6 : Int32) * (6 : Int32) = nI ((nx + 1) % 6) := by
    rcases (show nx = 0 ∨ nx = 1 ∨ nx = 2 ∨ nx = 3 ∨ nx = 4 ∨ nx = 5 by omega) with h | h | h | h | h | h <;> rw [h] <;> decide
  have mm : imin (nI sz + (1 : Int32)) (6 : Int32) = nI (min (sz + 1) 6) := by
    rw [nI_1]
    exact nI_min (a := sz + 1) (b := 6) (by omega) (by decide)
  -- what the copy of the rows leaves
  have cp : ∃ a5, f_Tb_copyRows a4 50 12 (nI 0) (nI (nx * 20)) (imin (c 11 1) 20) = some a5 ∧ Dm a5 ∧ (∀ a, a ≠ 51 → a5 a = a4 a) ∧ (∀ k, k < nx * 280 ∨ nx * 280 + 280 ≤ k → a5 51 k = a4 51 k) ∧ (∀ n, n ≤ 20 → c 11 1 = nI n → ∀ k, k < n * 14 → a5 51 (nx * 280 + k) = c 13 k) := by
    have T50 : TabOK a4 50 120 14 := D4.2.2.2.1
    have T12 : TabOK a4 12 21 14 := D4.2.2.2.2.1.2.1
    have iv : ∀ n, n ≤ 20 → c 11 1 = nI n → imin (c 11 1) 20 = nI n := fun n hn e => by
      rw [e, show (20 : Int32) = nI 20 from rfl, nI_min (by omega) (by decide), Nat.min_eq_left hn]
    rcases Tb_copyA (i := 0) (j := nx * 20) (imin (c 11 1) 20) T50 T12 (by omega) (by omega) with h | ⟨n, en, h0, h21, h120, h⟩
    · refine ⟨a4, h, D4, fun _ _ => rfl, fun _ _ => rfl, fun n hn e k hk => ?_⟩
      rw [iv n hn e] at h
      rw [Tb_copy T50 T12 (by omega) (by omega) (by omega)] at h
      have hs := Option.some.inj h
      have := congrArg (fun s : St => s 51 (nx * 20 * 14 + k)) hs
      rw [show rc 12 2 = 13 from rfl, show rc 50 2 = 51 from rfl, scp_in (by omega), show nx * 20 * 14 = nx * 280 by omega, o4 13 (by decide)] at this
      rw [← this, show 0 * 14 + k = k by omega]
    · have hn20 : n ≤ 20 := by
        have := (imin_b (a := c 11 1) (b := 20)).2.1
        rw [en, nI_toInt (by omega)] at this
        have : (20 : Int32).toInt = 20 := by decide
        omega
      rw [show rc 12 2 = 13 from rfl, show rc 50 2 = 51 from rfl] at h
      refine ⟨_, h, D4.scp (by decide), fun a p => scp_ne p, fun k p => scp_out (by omega), fun n' hn' e k hk => ?_⟩
      have : n' = n := (nI_eq (by omega) (by omega)).mp ((iv n' hn' e).symm.trans en)
      rw [show nx * 280 + k = nx * 20 * 14 + k by omega, scp_in (by omega), o4 13 (by decide), show 0 * 14 + k = k by omega]
  obtain ⟨a5, c5, D5, f5, l5, w5⟩ := cp
  have n0 : (if nI ed = 0 then (0 : Int32) else 1) = nI ed := by
    rcases (show ed = 0 ∨ ed = 1 by omega) with h | h <;> rw [h] <;> rfl
  refine ⟨s2 (s2 a5 47 2 (nI ((nx + 1) % 6))) 47 3 (nI (min (sz + 1) 6)), ?_, ?_⟩
  · unfold f_Hi_record
    rw [Jn_if, n0, show rc 47 0 = 48 from rfl, show rc 47 1 = 50 from rfl, show rc 11 0 = 12 from rfl, h2, bd_e p1, o1 47 (by decide), h2, o1 11 (by decide), bd_e p2, o2 47 (by decide), h2, o2 11 (by decide), bd_e p3, Jn_if, o3 11 (by decide), o3 47 (by decide), h2, bd_e p4, o4 47 (by decide), h2, o4 11 (by decide), e20, show (0 : Int32) = nI 0 from rfl, bd_e c5, f5 47 (by decide), o4 47 (by decide), h2, md, Lt_e, s2_k (by decide), f5 47 (by decide), o4 47 (by decide), h3, mm, Lt_e]
  · refine ⟨(D5.s2 (by decide)).s2 (by decide), fun a x y z => by rw [s2_ne x, s2_ne x, f5 a z, o4 a y], by rw [s2_k (by decide), s2_at], s2_at, fun k h => ?_, ?_, ?_, ?_, ?_, fun k h => ?_, fun n hn e k hk => ?_⟩
    · rw [s2_ne (by decide), s2_ne (by decide), f5 49 (by decide)]; exact q4 k h
    · rw [s2_ne (by decide), s2_ne (by decide), f5 49 (by decide)]; exact r0
    · rw [s2_ne (by decide), s2_ne (by decide), f5 49 (by decide)]; exact r1
    · rw [s2_ne (by decide), s2_ne (by decide), f5 49 (by decide)]; exact r2
    · rw [s2_ne (by decide), s2_ne (by decide), f5 49 (by decide)]; exact r3
    · rw [s2_ne (by decide), s2_ne (by decide), l5 k h, o4 51 (by decide)]
    · rw [s2_ne (by decide), s2_ne (by decide)]; exact w5 n hn e k hk
