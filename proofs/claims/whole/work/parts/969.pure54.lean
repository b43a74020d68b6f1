/-! undo -/
theorem INV.ed2 {t e na cur fl ed nm nm' : Nat} {Ra : Int} {c m c' m' : St} (hB : IB t c m na cur fl ed nm Ra) (hA : CA c na) (hD : Dm c') (hc : ∀ a, (1 ≤ a ∧ a ≤ 5) ∨ (8 ≤ a ∧ a ≤ 10) ∨ (17 ≤ a ∧ a ≤ 26) → c' a = c a) (h52 : c' 52 2 = c 52 2) (he : e ≤ 1) (h010 : c' 0 10 = nI e) (g01 : m' 0 1 = nI e) (h27 : c' 27 5 = 1)
  (hm : ∀ a, 2 < a → (a < 7 ∨ 40 < a) → m' a = m a) (hm1 : ∀ k, k < 297 → m' 1 k = m 1 k) (h0 : ∀ k, k ≠ 1 → k ≠ 2 → (k < 30 ∨ 66 < k) → m' 0 k = m 0 k) (ht : 1 ≤ t)
  (hM : e = 1 → ∃ (cu rs : Nat) (R : Int), c' 11 1 = nI nm' ∧ m' 1 297 = nI nm' ∧ c' 11 2 = nI cu ∧ m' 1 298 = nI cu ∧ c' 11 3 = nI rs ∧ m' 1 299 = nI rs ∧ MP (t + 1) c' m' 11 297 nm' cu rs R cur fl)
  (hH : ∃ sz nx : Nat, (sz ≤ 6 ∧ (e = 0 → sz = 0)) ∧ nx < 6 ∧ c' 47 3 = nI sz ∧ m' 0 2 = nI sz ∧ c' 47 2 = nI nx ∧ ∀ j, j < sz → HE (t + 1) c' m' cur fl ((nx + 6 - sz + j) % 6) j) : INV (t + 1) c' m' := by
  obtain ⟨d1, d2, d3, d4, d5, d6, d7, d8, d9, d10, d11, d12, d13, d14, d15⟩ := hB.up
  have c1 := hc 1 (by decide)
  have c8 := hc 8 (by decide)
  have c10 := hc 10 (by decide)
  have m3 := hm 3 (by decide) (by decide)
  have m4 := hm 4 (by decide) (by decide)
  refine ⟨na, cur, fl, e, nm', Ra, ⟨hD, d2.of (hm _ (by decide) (by decide)) (hm _ (by decide) (by decide)) (hm _ (by decide) (by decide)), d3.of1 (fun k _ => by rw [c1]) (fun k p q => h0 k (by omega) (by omega) (by omega)), ?_, ?_, ⟨d6.le, by rw [c8]; exact d6.cc, by rw [hm1 0 (by decide)]; exact d6.cm, d6.off, fun i hi => (d6.leg i hi).tr (fun j _ => by rw [show c' (8 + 2) = c (8 + 2) from c10]) (fun j hj => hm1 _ (by omega)) m3 m4 (Int.le_refl _) (fun e => ?_)⟩, d7, ?_, d9, ?_, ⟨he, h010, g01, fun _ => by omega⟩, hM, ?_, ?_, ?_⟩, ?_, fun _ q => ?_⟩
  · unfold FB at *; rw [c1, hc 3 (by decide), c10, h0 7 (by decide) (by decide) (by decide), m3, m4]; exact d4
  · rw [hc 4 (by decide), hc 5 (by decide), h0 68 (by decide) (by decide) (by decide), hm 41 (by decide) (by decide)]; exact d5
  · obtain ⟨k, k1, k2, k3, k4, k5, k6⟩ := (d6.leg i hi).kd
    rw [k2] at e
    exact (k6 ((nIl 8 (by omega) (by decide)).mp e)).1
  · rw [c8, hm1 1 (by decide)]; exact d8
  · unfold zp at *; rw [show c' (8 + 2) = c (8 + 2) from c10]; exact d10
  · exact hH
  · rw [h52, h0 4 (by decide) (by decide) (by decide)]; exact d14
  · intro q
    obtain ⟨x, a1, a2⟩ := d15 q
    exact ⟨x, a1.of c1 c8 c10, a2⟩
  · intro q
    rw [hc 17 (by decide)] at q
    obtain ⟨x, a1, a2⟩ := hA q
    exact ⟨x, a1.of c1 c8 c10, a2.of (hc _ (by decide)) (by rw [hc _ (by decide)]) (hc _ (by decide))⟩
  · rw [h27] at q
    exact absurd q (by decide)

theorem k_undo {t : Nat} {c m : St} (h : INV t c m) : AQ t (f_FL_undo c) (m_undo m) := by
  have h' := h
  obtain ⟨na, cur, fl, ed, nm, Ra, hB, hA, hM⟩ := h
  obtain ⟨sz, nx, ⟨s1, s2'⟩, hnx, h3, g2, h2, hH⟩ := hB.H
  obtain ⟨e1, e2, e3, e4⟩ := hB.E
  unfold f_FL_undo m_undo
  rw [h3, g2]
  rcases (show sz = 0 ∨ 0 < sz by omega) with hz | hz
  · rw [hz, if_pos (show nI 0 = 0 from rfl), if_pos (show nI 0 = 0 from rfl)]
    exact ⟨_, c, m, rfl, rfl, h'.up⟩
  · have hed : ed = 1 := by
      rcases (show ed = 0 ∨ ed = 1 by omega) with z | z
      · have := s2' z; omega
      · exact z
    obtain ⟨s, es⟩ : ∃ s, s = (nx + 5) % 6 := ⟨_, rfl⟩
    have hs6 : s < 6 := by omega
    have hE := hH (sz - 1) (by omega)
    rw [show (nx + 6 - sz + (sz - 1)) % 6 = s by omega] at hE
    obtain ⟨e, ⟨u1, u2⟩, u3, u4, u5⟩ := hE
    -- the class
    have md : ((nI nx + (6 : Int32)) - (1 : Int32)) - ((nI nx + (6 : Int32)) - (1 : Int32)) / (6 : Int32) * (6 : Int32) = nI s := by
      rw [es]
      rcases (show nx = 0 ∨ nx = 1 ∨ nx = 2 ∨ nx = 3 ∨ nx = 4 ∨ nx = 5 by omega) with h | h | h | h | h | h <;> rw [h] <;> decide
    have ms : imax (0 : Int32) (nI sz - (1 : Int32)) = nI (sz - 1) := by
      rcases (show sz = 1 ∨ sz = 2 ∨ sz = 3 ∨ sz = 4 ∨ sz = 5 ∨ sz = 6 by omega) with h | h | h | h | h | h <;> rw [h] <;> decide
    have mt : nI sz - (1 : Int32) = nI (sz - 1) := by
      rcases (show sz = 1 ∨ sz = 2 ∨ sz = 3 ∨ sz = 4 ∨ sz = 5 ∨ sz = 6 by omega) with h | h | h | h | h | h <;> rw [h] <;> decide
    obtain ⟨r, er⟩ : ∃ r : Int32, r = (if c 49 (s * 4 + 3) = 1 then 1 else 0) := ⟨_, rfl⟩
    have r1 : r &&& 1 = r := by rw [er]; split <;> decide
    obtain ⟨a2, ea2⟩ : ∃ a2, a2 = s2 (s2 c 47 2 (nI s)) 47 3 (nI (sz - 1)) := ⟨_, rfl⟩
    obtain ⟨a4, ea4⟩ : ∃ a4, a4 = s2 a2 11 1 (c 49 (s * 4 + 1)) := ⟨_, rfl⟩
    obtain ⟨a6, ea6⟩ : ∃ a6, a6 = s2 a4 11 2 (c 49 (s * 4 + 2)) := ⟨_, rfl⟩
    obtain ⟨b1, eb1⟩ : ∃ b1, b1 = s2 a6 11 3 r := ⟨_, rfl⟩
    have D2 : Dm a2 := by rw [ea2]; exact (hB.D.s2 (by decide)).s2 (by decide)
    have D4 : Dm a4 := by rw [ea4]; exact D2.s2 (by decide)
    have D6 : Dm a6 := by rw [ea6]; exact D4.s2 (by decide)
    have Db : Dm b1 := by rw [eb1]; exact D6.s2 (by decide)
    have o2 : ∀ a, a ≠ 47 → a2 a = c a := fun a p => by rw [ea2, s2_ne p, s2_ne p]
    have o4 : ∀ a, a ≠ 47 → a ≠ 11 → a4 a = c a := fun a p q => by rw [ea4, s2_ne q, o2 a p]
    have o6 : ∀ a, a ≠ 47 → a ≠ 11 → a6 a = c a := fun a p q => by rw [ea6, s2_ne q, o4 a p q]
    have ob : ∀ a, a ≠ 47 → a ≠ 11 → b1 a = c a := fun a p q => by rw [eb1, s2_ne q, o6 a p q]
    have n2 : a2 47 2 = nI s := by rw [ea2, s2_k (by decide), s2_at]
    have n3 : a2 47 3 = nI (sz - 1) := by rw [ea2, s2_at]
    have n4 : a4 47 = a2 47 := by rw [ea4, s2_ne (by decide)]
    have n6 : a6 47 = a2 47 := by rw [ea6, s2_ne (by decide), n4]
    have nb : b1 47 = a2 47 := by rw [eb1, s2_ne (by decide), n6]
    have t1 : f_Tb_get a2 48 (nI s) (1 : Int32) = some (c 49 (s * 4 + 1)) := by
      have := Tb_get (i := s) (j := 1) D2.2.2.1 hs6 (by decide)
      rw [show rc 48 2 = 49 from rfl, o2 49 (by decide)] at this
      exact this
    have t2 : f_Tb_get a4 48 (nI s) (2 : Int32) = some (c 49 (s * 4 + 2)) := by
      have := Tb_get (i := s) (j := 2) D4.2.2.1 hs6 (by decide)
      rw [show rc 48 2 = 49 from rfl, o4 49 (by decide) (by decide)] at this
      exact this
    have t3 : f_Tb_get a6 48 (nI s) (3 : Int32) = some (c 49 (s * 4 + 3)) := by
      have := Tb_get (i := s) (j := 3) D6.2.2.1 hs6 (by decide)
      rw [show rc 48 2 = 49 from rfl, o6 49 (by decide) (by decide)] at this
      exact this
    have b11 : b1 11 1 = c 49 (s * 4 + 1) := by rw [eb1, s2_k (by decide), ea6, s2_k (by decide), ea4, s2_at]
    have b12 : b1 11 2 = c 49 (s * 4 + 2) := by rw [eb1, s2_k (by decide), ea6, s2_at]
    have b13 : b1 11 3 = r := by rw [eb1, s2_at]
    have T50 : TabOK b1 50 120 14 := Db.2.2.2.1
    have T12 : TabOK b1 12 21 14 := Db.2.2.2.2.1.2.1
    have cp : ∃ y, f_Tb_copyRows b1 12 50 (nI (s * 20)) (nI 0) (b1 11 1) = some y ∧ Dm y ∧ (∀ a, a ≠ 13 → y a = b1 a) ∧ ∀ n, n ≤ 20 → b1 11 1 = nI n → ∀ k, k < n * 14 → y 13 k = c 51 (s * 280 + k) := by
      rcases Tb_copyA (i := s * 20) (j := 0) (b1 11 1) T12 T50 (by omega) (by omega) with h | ⟨n, en, p0, p1, p2, h⟩
      · refine ⟨b1, h, Db, fun _ _ => rfl, fun n hn e k hk => ?_⟩
        rw [e, Tb_copy T12 T50 (by omega) (by omega) (by omega)] at h
        have hs := Option.some.inj h
        have := congrArg (fun s : St => s 13 (0 * 14 + k)) hs
        rw [show rc 12 2 = 13 from rfl, show rc 50 2 = 51 from rfl, scp_in (by omega), ob 51 (by decide) (by decide), show 0 * 14 + k = k by omega, show s * 20 * 14 = s * 280 by omega] at this
        exact this.symm
      · rw [show rc 12 2 = 13 from rfl, show rc 50 2 = 51 from rfl] at h
        refine ⟨_, h, Db.scp (by decide), fun a p => scp_ne p, fun n' hn' e k hk => ?_⟩
        have : n' = n := (nI_eq (by omega) (by omega)).mp (e.symm.trans en)
        have := scp_in (c := b1) (i := 51) (j := 13) (sp := s * 20 * 14) (dp := 0 * 14) (n := n * 14) (k := k) (by omega)
        rw [show 0 * 14 + k = k by omega, ob 51 (by decide) (by decide)] at this
        rw [show s * 280 + k = s * 20 * 14 + k by omega]
        exact this
    obtain ⟨y, ey, Dy, fy, ry⟩ := cp
    have y47 : y 47 = a2 47 := by rw [fy 47 (by decide), nb]
    have t0 : f_Tb_get y 48 (nI s) (0 : Int32) = some (nI e) := by
      have := Tb_get (i := s) (j := 0) Dy.2.2.1 hs6 (by decide)
      rw [show rc 48 2 = 49 from rfl, fy 49 (by decide), ob 49 (by decide) (by decide), u3] at this
      exact this
    have he1 : (if nI e = 1 then (1 : Int32) else 0) = nI e := by
      rcases (show e = 0 ∨ e = 1 by omega) with z | z <;> rw [z] <;> decide
    have hres : f_Hi_restore c 47 11 = some (nI e, y) := by
      unfold f_Hi_restore
      rw [h2, md, Lt_e, s2_k (show (3 : Nat) ≠ 2 by decide), h3, ms, ← ea2, Lt_e, show rc 47 0 = 48 from rfl, show rc 47 1 = 50 from rfl, show rc 11 0 = 12 from rfl, n2, bd_e t1, ← ea4, Lt_e, n4, n2, bd_e t2, ← ea6, Lt_e, n6, n2, bd_e t3, Jn_if, ← er, Gd_t r1, ← eb1, Lt_e, nb, n2, show nI s * (20 : Int32) = nI (s * 20) from pk_mul (a := s) (b := 20), show (0 : Int32) = nI 0 from rfl, bd_e ey, y47, n2, show nI 0 = (0 : Int32) from rfl, bd_e t0, Jn_if, he1, Gd_t (and1 u1)]
    obtain ⟨C, eC⟩ : ∃ C, C = s2 (s2 y 0 10 (nI e)) 27 5 (1 : Int32) := ⟨_, rfl⟩
    have oC : ∀ a, a ≠ 0 → a ≠ 11 → a ≠ 13 → a ≠ 27 → a ≠ 47 → C a = c a := fun a p1 p2 p3 p4 p5 => by rw [eC, s2_ne p4, s2_ne p1, fy a p3, ob a p5 p2]
    have C47 : C 47 = a2 47 := by rw [eC, s2_ne (by decide), s2_ne (by decide), y47]
    have C11 : C 11 = b1 11 := by rw [eC, s2_ne (by decide), s2_ne (by decide), fy 11 (by decide)]
    have C13 : C 13 = y 13 := by rw [eC, s2_ne (by decide), s2_ne (by decide)]
    have C1 := oC 1 (by decide) (by decide) (by decide) (by decide) (by decide)
    have C49 := oC 49 (by decide) (by decide) (by decide) (by decide) (by decide)
    have C51 := oC 51 (by decide) (by decide) (by decide) (by decide) (by decide)
    -- the reference
    obtain ⟨v, ev⟩ : ∃ v, v = s2 m 0 2 (nI (sz - 1)) := ⟨_, rfl⟩
    obtain ⟨j, ej⟩ : ∃ j, j = sz - 1 := ⟨_, rfl⟩
    have e9 : (891 : Int32) + (297 : Int32) * nI (sz - 1) = nI (891 + 297 * j) := by
      rw [show (297 : Int32) = nI 297 from rfl, pk_mul, show (891 : Int32) = nI 891 from rfl, nI_add, ej]
    have cm : m_copyPlan v (nI (891 + 297 * j)) (297 : Int32) = some (plc v (891 + 297 * j) 297 297) := cpl_m (P := 891 + 297 * j) (Q := 297) (by omega) (by decide) (by omega)
    obtain ⟨w, ew⟩ : ∃ w, w = plc v (891 + 297 * j) 297 297 := ⟨_, rfl⟩
    obtain ⟨M, eM⟩ : ∃ M, M = s2 w 0 1 (nI e) := ⟨_, rfl⟩
    have vo : ∀ a, a ≠ 0 → v a = m a := fun a p => by rw [ev, s2_ne p]
    have v02 : v 0 2 = nI (sz - 1) := by rw [ev, s2_at]
    have wo : ∀ a, a ≠ 1 → w a = v a := fun a p => by rw [ew, plc_ne p]
    have Mo : ∀ a, a ≠ 0 → a ≠ 1 → M a = m a := fun a p q => by rw [eM, s2_ne p, wo a q, vo a p]
    have M02 : M 0 2 = nI (sz - 1) := by rw [eM, s2_k (by decide), wo 0 (by decide), v02]
    have M0 : ∀ k, k ≠ 1 → k ≠ 2 → M 0 k = m 0 k := fun k p q => by rw [eM, s2_k p, wo 0 (by decide), ev, s2_k q]
    have M1 : ∀ k, k < 297 ∨ 594 ≤ k → M 1 k = m 1 k := fun k p => by rw [eM, s2_ne (by decide), ew, plc_k (by omega), vo 1 (by decide)]
    have M1' : ∀ k, k < 297 → M 1 (297 + k) = m 1 (891 + 297 * j + k) := fun k p => by rw [eM, s2_ne (by decide), ew, plc_at p, vo 1 (by decide)]
    have w2 : w 2 (Int32.toNatClampNeg (nI (sz - 1))) = nI e := by rw [nI_clamp (by omega), wo 2 (by decide), vo 2 (by decide), u4]
    rw [if_neg (nI_ne0 (by omega) (by omega)), if_neg (nI_ne0 (by omega) (by omega)), bd_e hres]
    dsimp only
    rw [Gd_t (and1 u1), Lt_e, Lt_e, ← eC, mt, ← ev, Lt_e, v02, e9, bd_e cm, ← ew, wo 0 (by decide), v02, Gd_t (Ix_n (show sz - 1 < 6 by omega) (by decide)), w2, Gd_t (and1 u1), Lt_e, ← eM, C47, n3, M02]
    have m3 := Mo 3 (by decide) (by decide)
    have m4 := Mo 4 (by decide) (by decide)
    refine ⟨_, C, M, rfl, rfl, INV.ed2 (e := e) (nm' := (if e = 1 then (c 49 (s * 4 + 1)).toNatClampNeg else 0)) hB hA (by rw [eC]; exact (Dy.s2 (by decide)).s2 (by decide)) (fun a p => oC a (by omega) (by omega) (by omega) (by omega) (by omega)) (by rw [oC 52 (by decide) (by decide) (by decide) (by decide) (by decide)]) u1 (by rw [eC, s2_ne (by decide), s2_at]) (by rw [eM, s2_at]) (by rw [eC, s2_at]) (fun a p q => Mo a (by omega) (by omega)) (fun k p => M1 k (by omega)) (fun k p q _ => M0 k p q) (by have := e4 hed; omega) (fun q => ?_) ⟨sz - 1, s, ⟨by omega, fun q => ?_⟩, hs6, by rw [C47]; exact n3, M02, by rw [C47]; exact n2, fun i hi => ?_⟩⟩
    · obtain ⟨n, cu, rs, R, x1, x2, x3, x4, x5, x6, x7⟩ := u5 q
      have hn := x7.2.1
      have hrs := x7.2.2.2.2.1
      rw [if_pos q, x1, nI_clamp (by omega)]
      rw [← ej] at x2 x4 x6 x7
      refine ⟨cu, rs, R, by rw [C11, b11]; exact x1, (M1' 0 (by decide)).trans x2, by rw [C11, b12]; exact x3, (M1' 1 (by decide)).trans x4, ?_, (M1' 2 (by decide)).trans x6, (x7.tr (fun k hk => ?_) ?_ M1' m3 m4).up⟩
      · rw [C11, b13, er, x5]
        rcases (show rs = 0 ∨ rs = 1 by omega) with z | z <;> rw [z] <;> decide
      · show C 13 k = vw c s 13 k
        unfold vw
        rw [if_pos rfl, C13]
        exact ry n hn (b11.trans x1) k hk
      · show C 1 1 = vw c s 1 1
        unfold vw
        rw [if_neg (by decide), C1]
    · rcases (show sz - 1 = 0 ∨ 0 < sz - 1 by omega) with z | z
      · exact z
      · have := u2 z; omega
    · have ho := (hH i (by omega)).up
      rw [show (s + 6 - (sz - 1) + i) % 6 = (nx + 6 - sz + i) % 6 by omega]
      exact ho.tr (fun k _ => by rw [C49]) (fun k _ => by rw [C51]) (by rw [C1]) (fun k hk => M1 _ (by omega)) (by rw [Mo 2 (by decide) (by decide)]) m3 m4 (fun q => q)
