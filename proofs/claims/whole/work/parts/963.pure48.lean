/-! fly and resume -/

theorem LegR.tr {c m c' m' : St} {q P q' P' i i' : Nat} {R R' : Int} (h : LegR c m q P R i) (h1 : ∀ j, j < 14 → c' (q' + 2) (i' * 14 + j) = c (q + 2) (i * 14 + j)) (h2 : ∀ j, j < 14 → m' 1 (P' + 3 + 14 * i' + j) = m 1 (P + 3 + 14 * i + j)) (h3 : m' 3 = m 3) (h4 : m' 4 = m 4) (hR : R ≤ R') (h8 : c (q + 2) (i * 14 + 0) = 8 → i' = 0) : LegR c' m' q' P' R' i' := by
  obtain ⟨⟨k, k1, k2, k3, k4, k5, k6⟩, hr⟩ := h
  unfold LegR
  rw [h1 0 (by decide), h1 1 (by decide), h1 2 (by decide), h1 3 (by decide), h1 4 (by decide), h1 5 (by decide), h1 6 (by decide), h1 7 (by decide), h1 8 (by decide), h1 9 (by decide), h1 10 (by decide), h1 11 (by decide), h1 12 (by decide), h1 13 (by decide), h2 0 (by decide), h2 1 (by decide), h2 2 (by decide), h2 3 (by decide), h2 4 (by decide), h2 5 (by decide), h2 6 (by decide), h2 7 (by decide), h2 8 (by decide), h2 9 (by decide), h2 10 (by decide), h2 11 (by decide), h2 12 (by decide), h2 13 (by decide), h3, h4]
  exact ⟨⟨k, k1, k2, k3, k4, k5, fun e => ⟨h8 (by rw [k2, e]; rfl), (k6 e).2.1, (k6 e).2.2.1, Nb.le (k6 e).2.2.2 hR⟩⟩, hr⟩
theorem LegR.same {c m c' m' : St} {q P i : Nat} {R : Int} (h : LegR c m q P R i) (h1 : c' (q + 2) = c (q + 2)) (h2 : ∀ k, P + 3 ≤ k → m' 1 k = m 1 k) (h3 : m' 3 = m 3) (h4 : m' 4 = m 4) : LegR c' m' q P R i :=
  h.tr (fun j _ => by rw [h1]) (fun j _ => h2 _ (by omega)) h3 h4 (Int.le_refl _) (fun e => by
    obtain ⟨k, k1, k2, k3, k4, k5, k6⟩ := h.kd
    rw [k2] at e
    exact (k6 ((nIl 8 (by omega) (by decide)).mp e)).1)
theorem PlanR.same {c m c' m' : St} {q P n : Nat} {R : Int} (h : PlanR c m q P R n) (h0 : c' q 1 = c q 1) (h1 : c' (q + 2) = c (q + 2)) (hP : m' 1 P = m 1 P) (h2 : ∀ k, P + 3 ≤ k → m' 1 k = m 1 k) (h3 : m' 3 = m 3) (h4 : m' 4 = m 4) : PlanR c' m' q P R n :=
  ⟨h.le, by rw [h0]; exact h.cc, by rw [hP]; exact h.cm, h.off, fun i hi => (h.leg i hi).same h1 h2 h3 h4⟩
theorem Pth.of2 {c c' m' : St} {q P n : Nat} (h : Pth c q P n m') (h1 : ∀ k, 2 ≤ k → c' 1 k = c 1 k) (h2 : c' q 1 = c q 1) (h3 : c' (q + 2) = c (q + 2)) : Pth c' q P n m' := by
  obtain ⟨m1, Bs, R0, R, a1, a2, a3, a4⟩ := h
  exact ⟨m1, Bs, R0, R, a1, a2.of1 h1 (fun _ _ _ => rfl), a3.same h2 h3 rfl (fun _ _ => rfl) rfl rfl, a4⟩
theorem INV.mv {t na cur fl nm cur' fl' : Nat} {Ra : Int} {c m c' m' m1 : St} (hB : IB t c m na cur fl 0 nm Ra) (hA : CA c na) (F : Fs c c' cur' fl') (M : Fm m m' cur' fl') (h0 : 0 < na) (hcur : cur' < na) (hf : fl' ≤ 800000000) (hP : Pth c 8 0 na m1) (hfl : (fl' : Int) ≤ (m1 37 cur').toInt) : INV (t + 1) c' m' := by
  obtain ⟨d1, d2, d3, d4, d5, d6, d7, d8, d9, d10, d11, d12, d13, d14, d15⟩ := hB
  have hc := F.1
  have hm := M.1
  have mh : ∀ k, 0 + 3 ≤ k → m' 1 k = m 1 k := fun k q => M.2.1 k (by omega)
  have hPt : ∀ x, Pth c 8 0 na x → Pth c' 8 0 na x := fun x h => h.of2 (fun k _ => by rw [hc 1 (by decide) (by decide)]) (F.2.1 1 (by decide)) (hc _ (by decide) (by decide))
  refine ⟨na, cur', fl', 0, nm, Ra, ⟨F.Dm d1, d2.of (hm _ (by decide) (by decide)) (hm _ (by decide) (by decide)) (hm _ (by decide) (by decide)), d3.of1 (fun k _ => by rw [hc 1 (by decide) (by decide)]) (fun k q _ => M.2.2.1 k (by omega)), ?_, ?_, d6.same (F.2.1 1 (by decide)) (hc _ (by decide) (by decide)) (M.2.1 0 (by decide)) mh (hm _ (by decide) (by decide)) (hm _ (by decide) (by decide)), d7, ⟨F.2.2.1, M.2.2.2.1, by rw [F.2.1 3 (by decide)]; exact d8.2.2⟩, ⟨fun q => by omega, fun q => ⟨hcur, by have := (d9.2 q).2; omega⟩⟩, ?_, ?_, fun q => by omega, ?_, ⟨F.2.2.2, M.2.2.2.2, hf⟩, fun _ => ⟨m1, hPt _ hP, hfl⟩⟩, ?_, fun q => by omega⟩
  · unfold FB at *; rw [hc 1 (by decide) (by decide), hc 3 (by decide) (by decide), hc 10 (by decide) (by decide), M.2.2.1 7 (by decide), hm 3 (by decide) (by decide), hm 4 (by decide) (by decide)]; exact d4
  · obtain ⟨L, l1, l2, l3⟩ := d5
    rw [hc 4 (by decide) (by decide), hc 5 (by decide) (by decide), M.2.2.1 68 (by decide), hm 41 (by decide) (by decide)]; exact ⟨L, l1, by omega, l3⟩
  · refine ⟨d10.1, ?_⟩
    have hz : zp c' 8 na = zp c 8 na := by unfold zp; rw [hc (8 + 2) (by decide) (by decide)]
    have s1 := sp_b cur fl
    have s2 := sp_b cur' fl'
    have := d10.2
    rw [hz]
    omega
  · rw [hc 0 (by decide) (by decide), M.2.2.1 1 (by decide)]; exact ⟨d11.1, d11.2.1, d11.2.2.1, fun q => by omega⟩
  · obtain ⟨sz, nx, a1, a2, a3, a4, a5, a6⟩ := d13
    have z := a1.2 rfl
    exact ⟨sz, nx, a1, a2, by rw [hc 47 (by decide) (by decide)]; exact a3, by rw [M.2.2.1 2 (by decide)]; exact a4, by rw [hc 47 (by decide) (by decide)]; exact a5, fun j hj => by omega⟩
  · intro q
    rw [hc 17 (by decide) (by decide)] at q
    obtain ⟨x, a1, a2⟩ := hA q
    exact ⟨x, hPt _ a1, a2.of (hc _ (by decide) (by decide)) (by rw [hc _ (by decide) (by decide)]) (hc _ (by decide) (by decide))⟩
theorem ed_c {ed : Nat} (h : ed ≤ 1) : (nI ed = 0 ↔ ed = 0) := nIl 0 (by omega) (by decide)
theorem k_fly {t : Nat} {c m : St} (ht : t ≤ 511) (h : INV t c m) (p1 : Int32) : AQ t (f_FL_fly c p1) (m_fly m p1) := by
  have h' := h
  obtain ⟨na, cur, fl, ed, nm, Ra, hB, hA, hM⟩ := h
  have ra := hB.ra ht
  have hcm : m_count m 0 = some (m 1 0) := mcount (P := 0) (by decide)
  have h20 := hB.a20
  unfold f_FL_fly m_fly
  rcases wi (p := p1) (a := 0) (b := 2000) (a' := 0) (b' := 2000) (by decide) (by decide) with ⟨a, b, lo, hi⟩ | ⟨a, b⟩
  rotate_left
  · rw [bd_e a, bd_e b, if_pos rfl, if_pos rfl]
    exact ⟨_, c, m, rfl, rfl, h'.up⟩
  have lo : 0 ≤ p1.toInt := lo
  have hi : p1.toInt ≤ 2000 := hi
  obtain ⟨d, ed', hd⟩ : ∃ d : Nat, p1 = nI d ∧ d ≤ 2000 := ⟨p1.toInt.toNat, i2 (by rw [nI_toInt (by omega)]; omega), by omega⟩
  rw [bd_e a, bd_e b, if_neg n10, if_neg n10, Jn_e, Jn_e, hB.E.2.1, hB.E.2.2.1]
  by_cases he : ed = 0
  · subst he
    rw [if_pos (show nI 0 = 0 from rfl), if_pos (show nI 0 = 0 from rfl), hB.A.cc, bd_e hcm, hB.A.cm]
    by_cases hn : na = 0
    · rw [if_pos (by rw [hn]; rfl), if_pos (by rw [hn]; rfl)]
      exact ⟨_, c, m, rfl, rfl, h'.up⟩
    · obtain ⟨c1, m1, e1, e2, e3, e4, e5, e6, e7, e8, e9, -⟩ := act_lock ht hB hA hM (BsOK_all ra.1 (by omega)) (by omega) ra.2
      have e2' : m_lays m 0 = some m1 := e2
      have hcu := (e6.an.2 (by omega)).1
      obtain ⟨x, px, hx⟩ := e6.FL (by omega)
      have det := (px.det (Or.inl ⟨rfl, rfl⟩) e6.D e9).1 cur 9 hcu (by decide)
      rw [Wc9, Wc9] at det
      rw [det] at hx
      rw [if_neg (nI_ne0 (by omega) (by omega)), if_neg (nI_ne0 (by omega) (by omega)), bd_e e1, bd_e e2', Jn_e]
      unfold f_Pg_advance
      rw [Jn_e, Jn_e, ed']
      obtain ⟨d', cur', fl', c2, m2, b1, b2, b3, b4, b5, b6, b7, b8⟩ := adv (c := c1) (m := m1) (na := na) (J3 := fun (x1 : Int32) (σ2 : St) => some (nI d - x1, σ2)) (J6 := fun (x1 : Int32) (σ2 : St) => some (nI d - x1, σ2)) (J7 := fun (x1 : Int32) (σ2 : St) => some (nI d - x1, σ2)) e6.D h20 e6.A.cc e6.A.cm (fun i hi => ⟨by rw [e3.lg i 9 hi (by decide), Wc9], (m1 37 i).toInt.toNat, by have := e4.lb i hi; omega, i2 (by have := e4.lb i hi; rw [nI_toInt (by omega)]; omega)⟩) (fun i hi => ⟨by rw [e3.lg i 0 hi (by decide), Wc0], e4.an i hi⟩) (fun _ _ => rfl) (na - 1 - cur) cur fl d 0 4000 4000 c1 m1 (by omega) ⟨fun _ _ _ => rfl, fun _ _ => rfl, e6.ac.1, e6.f.1⟩ ⟨fun _ _ _ => rfl, fun _ _ => rfl, fun _ _ => rfl, e6.ac.2.1, e6.f.2.1⟩ hx hd (by omega) (by omega) (by omega)
      rw [show (0 : Int32) = nI 0 from rfl, b7, b8]
      exact ⟨_, c2, m2, rfl, rfl, INV.mv e6 e7 b5 b6 (by omega) b2 b4 e9 b3⟩
  · rw [if_neg (fun q => he ((ed_c hB.E.1).mp q)), if_neg (fun q => he ((ed_c hB.E.1).mp q))]
    exact ⟨_, c, m, rfl, rfl, h'.up⟩
theorem k_resume {t : Nat} {c m : St} (ht : t ≤ 511) (h : INV t c m) : AQ t (f_FL_resume c) (m_resume m) := by
  have h' := h
  obtain ⟨na, cur, fl, ed, nm, Ra, hB, hA, hM⟩ := h
  have ra := hB.ra ht
  have hcm : m_count m 0 = some (m 1 0) := mcount (P := 0) (by decide)
  have h20 := hB.a20
  have hI : PI 17 8 := Or.inl ⟨rfl, rfl⟩
  unfold f_FL_resume m_resume
  rw [Jn_e, hB.E.2.1, hB.E.2.2.1]
  by_cases he : ed = 0
  · subst he
    rw [if_pos (show nI 0 = 0 from rfl), if_pos (show nI 0 = 0 from rfl), bd_e hcm, hB.A.cm]
    obtain ⟨c1, m1, e1, e2, e3, e4, e5, e6, e7, e8, e9, -⟩ := act_lock ht hB hA hM (BsOK_all ra.1 (by omega)) (by omega) ra.2
    have i1 : INV (t + 1) c1 m1 := INV.up ⟨na, cur, fl, 0, nm, Ra, e6, e7, e8⟩
    rw [bd_e e1]
    have hh : f_Pl_hasLeg c1 8 (nI (cur + 1)) = some (if cur + 1 < na then 1 else 0) := hasLeg_c hI e6.A.cc (by omega) (by
      rcases (show na = 0 ∨ 0 < na by omega) with z | z
      · have := (e6.an.1 z).1; omega
      · have := (e6.an.2 z).1; omega)
    by_cases hn : na = 0
    · have hw : f_Pg_waitsAtGap c1 52 = some 0 := by
        unfold f_Pg_waitsAtGap
        rw [show rc 52 0 = 8 from rfl, e6.ac.1, nI_1, bd_e hh, if_neg (by omega), Jn_e, Jn_e, if_pos rfl]
        exact Gd_t (by decide)
      rw [bd_e hw, if_pos rfl, if_pos (by rw [hn]; rfl)]
      refine ⟨_, c1, m, rfl, rfl, INV.up ⟨na, cur, fl, 0, nm, Ra, hB.of e6.D (fun a p q => e5.fc a (by omega) (by omega) (by omega) (by omega) (by omega) (by omega)) (by rw [e5.fc 52 (by decide) (by decide) (by decide) (by decide) (by decide) (by decide)]) (fun _ _ _ => rfl) (fun _ _ => rfl), e7, e8⟩⟩
    · have e2' : m_lays m 0 = some m1 := e2
      have hcu := (e6.an.2 (by omega)).1
      obtain ⟨x, px, hx⟩ := e6.FL (by omega)
      have det := (px.det hI e6.D e9).1 cur 9 hcu (by decide)
      rw [Wc9, Wc9] at det
      rw [det] at hx
      obtain ⟨L, eL, hL⟩ : ∃ L : Nat, m1 37 cur = nI L ∧ L ≤ 800000000 := ⟨(m1 37 cur).toInt.toNat, i2 (by have := e4.lb cur hcu; rw [nI_toInt (by omega)]; omega), by have := e4.lb cur hcu; omega⟩
      rw [eL, nI_toInt (by omega)] at hx
      have cur1 : m1 1 (Int32.toNatClampNeg (1 : Int32)) = nI cur := e6.ac.2.1
      have k37 : m1 37 (Int32.toNatClampNeg (nI cur)) = nI L := by rw [nI_clamp (by omega), eL]
      have hcm1 : m_count m1 0 = some (m1 1 0) := mcount (P := 0) (by decide)
      have g1 : Ix (1 : Int32) 2673 := Ix_n (i := 1) (n := 2673) (by decide) (by decide)
      have hr : f_Pg_restOfLeg c1 52 = some (nI (L - fl)) := by
        unfold f_Pg_restOfLeg
        rw [show rc 52 0 = 8 from rfl, show rc 52 1 = 17 from rfl, show rc 17 1 = 18 from rfl, e6.ac.1, bd_e (lgg (b := 17) hI e6.D (show cur < 21 by omega) (by decide)), show c1 (17 + 2) (cur * 16 + 9) = m1 37 cur from e3.lg cur 9 hcu (by decide), eL, e6.f.1, pk_sub (by omega)]
      rw [if_neg (nI_ne0 (by omega) (by omega)), bd_e e2', Gd_t g1, Lt_e, cur1, Gd_t (Ix_n (show cur < 21 by omega) (by decide)), Jn_e, e6.f.2.1, k37, nI_1]
      -- both wait, or neither
      have no : f_Pg_waitsAtGap c1 52 = some 0 → AQ t (Option.bind (f_Pg_waitsAtGap c1 52) fun x2 => if (x2 : Int32) = 0 then (some ((-1000003 : Int32), c1)) else (Option.bind (f_Pg_beginNextLeg c1 52) fun x3 => some ((x3 8 2), x3))) (some (-1000003, m1)) := fun q => by
        rw [bd_e q, if_pos rfl]
        exact ⟨_, c1, m1, rfl, rfl, i1⟩
      by_cases hl : cur + 1 < na
      · obtain ⟨y1, y2⟩ := (⟨by rw [e3.lg (cur + 1) 0 hl (by decide), Wc0], e4.an (cur + 1) hl⟩ : c1 19 ((cur + 1) * 16 + 0) = m1 18 (cur + 1) ∧ (m1 18 (cur + 1) = 0 ∨ m1 18 (cur + 1) = 1))
        have hg : f_Pa_gapBefore c1 17 (nI (cur + 1)) = some (m1 18 (cur + 1)) := by
          rw [gapb_c (v := m1 18 (cur + 1)) hI e6.D (by omega) y1 y2, if_neg (by omega)]
        have k18 : m1 18 (Int32.toNatClampNeg (nI (cur + 1))) = m1 18 (cur + 1) := by rw [nI_clamp (by omega)]
        have hw : f_Pg_waitsAtGap c1 52 = some (if fl = L then m1 18 (cur + 1) else 0) := by
          unfold f_Pg_waitsAtGap
          rw [show rc 52 0 = 8 from rfl, show rc 52 1 = 17 from rfl, e6.ac.1, nI_1, bd_e hh, if_pos hl, Jn_e, Jn_e, if_neg n10, bd_e hr]
          by_cases q : fl = L
          · rw [if_pos (show nI (L - fl) = 0 by rw [q, Nat.sub_self]; rfl), bd_e hg, if_pos q]
            rcases y2 with z | z <;> rw [z]
            · rw [if_pos rfl]; exact Gd_t (by decide)
            · rw [if_neg n10]; exact Gd_t (by decide)
          · rw [if_neg (nI_ne0 (by omega) (by omega)), if_neg q]
            exact Gd_t (by decide)
        by_cases q : fl = L
        · rw [if_neg (nI_nlt (by omega) (by omega)), bd_e hcm1, e6.A.cm, if_neg (fun z => by have := (nI_eq (by omega) (by omega)).mp z; omega), Gd_t (Ix_n (show cur + 1 < 21 by omega) (by decide)), k18]
          rw [if_pos q] at hw
          rcases y2 with z | z
          · rw [z] at hw ⊢
            rw [if_pos rfl]
            exact no hw
          · rw [z] at hw ⊢
            rw [if_neg n10, Gd_t g1, Lt_e, Lt_e, bd_e hw, if_neg n10]
            have hb : f_Pg_beginNextLeg c1 52 = some (s2 (s2 c1 8 2 (nI (cur + 1))) 52 2 (0 : Int32)) := by
              unfold f_Pg_beginNextLeg
              rw [show rc 52 0 = 8 from rfl, e6.ac.1, nI_1, Lt_e, Lt_e]
            rw [bd_e hb, s2_ne (show (8 : Nat) ≠ 52 by decide), s2_at]
            have F : Fs c1 c1 cur fl := ⟨fun _ _ _ => rfl, fun _ _ => rfl, e6.ac.1, e6.f.1⟩
            have M : Fm m1 m1 cur fl := ⟨fun _ _ _ => rfl, fun _ _ => rfl, fun _ _ => rfl, e6.ac.2.1, e6.f.2.1⟩
            exact ⟨_, _, _, rfl, rfl, INV.mv e6 e7 (F.n (cur' := cur + 1)) (M.n (cur' := cur + 1)) (by omega) hl (by decide) e9 (by have := (e4.lb (cur + 1) hl).1; omega)⟩
        · rw [if_pos (nI_lt (by omega) (by omega))]
          rw [if_neg q] at hw
          exact no hw
      · have hw : f_Pg_waitsAtGap c1 52 = some 0 := by
          unfold f_Pg_waitsAtGap
          rw [show rc 52 0 = 8 from rfl, e6.ac.1, nI_1, bd_e hh, if_neg hl, Jn_e, Jn_e, if_pos rfl]
          exact Gd_t (by decide)
        split
        · exact no hw
        · rw [bd_e hcm1, e6.A.cm, if_pos (show nI (cur + 1) = nI na by rw [show cur + 1 = na by omega])]
          exact no hw
  · rw [if_neg (fun q => he ((ed_c hB.E.1).mp q)), if_neg (fun q => he ((ed_c hB.E.1).mp q))]
    exact ⟨_, c, m, rfl, rfl, h'.up⟩
