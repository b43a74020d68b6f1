/-! cancel, undo, execute -/

/-- ends of editing: nothing but editing and the history changed -/
theorem k_cancel {t : Nat} {c m : St} (h : INV t c m) : AQ t (f_FL_cancel c) (m_cancel m) := by
  have h' := h
  obtain ⟨na, cur, fl, ed, nm, Ra, hB, hA, hM⟩ := h
  obtain ⟨e1, e2, e3, -⟩ := hB.E
  unfold f_FL_cancel m_cancel
  rw [e2, e3]
  rcases (show ed = 0 ∨ ed = 1 by omega) with h | h
  · subst h
    rw [if_pos (show nI 0 = 0 from rfl), if_pos (show nI 0 = 0 from rfl)]
    exact ⟨_, c, m, rfl, rfl, h'.up⟩
  · subst h
    obtain ⟨C, eC⟩ : ∃ C, C = s2 (s2 c 0 10 (0 : Int32)) 47 3 (0 : Int32) := ⟨_, rfl⟩
    obtain ⟨M, eM⟩ : ∃ M, M = s2 (s2 m 0 1 (0 : Int32)) 0 2 (0 : Int32) := ⟨_, rfl⟩
    have hend : f_FL_endEditing c = some C := by
      unfold f_FL_endEditing
      rw [Lt_e, Lt_e, eC]
    have hcm : m_count M 0 = some (M 1 0) := mcount (P := 0) (by decide)
    have hc : ∀ a, a ≠ 0 → a ≠ 47 → C a = c a := fun a p q => by rw [eC, s2_ne q, s2_ne p]
    have hm : ∀ a, a ≠ 0 → M a = m a := fun a p => by rw [eM, s2_ne p, s2_ne p]
    have h0 : ∀ k, k ≠ 1 → k ≠ 2 → M 0 k = m 0 k := fun k p q => by rw [eM, s2_k q, s2_k p]
    rw [if_neg (show ¬ nI 1 = 0 by decide), if_neg (show ¬ nI 1 = 0 by decide), bd_e hend, Lt_e, Lt_e, ← eM, bd_e hcm, hm 1 (by decide), hB.A.cm, hc 8 (by decide) (by decide), hB.A.cc]
    refine ⟨_, C, M, rfl, rfl, INV.up ?_⟩
    obtain ⟨d1, d2, d3, d4, d5, d6, d7, d8, d9, d10, d11, d12, d13, d14, d15⟩ := hB
    have c1 := hc 1 (by decide) (by decide)
    have c8 := hc 8 (by decide) (by decide)
    have c10 := hc 10 (by decide) (by decide)
    have m1 := hm 1 (by decide)
    have m3 := hm 3 (by decide)
    have m4 := hm 4 (by decide)
    refine ⟨na, cur, fl, 0, nm, Ra, ⟨by rw [eC]; exact (d1.s2 (by decide)).s2 (by decide), d2.of (hm _ (by decide)) (hm _ (by decide)) (hm _ (by decide)), d3.of1 (fun k _ => by rw [c1]) (fun k p _ => h0 k (by omega) (by omega)), ?_, ?_, d6.of c8 c10 c1 m1 m3 m4, d7, ?_, d9, ?_, ⟨by decide, ?_, ?_, fun q => by omega⟩, fun q => by omega, ?_, ?_, ?_⟩, ?_, fun q => by omega⟩
    · unfold FB at *; rw [c1, hc 3 (by decide) (by decide), c10, h0 7 (by decide) (by decide), m3, m4]; exact d4
    · rw [hc 4 (by decide) (by decide), hc 5 (by decide) (by decide), h0 68 (by decide) (by decide), hm 41 (by decide)]; exact d5
    · rw [c8, m1]; exact d8
    · unfold zp at *; rw [show C (8 + 2) = c (8 + 2) from c10]; exact d10
    · rw [eC, s2_ne (by decide), s2_at]; rfl
    · rw [eM, s2_k (by decide), s2_at]; rfl
    · obtain ⟨sz, nx, a1, a2, a3, a4, a5, a6⟩ := d13
      refine ⟨0, nx, ⟨by decide, fun _ => rfl⟩, a2, by rw [eC, s2_at]; rfl, by rw [eM, s2_at]; rfl, by rw [eC, s2_k (by decide), s2_ne (by decide)]; exact a5, fun j hj => by omega⟩
    · rw [hc 52 (by decide) (by decide), h0 4 (by decide) (by decide)]; exact d14
    · intro q
      obtain ⟨x, a1, a2⟩ := d15 q
      exact ⟨x, a1.of c1 c8 c10, a2⟩
    · intro q
      rw [hc 17 (by decide) (by decide)] at q
      obtain ⟨x, a1, a2⟩ := hA q
      exact ⟨x, a1.of c1 c8 c10, a2.of (hc _ (by decide) (by decide)) (by rw [hc _ (by decide) (by decide)]) (hc _ (by decide) (by decide))⟩
theorem k_execute {t : Nat} {c m : St} (ht : t ≤ 511) (h : INV t c m) : AQ t (f_FL_execute c) (m_execute m) := by
  have h' := h
  obtain ⟨na, cur, fl, ed, nm, Ra, hB, hA, hM⟩ := h
  obtain ⟨e1, e2, e3, e4⟩ := hB.E
  unfold f_FL_execute m_execute
  rw [e2, e3]
  rcases (show ed = 0 ∨ ed = 1 by omega) with h | h
  · subst h
    rw [if_pos (show nI 0 = 0 from rfl), if_pos (show nI 0 = 0 from rfl)]
    exact ⟨_, c, m, rfl, rfl, h'.up⟩
  · subst h
    obtain ⟨cu, rs, R, b1, b2, b3, b4, b5, b6, b7⟩ := hB.M rfl
    obtain ⟨q1, q20, ql, ⟨qc, qF⟩, qr, q14, qa, qb⟩ := b7
    obtain ⟨fl', ef⟩ : ∃ fl' : Nat, fl' = (if rs = 1 then 0 else fl) := ⟨_, rfl⟩
    have hfl' : fl' ≤ fl := by rw [ef]; split <;> omega
    have hrs : rs = 0 ∨ rs = 1 := by omega
    -- the class
    obtain ⟨x, ex⟩ : ∃ x, x = (if rs = 1 then s2 c 52 2 (0 : Int32) else c) := ⟨_, rfl⟩
    have xo : ∀ a, a ≠ 52 → x a = c a := fun a p => by
      rw [ex]; split
      · rw [s2_ne p]
      · rfl
    have x52 : x 52 2 = nI fl' := by
      rw [ex, ef]; split
      · rw [s2_at]; rfl
      · exact hB.f.1
    have xD : Dm x := by
      rw [ex]; split
      · exact hB.D.s2 (by decide)
      · exact hB.D
    have T9 : TabOK x 9 21 14 := xD.2.2.2.2.1.1
    have T12 : TabOK x 12 21 14 := xD.2.2.2.2.1.2.1
    have cp := Tb_copy (i := 0) (j := 0) T9 T12 (show 0 < nm by omega) (by omega) (by omega)
    rw [show rc 12 2 = 13 from rfl, show rc 9 2 = 10 from rfl, show nI 0 = (0 : Int32) from rfl] at cp
    obtain ⟨y, ey⟩ : ∃ y, y = scp x 13 10 (0 * 14) (0 * 14) (nm * 14) := ⟨_, rfl⟩
    rw [← ey] at cp
    have yo : ∀ a, a ≠ 10 → y a = x a := fun a p => by rw [ey, scp_ne p]
    have y10 : ∀ k, k < nm * 14 → y 10 k = c 13 k := fun k hk => by
      have := scp_in (c := x) (i := 13) (j := 10) (sp := 0 * 14) (dp := 0 * 14) (n := nm * 14) hk
      rw [show 0 * 14 + k = k by omega, xo 13 (by decide)] at this
      rw [ey]; exact this
    have y11 : y 11 = c 11 := by rw [yo 11 (by decide), xo 11 (by decide)]
    have hcf : f_Pl_copyFrom x 8 11 = some (s2 (s2 (s2 y 8 1 (nI nm)) 8 2 (nI cu)) 8 3 (nI rs)) := by
      unfold f_Pl_copyFrom
      rw [show rc 11 0 = 12 from rfl, show rc 8 0 = 9 from rfl, xo 11 (by decide), b1, bd_e cp, Lt_e, y11, b1, s2_ne (show (11 : Nat) ≠ 8 by decide), y11, b3, Lt_e, s2_ne (show (11 : Nat) ≠ 8 by decide), s2_ne (show (11 : Nat) ≠ 8 by decide), y11, b5, Gd_t (and1 qr), Lt_e]
    obtain ⟨C, eC⟩ : ∃ C, C = s2 (s2 (s2 (s2 (s2 (s2 y 8 1 (nI nm)) 8 2 (nI cu)) 8 3 (nI rs)) 8 3 (0 : Int32)) 0 10 (0 : Int32)) 47 3 (0 : Int32) := ⟨_, rfl⟩
    have hend : f_FL_endEditing (s2 (s2 (s2 (s2 y 8 1 (nI nm)) 8 2 (nI cu)) 8 3 (nI rs)) 8 3 (0 : Int32)) = some C := by
      unfold f_FL_endEditing
      rw [Lt_e, Lt_e, eC]
    have Co : ∀ a, a ≠ 0 → a ≠ 8 → a ≠ 10 → a ≠ 47 → a ≠ 52 → C a = c a := fun a p1 p2 p3 p4 p5 => by rw [eC, s2_ne p4, s2_ne p1, s2_ne p2, s2_ne p2, s2_ne p2, s2_ne p2, yo a p3, xo a p5]
    have C81 : C 8 1 = nI nm := by rw [eC, s2_ne (by decide), s2_ne (by decide), s2_k (by decide), s2_k (by decide), s2_k (by decide), s2_at]
    have C82 : C 8 2 = nI cu := by rw [eC, s2_ne (by decide), s2_ne (by decide), s2_k (by decide), s2_k (by decide), s2_at]
    have C83 : C 8 3 = 0 := by rw [eC, s2_ne (by decide), s2_ne (by decide), s2_at]
    have C010 : C 0 10 = nI 0 := by rw [eC, s2_ne (by decide), s2_at]; rfl
    have C473 : C 47 3 = nI 0 := by rw [eC, s2_at]; rfl
    have C472 : C 47 2 = c 47 2 := by rw [eC, s2_k (by decide), s2_ne (by decide), s2_ne (by decide), s2_ne (by decide), s2_ne (by decide), s2_ne (by decide), yo 47 (by decide), xo 47 (by decide)]
    have C10 : ∀ k, k < nm * 14 → C (8 + 2) k = c (11 + 2) k := fun k hk => by
      show C 10 k = c 13 k
      rw [eC, s2_ne (by decide), s2_ne (by decide), s2_ne (by decide), s2_ne (by decide), s2_ne (by decide), s2_ne (by decide), y10 k hk]
    have C52 : C 52 2 = nI fl' := by rw [eC, s2_ne (by decide), s2_ne (by decide), s2_ne (by decide), s2_ne (by decide), s2_ne (by decide), s2_ne (by decide), yo 52 (by decide), x52]
    have CD : Dm C := by
      rw [eC, ey]
      exact ((((((xD.scp (by decide)).s2 (by decide)).s2 (by decide)).s2 (by decide)).s2 (by decide)).s2 (by decide)).s2 (by decide)
    have C1 := Co 1 (by decide) (by decide) (by decide) (by decide) (by decide)
    -- the reference
    have cm : m_copyPlan m (297 : Int32) (0 : Int32) = some (plc m 297 0 297) := cpl_m (P := 297) (Q := 0) (by decide) (by decide) (by omega)
    obtain ⟨M, eM⟩ : ∃ M, M = s2 (s2 (s2 (plc m 297 0 297) 0 4 (nI fl')) 0 1 (0 : Int32)) 0 2 (0 : Int32) := ⟨_, rfl⟩
    have Mo : ∀ a, a ≠ 0 → a ≠ 1 → M a = m a := fun a p q => by rw [eM, s2_ne p, s2_ne p, s2_ne p, plc_ne q]
    have M1 : ∀ k, k < 297 → M 1 (0 + k) = m 1 (297 + k) := fun k hk => by rw [eM, s2_ne (by decide), s2_ne (by decide), s2_ne (by decide), plc_at hk]
    have M0 : ∀ k, k ≠ 1 → k ≠ 2 → k ≠ 4 → M 0 k = m 0 k := fun k p q r => by rw [eM, s2_k q, s2_k p, s2_k r, plc_ne (by decide)]
    have m12 : plc m 297 0 297 1 (Int32.toNatClampNeg (2 : Int32)) = nI rs := by
      have := plc_at (m := m) (P := 297) (Q := 0) (n := 297) (k := 2) (by decide)
      exact this.trans b6
    have m04 : plc m 297 0 297 0 4 = nI fl := by rw [plc_ne (by decide)]; exact hB.f.2.1
    have m3 := Mo 3 (by decide) (by decide)
    have m4 := Mo 4 (by decide) (by decide)
    have ab : 14200 ≤ R ∧ R + 11460 * (zp C 8 nm + sp cu fl') ≤ 14200 + 11460 * (((t + 1 : Nat)) : Int) := by
      refine ⟨q14, ?_⟩
      rw [zp_tr C10]
      rcases hrs with z | z
      · have := qb z
        rw [this.1]
        rw [z, if_neg (by decide)] at ef
        rw [ef]
        have := this.2
        omega
      · have := qa z
        rw [z, if_pos rfl] at ef
        have hs : sp cu fl' = 0 := by
          unfold sp
          rw [if_pos ⟨this.1, ef⟩]
        rw [hs]
        have := this.2
        omega
    have key : ∃ c' m', f_FL_afterSetting C = some c' ∧ m_clamps M = some m' ∧ INV (t + 1) c' m' ∧ c' 8 = C 8 ∧ m' 1 = M 1 := by
      obtain ⟨F, F1, F2, F3, F4, F5⟩ := hB.F
      obtain ⟨L, l1, l2, l3⟩ := hB.L
      obtain ⟨sz, nx, a1, a2, a3, a4, a5, a6⟩ := hB.H
      have c3 := Co 3 (by decide) (by decide) (by decide) (by decide) (by decide)
      have c4 := Co 4 (by decide) (by decide) (by decide) (by decide) (by decide)
      have c5 := Co 5 (by decide) (by decide) (by decide) (by decide) (by decide)
      refine after_lock (t := t + 1) (na := nm) (cur := cu) (fl := fl') (ed := 0) (nm := nm) (Ra := R) (by omega) CD (hB.K.of (Mo _ (by decide) (by decide)) (Mo _ (by decide) (by decide)) (Mo _ (by decide) (by decide))) (hB.S.of1 (fun k _ => by rw [C1]) (fun k p _ => M0 k (by omega) (by omega) (by omega))) ⟨F, F1, by rw [C1]; exact F2, by rw [M0 7 (by decide) (by decide) (by decide)]; exact F3, qF.tr C10 (by rw [C1]), ?_⟩ ⟨L, l1, by omega, ?_⟩ ⟨by omega, C81, ?_, Or.inl rfl, fun i hi => (ql i hi).cp hi (by omega) C10 M1 m3 m4⟩ q20 ⟨C82, ?_, C83⟩ ⟨fun q => by omega, fun _ => ⟨qc, by have := e4 rfl; omega⟩⟩ ab ⟨by decide, C010, ?_, fun q => by omega⟩ (fun q => by omega) ⟨0, nx, ⟨by decide, fun _ => rfl⟩, a2, C473, ?_, by rw [C472]; exact a5, fun j hj => by omega⟩ ⟨C52, ?_, by have := hB.f.2.2; omega⟩
      · rw [c3, m3, m4]; exact F5
      · rw [c4, c5, M0 68 (by decide) (by decide) (by decide), Mo 41 (by decide) (by decide)]; exact l3
      · exact (M1 0 (by decide)).trans b2
      · exact (M1 1 (by decide)).trans b4
      · rw [eM, s2_k (by decide), s2_at]; rfl
      · rw [eM, s2_at]; rfl
      · rw [eM, s2_k (by decide), s2_k (by decide), s2_at]
    obtain ⟨c', m', k1, k2, k3, k4, k5⟩ := key
    have hcm : m_count m' 0 = some (m' 1 0) := mcount (P := 0) (by decide)
    have hr1 : m' 1 0 = nI nm := by rw [k5]; exact (M1 0 (by decide)).trans b2
    have hr2 : c' 8 1 = nI nm := by rw [k4]; exact C81
    refine ⟨nI nm, c', m', ?_, ?_, k3⟩
    · rw [if_neg (show ¬ nI 1 = 0 by decide), Jn_e, b5]
      have fin : (Option.bind (f_Pl_copyFrom x 8 11) fun x3 => Lt (s2 x3 8 3 (0 : Int32)) fun σ4 => Option.bind (f_FL_endEditing σ4) fun x5 => Option.bind (f_FL_afterSetting x5) fun x6 => some ((x6 8 1), x6)) = some (nI nm, c') := by
        rw [bd_e hcf, Lt_e, bd_e hend, bd_e k1, hr2]
      rcases hrs with z | z
      · rw [z, if_neg (by decide)] at ex
        rw [z, if_pos (show nI 0 = 0 from rfl), ← ex]
        exact fin
      · rw [z, if_pos rfl] at ex
        rw [z, if_neg (show ¬ nI 1 = 0 by decide), Lt_e, ← ex]
        exact fin
    · rw [if_neg (show ¬ nI 1 = 0 by decide), bd_e cm, Gd_t (show Ix (2 : Int32) 2673 from Ix_n (i := 2) (n := 2673) (by decide) (by decide)), m12, m04, Jn_if]
      have e5 : (if nI rs = 1 then (0 : Int32) else nI fl) = nI fl' := by
        rw [ef]
        rcases hrs with z | z <;> rw [z]
        · rw [if_neg (by decide), if_neg (by decide)]
        · rw [if_pos (by decide), if_pos rfl]; rfl
      rw [e5, Lt_e, Lt_e, Lt_e, ← eM, bd_e k2, bd_e hcm, hr1]
