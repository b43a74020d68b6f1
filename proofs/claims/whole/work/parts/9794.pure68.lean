/-! insert -/

def JO (c m : St) (q P n f x1 N l : Nat) : Prop :=
  ((∀ (J2 : Int32 → Option Int32) (J3 : Unit → Option Int32), lp (lb_f_Pl_legsUpToFix_10 c q (nI f) J2 J3) N (nI l) = J3 ()) ∧ (∀ (J4 : Int32 → Option Int32) (J5 : Unit → Option Int32), lp (lb_m_joined_29 m (nI P) (nI x1) J4 J5) N (nI l) = J5 ())) ∨
      ∃ j, l ≤ j ∧ j < n ∧ (∀ (J2 : Int32 → Option Int32) (J3 : Unit → Option Int32), lp (lb_f_Pl_legsUpToFix_10 c q (nI f) J2 J3) N (nI l) = J2 (nI j)) ∧ (∀ (J4 : Int32 → Option Int32) (J5 : Unit → Option Int32), lp (lb_m_joined_29 m (nI P) (nI x1) J4 J5) N (nI l) = J4 (nI j))
theorem jo_l {c m : St} {q b P n f x1 : Nat} {R : Int} (hI : PI b q) (hD : Dm c) (hq : rc q 0 = q + 1) (hP : P ≤ 2376) (hn : n ≤ 20) (hc : c q 1 = nI n) (hm : m 1 P = nI n) (hl : ∀ i, i < n → LegR c m q P R i) (hf : f < 16) (hx : x1 < 168) (hx2 : x1 + 1 < 168) (h43 : m 43 (x1 + 1) = nI f) : ∀ (d l N : Nat), l + d = n → d < N →
    JO c m q P n f x1 N l := by
  intro d
  induction d with
  | zero =>
    intro l N h1 h2
    left
    refine ⟨fun J2 J3 => ?_, fun J4 J5 => ?_⟩
    · rw [lp_s (by omega)]
      generalize lp (lb_f_Pl_legsUpToFix_10 c q (nI f) J2 J3) (N - 1) = ih
      unfold lb_f_Pl_legsUpToFix_10
      rw [hc, if_pos (nI_le (by omega) (by omega))]
    · rw [lp_s (by omega)]
      generalize lp (lb_m_joined_29 m (nI P) (nI x1) J4 J5) (N - 1) = ih
      unfold lb_m_joined_29
      rw [bd_e (mcount hP), hm, if_pos (nI_le (by omega) (by omega))]
  | succ d ihd =>
    intro l N h1 h2
    have hL := hl l (by omega)
    obtain ⟨k, k1, k2, k3, k4, k5, k6⟩ := hL.kd
    have gc : f_Tb_get c (q + 1) (nI l) (1 : Int32) = some (c (q + 2) (l * 14 + 1)) := pg_get (j := 1) hI hD (by omega) rfl rfl (by decide)
    have gm : m_of m (nI P) (nI l) (0 : Int32) = some (nI k) := (mof (j := 0) hP (show l < 21 by omega) (by decide)).trans (congrArg some k3)
    have gm1 : m_of m (nI P) (nI l) (1 : Int32) = some (m 1 (P + 3 + 14 * l + 1)) := mof (j := 1) hP (show l < 21 by omega) (by decide)
    have x2 : Ix (nI x1 + (1 : Int32)) 168 := by rw [nI_1]; exact Ix_n (by omega) (by decide)
    have y2 : m 43 (Int32.toNatClampNeg (nI x1 + (1 : Int32))) = nI f := by rw [nI_1, nI_clamp (by omega)]; exact h43
    have cst : ∀ (J2 : Int32 → Option Int32) (J3 : Unit → Option Int32), lp (lb_f_Pl_legsUpToFix_10 c q (nI f) J2 J3) N (nI l) = if c (q + 2) (l * 14 + 1) = nI f then J2 (nI l) else lp (lb_f_Pl_legsUpToFix_10 c q (nI f) J2 J3) (N - 1) (nI (l + 1)) := fun J2 J3 => by
      rw [lp_s (by omega)]
      generalize lp (lb_f_Pl_legsUpToFix_10 c q (nI f) J2 J3) (N - 1) = ih
      unfold lb_f_Pl_legsUpToFix_10
      rw [hc, if_neg (nI_ge (by omega) (by omega)), hq, bd_e gc, nI_1]
      rfl
    have mst : ∀ (J4 : Int32 → Option Int32) (J5 : Unit → Option Int32), (hfx k → lp (lb_m_joined_29 m (nI P) (nI x1) J4 J5) N (nI l) = if m 1 (P + 3 + 14 * l + 1) = nI f then J4 (nI l) else lp (lb_m_joined_29 m (nI P) (nI x1) J4 J5) (N - 1) (nI (l + 1))) ∧ (¬ hfx k → lp (lb_m_joined_29 m (nI P) (nI x1) J4 J5) N (nI l) = lp (lb_m_joined_29 m (nI P) (nI x1) J4 J5) (N - 1) (nI (l + 1))) := fun J4 J5 => by
      rw [lp_s (by omega)]
      generalize lp (lb_m_joined_29 m (nI P) (nI x1) J4 J5) (N - 1) = ih
      unfold lb_m_joined_29
      rw [bd_e (mcount hP), hm, if_neg (nI_ge (by omega) (by omega)), bd_e gm]
      refine ⟨fun p => ?_, fun p => ?_⟩
      · rw [bd_e ((hasFix_e k1).1 p), Jn_e, if_neg n10, bd_e gm1, Gd_t x2]
        by_cases z : m 1 (P + 3 + 14 * l + 1) = nI f
        · rw [if_pos (z.trans y2.symm), if_pos z]
        · rw [if_neg (fun y => z (y.trans y2)), if_neg z, Lt_e, nI_1]
      · rw [bd_e ((hasFix_e k1).2 p), Jn_e, if_pos rfl, Lt_e, nI_1]
    have ih := ihd (l + 1) (N - 1) (by omega) (by omega)
    have skip : ¬ c (q + 2) (l * 14 + 1) = nI f → (hfx k → ¬ m 1 (P + 3 + 14 * l + 1) = nI f) → JO c m q P n f x1 N l := fun p1 p2 => by
      have ec : ∀ (J2 : Int32 → Option Int32) (J3 : Unit → Option Int32), lp (lb_f_Pl_legsUpToFix_10 c q (nI f) J2 J3) N (nI l) = lp (lb_f_Pl_legsUpToFix_10 c q (nI f) J2 J3) (N - 1) (nI (l + 1)) := fun J2 J3 => by rw [cst, if_neg p1]
      have em : ∀ (J4 : Int32 → Option Int32) (J5 : Unit → Option Int32), lp (lb_m_joined_29 m (nI P) (nI x1) J4 J5) N (nI l) = lp (lb_m_joined_29 m (nI P) (nI x1) J4 J5) (N - 1) (nI (l + 1)) := fun J4 J5 => by
        by_cases hfk : hfx k
        · rw [(mst J4 J5).1 hfk, if_neg (p2 hfk)]
        · exact (mst J4 J5).2 hfk
      rcases ih with ⟨a1, a2⟩ | ⟨j, j1, j2, a1, a2⟩
      · exact Or.inl ⟨fun J2 J3 => (ec J2 J3).trans (a1 J2 J3), fun J4 J5 => (em J4 J5).trans (a2 J4 J5)⟩
      · exact Or.inr ⟨j, by omega, j2, fun J2 J3 => (ec J2 J3).trans (a1 J2 J3), fun J4 J5 => (em J4 J5).trans (a2 J4 J5)⟩
    by_cases hfk : hfx k
    · obtain ⟨g, G, g1, g2, -, g3, g4, -⟩ := k4 hfk
      by_cases e : g = f
      · right
        exact ⟨l, Nat.le_refl _, by omega, fun J2 J3 => by rw [cst, if_pos (by rw [g3, e])], fun J4 J5 => by rw [(mst J4 J5).1 hfk, if_pos (by rw [g4, e])]⟩
      · have ne : ¬ nI g = nI f := fun z => e ((nI_eq (by omega) (by omega)).mp z)
        exact skip (by rw [g3]; exact ne) (fun _ => by rw [g4]; exact ne)
    · exact skip (by rw [k5 hfk]; exact fun z => nI_nn (show f < 2 ^ 31 by omega) z.symm) (fun p => absurd p hfk)
theorem join_lock {c m : St} {q P n cu ed nm na F tl idx : Nat} (hD : Dm c) (hP : PE c m q P n cu ed nm na) (F16 : F ≤ 16) (h44 : c 4 4 = nI tl) (h73 : m 0 73 = nI tl) (t1 : 1 ≤ tl) (t2 : tl ≤ 12) (hd : DL c m F (tl - 1)) (hi : idx ≤ n) :
    ∃ (x : Int32) (rem : Nat), f_Tb_get c 6 (nI tl - (1 : Int32)) (1 : Int32) = some x ∧ f_Pl_legsUpToFix c q (nI idx) x = some (nI rem) ∧ idx + rem ≤ n ∧ ((rem = 0 ∧ m_joined m (nI P) (nI idx) = some (-1)) ∨ (0 < rem ∧ m_joined m (nI P) (nI idx) = some (nI (idx + rem - 1)))) := by
  have n20 := hP.n20
  have Pl := hP.Pl
  obtain ⟨b, hI⟩ := hP.I
  obtain ⟨R, hl⟩ := hP.lg
  have hq : rc q 0 = q + 1 := by
    rcases hI with ⟨-, e⟩ | ⟨-, e⟩ | ⟨-, e⟩ <;> rw [e] <;> rfl
  have e1 : nI tl - (1 : Int32) = nI (tl - 1) := by rw [show (1 : Int32) = nI 1 from rfl, pk_sub t1]
  have e2 : (14 : Int32) * (m 0 73 - (1 : Int32)) = nI (14 * (tl - 1)) := by rw [h73, e1, show (14 : Int32) = nI 14 from rfl, pk_mul]
  have gx := get7 (n := tl - 1) (j := 1) (pj := 1) hD (by omega) (by decide) rfl
  obtain ⟨k, k1, k2, k3, k4, k5, k6⟩ := hd.1.kd
  have k3' : m 43 (14 * (tl - 1) + 0) = nI k := by rw [vt_1] at k3; exact k3
  have k2' : c 7 ((tl - 1) * 14 + 0) = nI k := k2
  refine ⟨c 7 ((tl - 1) * 14 + 1), ?_⟩
  rw [e1]
  have i0 : Ix (nI (14 * (tl - 1)) + (0 : Int32)) 168 := by rw [show (0 : Int32) = nI 0 from rfl, nI_add]; exact Ix_n (by omega) (by decide)
  have y0 : m 43 (Int32.toNatClampNeg (nI (14 * (tl - 1)) + (0 : Int32))) = nI k := by rw [show (0 : Int32) = nI 0 from rfl, nI_add, nI_clamp (by omega)]; exact k3'
  by_cases hf : hfx k
  · obtain ⟨f, G, f1, f2, -, f3, f4, -⟩ := k4 hf
    rw [vt_1] at f4
    have f3' : c 7 ((tl - 1) * 14 + 1) = nI f := f3
    rw [f3'] at gx ⊢
    have em : m_joined m (nI P) (nI idx) = lp (lb_m_joined_29 m (nI P) (nI (14 * (tl - 1))) (fun x3 => some x3) (fun _ => some (-1 : Int32))) 4000 (nI idx) := by
      unfold m_joined
      rw [Lt_e, e2, Gd_t i0, y0, bd_e ((hasFix_e k1).1 hf), if_neg n10, Jn_e, Jn_e]
    have ec : f_Pl_legsUpToFix c q (nI idx) (nI f) = lp (lb_f_Pl_legsUpToFix_10 c q (nI f) (fun x1 => some ((x1 - nI idx) + (1 : Int32))) (fun _ => some (0 : Int32))) 4000 (nI idx) := by
      unfold f_Pl_legsUpToFix
      rw [if_neg (nI_nn (by omega)), Jn_e, Jn_e]
    rcases jo_l (f := f) (x1 := 14 * (tl - 1)) hI hD hq (by omega) n20 hP.cc hP.cm hl (by omega) (by omega) (by omega) f4 (n - idx) idx 4000 (by omega) (by omega) with ⟨a1, a2⟩ | ⟨j, j1, j2, a1, a2⟩
    · exact ⟨0, gx, ec.trans (a1 _ _), by omega, Or.inl ⟨rfl, em.trans (a2 _ _)⟩⟩
    · refine ⟨j - idx + 1, gx, (ec.trans (a1 _ _)).trans ?_, by omega, Or.inr ⟨by omega, (em.trans (a2 _ _)).trans ?_⟩⟩
      · rw [pk_sub j1, nI_1]
      · rw [show idx + (j - idx + 1) - 1 = j by omega]
  · have f3' : c 7 ((tl - 1) * 14 + 1) = -1000000 := k5 hf
    rw [f3'] at gx ⊢
    refine ⟨0, gx, ?_, by omega, Or.inl ⟨rfl, ?_⟩⟩
    · unfold f_Pl_legsUpToFix
      rw [if_pos rfl]
      rfl
    · unfold m_joined
      rw [Lt_e, e2, Gd_t i0, y0, bd_e ((hasFix_e k1).2 hf), if_pos rfl]
theorem ins1_l {m : St} {idx tl : Nat} (h : m 0 73 = nI tl) (ht : tl ≤ 12) (hi : idx + tl ≤ 20) {J : St → Option (Int32 × St)} : ∀ (d k N : Nat), k + d = tl → d < N → lp (lb_m_insert_117 (nI idx) J) N (nI k, bcp m 43 0 (300 + 14 * idx) (14 * k)) = J (bcp m 43 0 (300 + 14 * idx) (14 * tl)) := by
  intro d
  induction d with
  | zero =>
    intro k N h1 h2
    rw [lp_s (by omega)]
    generalize lp (lb_m_insert_117 (nI idx) J) (N - 1) = ih
    unfold lb_m_insert_117
    try dsimp only
    rw [if_pos (show bcp m 43 0 (300 + 14 * idx) (14 * k) 0 73 ≤ nI k by rw [bcp_ne (by decide), h]; exact nI_le (by omega) (by omega)), show k = tl by omega]
  | succ d ihd =>
    intro k N h1 h2
    rw [lp_s (by omega), ← ihd (k + 1) (N - 1) (by omega) (by omega)]
    generalize lp (lb_m_insert_117 (nI idx) J) (N - 1) = ih
    have e := told_m (m := bcp m 43 0 (300 + 14 * idx) (14 * k)) (k := k) (P := 297) (i := idx + k) (by omega) (by decide) (by omega)
    have e2 := bcp_add (m := m) (A := 43) (sp := 0) (dp := 300 + 14 * idx) (x := 14 * k) (y := 14) (Or.inl (by decide))
    rw [show 0 + 14 * k = 14 * k by omega] at e2
    rw [show 297 + 3 + 14 * (idx + k) = 300 + 14 * idx + 14 * k by omega, e2] at e
    unfold lb_m_insert_117
    try dsimp only
    rw [if_neg (show ¬ bcp m 43 0 (300 + 14 * idx) (14 * k) 0 73 ≤ nI k by rw [bcp_ne (by decide), h]; exact nI_ge (by omega) (by omega)), nI_add, show (297 : Int32) = nI 297 from rfl, bd_e e, Lt_e, nI_1]
    rfl
theorem ins2_l {m : St} {idx tl n nx : Nat} (h : m 0 73 = nI tl) (ht : tl ≤ 12) (hn : n ≤ 20) (hx : nx ≤ n) (hi : idx + tl + (n - nx) ≤ 20) {J : St → Option (Int32 × St)} : ∀ (d l N : Nat), l + d = n → nx ≤ l → d < N → lp (lb_m_insert_149 (nI idx) (nI n) (nI nx) J) N (nI l, bcp m 1 (597 + 14 * nx) (300 + 14 * (idx + tl)) (14 * (l - nx))) = J (bcp m 1 (597 + 14 * nx) (300 + 14 * (idx + tl)) (14 * (n - nx))) := by
  intro d
  induction d with
  | zero =>
    intro l N h1 h0 h2
    rw [lp_s (by omega)]
    generalize lp (lb_m_insert_149 (nI idx) (nI n) (nI nx) J) (N - 1) = ih
    unfold lb_m_insert_149
    try dsimp only
    rw [if_pos (nI_le (by omega) (by omega)), show l = n by omega]
  | succ d ihd =>
    intro l N h1 h0 h2
    rw [lp_s (by omega), ← ihd (l + 1) (N - 1) (by omega) (by omega) (by omega)]
    generalize lp (lb_m_insert_149 (nI idx) (nI n) (nI nx) J) (N - 1) = ih
    have e := copyLeg_m (m := bcp m 1 (597 + 14 * nx) (300 + 14 * (idx + tl)) (14 * (l - nx))) (P := 594) (i := l) (Q := 297) (j := idx + tl + l - nx) (by decide) (by omega) (by decide) (by omega) (by omega)
    have e2 := bcp_add (m := m) (A := 1) (sp := 597 + 14 * nx) (dp := 300 + 14 * (idx + tl)) (x := 14 * (l - nx)) (y := 14) (by omega)
    rw [show 594 + 3 + 14 * l = 597 + 14 * nx + 14 * (l - nx) by omega, show 297 + 3 + 14 * (idx + tl + l - nx) = 300 + 14 * (idx + tl) + 14 * (l - nx) by omega, e2, show 14 * (l - nx) + 14 = 14 * (l + 1 - nx) by omega] at e
    have a1 : ((nI idx + bcp m 1 (597 + 14 * nx) (300 + 14 * (idx + tl)) (14 * (l - nx)) 0 73) + nI l) - nI nx = nI (idx + tl + l - nx) := by rw [bcp_ne (by decide), h, nI_add, nI_add, pk_sub (by omega)]
    unfold lb_m_insert_149
    try dsimp only
    rw [if_neg (nI_ge (by omega) (by omega)), a1, show (594 : Int32) = nI 594 from rfl, show (297 : Int32) = nI 297 from rfl, bd_e e, Lt_e, nI_1]
