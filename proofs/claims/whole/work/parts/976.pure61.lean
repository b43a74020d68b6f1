/-! the text: fixes, sides, names of kinds -/

theorem g0 : (0 : Int32) &&& 1 = 0 := by decide
theorem g1 : (1 : Int32) &&& 1 = 1 := by decide
/-- a store into the reference's row of the leg that is read -/
theorem TS.m43 {c0 m0 : St} {L F n j : Nat} {c m : St} {v : Int32} (h : TS c0 m0 L F n c m) : TS c0 m0 L F n c (s2 m 43 (14 * n + j) v) := h.st h.D (fun _ _ _ => rfl) rfl (fun _ _ => rfl) (fun x _ q => s2_ne q) (fun k _ => by rw [s2_ne (by decide)]) (by rw [s2_ne (by decide)]) (fun k p => s2_k (by omega))
theorem TS.c7 {c0 m0 : St} {L F n j : Nat} {c m : St} {v : Int32} (h : TS c0 m0 L F n c m) : TS c0 m0 L F n (s2 c 7 (n * 14 + j) v) m := h.st (h.D.s2 (by decide)) (fun x _ q => s2_ne q) (by rw [s2_ne (by decide)]) (fun k p => s2_k (by omega)) (fun _ _ _ => rfl) (fun _ _ => rfl) rfl (fun _ _ => rfl)
theorem TK.m43 {L k : Nat} {c m : St} {s a : Nat} {v : Int32} (h : TK L c m s a) : TK L c (s2 m 43 k v) s a := h.of rfl rfl rfl rfl (by rw [s2_ne (by decide)]) (by rw [s2_ne (by decide)])
theorem TK.c7 {L k : Nat} {c m : St} {s a : Nat} {v : Int32} (h : TK L c m s a) : TK L (s2 c 7 k v) m s a := h.of (s2_ne (by decide)) (by rw [s2_ne (by decide)]) (by rw [s2_ne (by decide)]) (by rw [s2_ne (by decide)]) rfl rfl
theorem fail_lock {c0 m0 : St} {L F n s0 : Nat} {c m : St} {s a : Nat} {Q : (Nat → Int32) → (Nat → Int32) → Prop} {x y : Option (Int32 × St)} (h : TS c0 m0 L F n c m) (k : TK L c m s a) (hx : x = some (0, c)) (hy : y = some (0, m)) : OK3 c0 m0 L F n s0 Q x y :=
  Or.inl ⟨c, m, s, hx, hy, h, k.cs, k.ms, by have := k.le; have := k.aL; omega⟩
theorem clv1 {b : Int32} : clv b = 1 ↔ 65 ≤ b.toInt ∧ b.toInt ≤ 90 := by
  unfold clv
  constructor
  · intro h
    (repeat' split at h) <;> first | assumption | (exfalso; omega)
  · intro h
    rw [if_neg (by omega), if_pos h]
theorem fix_lock {c0 m0 : St} {L F n : Nat} {c m : St} {s a : Nat} {w w' : Nat → Int32} (g : TG c0 m0 L F n c m s a w w') (hn : n < 12) :
    OK3 c0 m0 L F n s (fun u u' => ∃ f : Nat, f < F ∧ u = ud (ud (ud w 1 (nI f)) 7 (m0 3 f)) 8 (m0 4 f) ∧ u' = ud w' 1 (nI f)) (f_Rx_readFix c 4 (nI n)) (m_readsFix m) := by
  obtain ⟨h, k, r1, r2⟩ := g
  have hL := h.B.2.1
  have ha := k.aL
  have hle := k.le
  have k4 := clv_lt (bya c L s)
  obtain ⟨-, -, -, -, F1, F2, F3, F4⟩ := h.B
  unfold f_Rx_readFix m_readsFix
  rw [k.cs, bd_e (h.b (by omega)), Lt_e, Jn_e, Jn_e, k.k, TS.ml k, k.ms]
  by_cases h1 : clv (bya c L s) = 1
  · have hb := clv1.mp h1
    have hs : s < L := by
      rcases (show s < L ∨ ¬ s < L by omega) with q | q
      · exact q
      · rw [bya_out q] at h1; exact absurd h1 (by decide)
    have ek : m 41 (Int32.toNatClampNeg (nI s)) = bya c L s := by rw [nI_clamp (by omega), h.mb (by omega)]
    rw [if_pos (show nI (clv (bya c L s)) = 1 by rw [h1]; rfl), bd_e (TS.tl k)]
    by_cases h2 : a - s = 1
    · rw [if_pos (show nI (a - s) = 1 by rw [h2]; rfl), if_pos (show nI (a - s) = 1 by rw [h2]; rfl), Gd_t (Ix_n (by omega) (by decide)), ek, bd_e (isCap_e _), if_pos h1, if_neg n10, Gd_t (Ix_n (by omega) (by decide)), F3, show rc 4 0 = 1 from rfl, F2]
      have e65 : (bya c L s - 65).toInt = (bya c L s).toInt - 65 := tI_sub (by rw [show (65 : Int32).toInt = 65 by decide]; omega) (by rw [show (65 : Int32).toInt = 65 by decide]; omega)
      obtain ⟨f, f1, f2⟩ : ∃ f : Nat, bya c L s - 65 = nI f ∧ f ≤ 25 := ⟨((bya c L s).toInt - 65).toNat, i2 (by rw [nI_toInt (by omega), e65]; omega), by omega⟩
      rw [f1]
      by_cases hf : f < F
      · rw [if_pos (nI_lt hf (by omega)), if_pos (nI_lt hf (by omega)), Gd_t (Ix_n (by omega) (by decide)), Gd_t (kxg (j := 1) (pj := 1) h.n hn (by decide) rfl).1, Lt_e, (kxg (j := 1) (pj := 1) h.n hn (by decide) rfl).2]
        obtain ⟨c', m', s', a', t1, t2, t3, t4, t5, t6, t7, t8, t9⟩ := nt_lock (h.m43 (j := 1) (v := nI f)) k.ca (by rw [s2_ne (by decide)]; exact k.ma) ha
        have hsa := k.ne hs
        obtain ⟨x1, x2, x3⟩ := F4 f hf
        have c3 : c' 3 = c 3 := by
          have := t3.2.2.2.2.1 3 (by decide) (by decide)
          rw [this, h.2.2.2.2.1 3 (by decide) (by decide)]
        have m3 : m 3 = m0 3 := h.2.2.2.2.2.2.1 3 (by decide) (by decide)
        have m4 : m 4 = m0 4 := h.2.2.2.2.2.2.1 4 (by decide) (by decide)
        right
        have T2 : ∀ C : St, Dm C → C 3 = c' 3 → f_Tb_get C 2 (nI f) (0 : Int32) = some (m0 3 f) ∧ f_Tb_get C 2 (nI f) (1 : Int32) = some (m0 4 f) := fun C hD e => by
          have g1 := Tb_get' (row := nI f) (col := (0 : Int32)) (i := f) (j := 0) hD.1 rfl rfl (by omega) (by decide)
          have g2 := Tb_get' (row := nI f) (col := (1 : Int32)) (i := f) (j := 1) hD.1 rfl rfl (by omega) (by decide)
          rw [show rc 2 2 = 3 from rfl, e, c3] at g1 g2
          rw [x1, m3] at g1
          rw [x2, m4] at g2
          exact ⟨g1, g2⟩
        refine ⟨s2 (s2 (s2 c' 7 (n * 14 + 1) (nI f)) 7 (n * 14 + 7) (m0 3 f)) 7 (n * 14 + 8) (m0 4 f), m', s', a', _, _, ?_, ?_, ⟨t3.c7.c7.c7, t4.c7.c7.c7, (r1.of t6).set.set.set, RM.of r2.set t7⟩, by omega, f, hf, rfl, rfl⟩
        · rw [bd_e t1, show rc 4 2 = 6 from rfl, show rc 1 0 = 2 from rfl, bd_e (put7 (j := 1) (pj := 1) t3.D hn (by decide) rfl), bd_e (T2 _ (t3.D.s2 (by decide)) (s2_ne (by decide))).1, bd_e (put7 (j := 7) (pj := 7) (t3.D.s2 (by decide)) hn (by decide) rfl), bd_e (T2 _ ((t3.D.s2 (by decide)).s2 (by decide)) (by rw [s2_ne (by decide), s2_ne (by decide)])).2, bd_e (put7 (j := 8) (pj := 8) ((t3.D.s2 (by decide)).s2 (by decide)) hn (by decide) rfl)]
        · rw [bd_e t2]
      · rw [if_neg (nI_nlt (by omega) (by omega)), if_neg (nI_nlt (by omega) (by omega))]
        exact fail_lock h k rfl rfl
    · have hne : ¬ nI (a - s) = 1 := fun q => h2 ((nI_eq (b := 1) (by omega) (by decide)).mp q)
      rw [if_neg hne, if_neg hne]
      exact fail_lock h k rfl rfl
  · rw [if_neg (show ¬ nI (clv (bya c L s)) = 1 from fun q => h1 ((nI_eq (b := 1) (by omega) (by decide)).mp q))]
    refine fail_lock h k rfl ?_
    by_cases h2 : a - s = 1
    · have ek : m 41 (Int32.toNatClampNeg (nI s)) = bya c L s := by rw [nI_clamp (by omega), h.mb (by omega)]
      rw [if_pos (show nI (a - s) = 1 by rw [h2]; rfl), Gd_t (Ix_n (by omega) (by decide)), ek, bd_e (isCap_e _), if_neg h1, if_pos rfl]
    · rw [if_neg (show ¬ nI (a - s) = 1 from fun q => h2 ((nI_eq (b := 1) (by omega) (by decide)).mp q))]
theorem let_e {c0 m0 : St} {L F n : Nat} {c m : St} {s a : Nat} {x : Int32} (h : TS c0 m0 L F n c m) (k : TK L c m s a) : m_isLetter m x = some (if a - s = 1 ∧ bya c L s = x then 1 else 0) := by
  have hL := h.B.2.1
  have ha := k.aL
  have hle := k.le
  unfold m_isLetter
  rw [Jn_e, Jn_e, TS.ml k, k.ms]
  by_cases h2 : a - s = 1
  · have ek : m 41 (Int32.toNatClampNeg (nI s)) = bya c L s := by rw [nI_clamp (by omega), h.mb (by omega)]
    rw [if_pos (show nI (a - s) = 1 by rw [h2]; rfl), Gd_t (Ix_n (by omega) (by decide)), ek]
    by_cases h3 : bya c L s = x
    · rw [if_pos h3, if_pos ⟨h2, h3⟩]; first | exact Gd_t g0 | exact Gd_t g1
    · rw [if_neg h3, if_neg (fun q => h3 q.2)]; first | exact Gd_t g0 | exact Gd_t g1
  · rw [if_neg (show ¬ nI (a - s) = 1 from fun q => h2 ((nI_eq (b := 1) (by omega) (by decide)).mp q)), if_neg (fun q => h2 q.1)]; first | exact Gd_t g0 | exact Gd_t g1
theorem side_lock {c0 m0 : St} {L F n : Nat} {c m : St} {s a : Nat} {w w' : Nat → Int32} (g : TG c0 m0 L F n c m s a w w') (hn : n < 12) :
    OK3 c0 m0 L F n s (fun u u' => ∃ v : Nat, v ≤ 1 ∧ u = ud w 4 (nI v) ∧ u' = ud w' 4 (nI v)) (f_Rx_readSide c 4 (nI n)) (m_readsSide m) := by
  obtain ⟨h, k, r1, r2⟩ := g
  have hL := h.B.2.1
  have ha := k.aL
  have hle := k.le
  unfold f_Rx_readSide m_readsSide
  rw [k.cs, bd_e (h.b (by omega)), bd_e (TS.tl k), Jn_e, bd_e (let_e h k), Jn_e, bd_e (let_e h k)]
  by_cases h2 : a - s = 1
  · rw [if_pos (show nI (a - s) = 1 by rw [h2]; rfl), Jn_e]
    have go : ∀ v : Nat, v ≤ 1 → (if bya c L s = 82 then (1 : Int32) else 0) = nI v → OK3 c0 m0 L F n s (fun u u' => ∃ v : Nat, v ≤ 1 ∧ u = ud w 4 (nI v) ∧ u' = ud w' 4 (nI v))
        (Option.bind (f_Rx_nextToken c 4) fun x5 => Jn (fun (x6 : Int32) => Option.bind (f_Tb_put x5 (rc 4 2) (nI n) (4 : Int32) x6) fun x8 => some ((1 : Int32), x8)) fun J7 => if bya c L s = (82 : Int32) then J7 (1 : Int32) else J7 (0 : Int32))
        (Jn (fun (x4 : Int32) => Gd (Ix (((14 : Int32) * (m 0 73)) + (4 : Int32)) 168) <| Lt (s2 m 43 (Int32.toNatClampNeg (((14 : Int32) * (m 0 73)) + (4 : Int32))) x4) fun σ6 => Option.bind (m_nextToken σ6) fun x7 => some ((1 : Int32), x7)) fun J5 => if (if a - s = 1 ∧ bya c L s = 82 then (1 : Int32) else 0) = 0 then J5 (0 : Int32) else J5 (1 : Int32)) := by
      intro v hv ev
      obtain ⟨c', m', s', a', t1, t2, t3, t4, t5, t6, t7, t8, t9⟩ := nt_lock (h.m43 (j := 4) (v := nI v)) k.ca (by rw [s2_ne (by decide)]; exact k.ma) ha
      right
      refine ⟨s2 c' 7 (n * 14 + 4) (nI v), m', s', a', _, _, ?_, ?_, ⟨t3.c7, t4.c7, (r1.of t6).set, RM.of r2.set t7⟩, by omega, v, hv, rfl, rfl⟩
      · rw [bd_e t1, Jn_if, ev, show rc 4 2 = 6 from rfl, bd_e (put7 (j := 4) (pj := 4) t3.D hn (by decide) rfl)]
      · have e2 : (if (if a - s = 1 ∧ bya c L s = 82 then (1 : Int32) else 0) = 0 then (0 : Int32) else 1) = nI v := by
          rw [← ev]
          by_cases q : bya c L s = 82
          · rw [if_pos q, if_pos (show a - s = 1 ∧ bya c L s = 82 from ⟨h2, q⟩), if_neg n10]
          · rw [if_neg q, if_neg (show ¬ (a - s = 1 ∧ bya c L s = 82) from fun x => q x.2), if_pos rfl]
        rw [Jn_if, e2, Gd_t (kxg (j := 4) (pj := 4) h.n hn (by decide) rfl).1, Lt_e, (kxg (j := 4) (pj := 4) h.n hn (by decide) rfl).2, bd_e t2]
    obtain ⟨v, hv, ev⟩ : ∃ v : Nat, v ≤ 1 ∧ (if bya c L s = 82 then (1 : Int32) else 0) = nI v := by
      by_cases q : bya c L s = 82
      · exact ⟨1, by decide, by rw [if_pos q]; rfl⟩
      · exact ⟨0, by decide, by rw [if_neg q]; rfl⟩
    by_cases q1 : bya c L s = 76
    · rw [if_pos q1, if_neg (show ¬ (if a - s = 1 ∧ bya c L s = 76 then (1 : Int32) else 0) = 0 by rw [if_pos ⟨h2, q1⟩]; decide)]
      exact go v hv ev
    · rw [if_neg q1, if_pos (show (if a - s = 1 ∧ bya c L s = 76 then (1 : Int32) else 0) = 0 by rw [if_neg (fun x => q1 x.2)]), bd_e (let_e h k)]
      by_cases q2 : bya c L s = 82
      · rw [if_pos q2, if_neg (show ¬ (if a - s = 1 ∧ bya c L s = 82 then (1 : Int32) else 0) = 0 by rw [if_pos ⟨h2, q2⟩]; decide)]
        exact go v hv ev
      · rw [if_neg q2, if_pos (show (if a - s = 1 ∧ bya c L s = 82 then (1 : Int32) else 0) = 0 by rw [if_neg (fun x => q2 x.2)])]
        exact fail_lock h k rfl rfl
  · rw [if_neg (show ¬ nI (a - s) = 1 from fun q => h2 ((nI_eq (b := 1) (by omega) (by decide)).mp q)), Jn_e, if_pos (show (if a - s = 1 ∧ bya c L s = 76 then (1 : Int32) else 0) = 0 by rw [if_neg (fun x => h2 x.1)]), bd_e (let_e h k), if_pos (show (if a - s = 1 ∧ bya c L s = 82 then (1 : Int32) else 0) = 0 by rw [if_neg (fun x => h2 x.1)])]
    exact fail_lock h k rfl rfl
theorem chr_e (σ : St) {k : Nat} (hk : k < 16) : f_Sn_charAt σ (nI k) = some (KNDS.getD k 0) := by
  have h : ∀ i : Fin 16, f_Sn_charAt (fun _ _ => 0) (nI i.val) = some (KNDS.getD i.val 0) := by decide +kernel
  exact h ⟨k, hk⟩
theorem len_e (σ : St) : f_Sn_length σ = some 16 := by
  have h : f_Sn_length (fun _ _ => 0) = some 16 := by decide +kernel
  exact h
theorem kd_l {c0 m0 : St} {L F n : Nat} {c m : St} {s a : Nat} (h : TS c0 m0 L F n c m) (k : TK L c m s a) : ∀ (d i N : Nat), i + d = 8 → d < N → ∃ r : Nat, r ≤ 8 ∧ (∀ (J : Int32 → Option Int32) (J3 : Unit → Option Int32), lp (lb_m_kindHere_2 m J J3) N (nI i) = if r < 8 then J (nI r) else J3 ()) ∧ (a - s = 2 → ∀ (J : Int32 → Option Int32) (J3 : Unit → Option Int32), lp (lb_f_Rx_kindNamed_20 c 4 J J3) N (nI i) = if r < 8 then J (nI r) else J3 ()) ∧ (r < 8 → a - s = 2 ∧ bya c L s = KNDS.getD (2 * r) 0) := by
  have hL := h.B.2.1
  have ha := k.aL
  have hle := k.le
  have K42 := h.B.1.2.2
  intro d
  induction d with
  | zero =>
    intro i N h1 h2
    refine ⟨8, Nat.le_refl _, fun J J3 => ?_, fun _ J J3 => ?_, fun q => by omega⟩
    · rw [lp_s (by omega)]
      generalize lp (lb_m_kindHere_2 m J J3) (N - 1) = ih
      unfold lb_m_kindHere_2
      rw [show i = 8 by omega, if_pos (show (8 : Int32) ≤ nI 8 by decide), if_neg (by decide)]
    · rw [lp_s (by omega)]
      generalize lp (lb_f_Rx_kindNamed_20 c 4 J J3) (N - 1) = ih
      unfold lb_f_Rx_kindNamed_20
      rw [bd_e (len_e c), show i = 8 by omega, if_pos (show (16 : Int32) ≤ (2 : Int32) * nI 8 + 1 by decide), if_neg (by decide)]
  | succ d ihd =>
    intro i N h1 h2
    have hi : i < 8 := by omega
    have e2 : (2 : Int32) * nI i = nI (2 * i) := by rw [show (2 : Int32) = nI 2 from rfl, pk_mul]
    obtain ⟨r, r0, r1, r2, r3⟩ := ihd (i + 1) (N - 1) (by omega) (by omega)
    have cm : ∀ (J : Int32 → Option Int32) (J3 : Unit → Option Int32), a - s = 2 → lp (lb_m_kindHere_2 m J J3) N (nI i) = if bya c L s = KNDS.getD (2 * i) 0 ∧ bya c L (s + 1) = KNDS.getD (2 * i + 1) 0 then J (nI i) else lp (lb_m_kindHere_2 m J J3) (N - 1) (nI (i + 1)) := fun J J3 q => by
      have ek : m 41 (Int32.toNatClampNeg (nI s)) = bya c L s := by rw [nI_clamp (by omega), h.mb (by omega)]
      have ek1 : m 41 (Int32.toNatClampNeg (nI (s + 1))) = bya c L (s + 1) := by rw [nI_clamp (by omega), h.mb (by omega)]
      have en : m 42 (Int32.toNatClampNeg (nI (2 * i))) = KNDS.getD (2 * i) 0 := by rw [nI_clamp (by omega)]; exact K42 _ (by omega)
      have en1 : m 42 (Int32.toNatClampNeg (nI (2 * i + 1))) = KNDS.getD (2 * i + 1) 0 := by rw [nI_clamp (by omega)]; exact K42 _ (by omega)
      rw [lp_s (by omega)]
      generalize lp (lb_m_kindHere_2 m J J3) (N - 1) = ih
      unfold lb_m_kindHere_2
      rw [if_neg (show ¬ (8 : Int32) ≤ nI i from nI_ge (b := 8) hi (by decide)), Jn_e, TS.ml k, if_pos (show nI (a - s) = 2 by rw [q]; rfl), k.ms, Gd_t (Ix_n (by omega) (by decide)), e2, Gd_t (Ix_n (by omega) (by decide)), ek, en]
      by_cases q1 : bya c L s = KNDS.getD (2 * i) 0
      · rw [if_pos q1, nI_1, nI_1, nI_1, Gd_t (Ix_n (by omega) (by decide)), Gd_t (Ix_n (by omega) (by decide)), ek1, en1]
        by_cases q2 : bya c L (s + 1) = KNDS.getD (2 * i + 1) 0
        · rw [if_pos q2, if_pos ⟨q1, q2⟩]
        · rw [if_neg q2, if_neg (fun x => q2 x.2), Lt_e]
      · rw [if_neg q1, if_neg (fun x => q1 x.1), Lt_e, nI_1]
    have cc : ∀ (J : Int32 → Option Int32) (J3 : Unit → Option Int32), a - s = 2 → lp (lb_f_Rx_kindNamed_20 c 4 J J3) N (nI i) = if bya c L s = KNDS.getD (2 * i) 0 ∧ bya c L (s + 1) = KNDS.getD (2 * i + 1) 0 then J (nI i) else lp (lb_f_Rx_kindNamed_20 c 4 J J3) (N - 1) (nI (i + 1)) := fun J J3 q => by
      rw [lp_s (by omega)]
      generalize lp (lb_f_Rx_kindNamed_20 c 4 J J3) (N - 1) = ih
      unfold lb_f_Rx_kindNamed_20
      rw [bd_e (len_e c), e2, nI_1, if_neg (show ¬ (16 : Int32) ≤ nI (2 * i + 1) from nI_ge (b := 16) (by omega) (by decide)), k.cs, bd_e (h.b (by omega)), bd_e (chr_e c (by omega)), Jn_e]
      by_cases q1 : bya c L s = KNDS.getD (2 * i) 0
      · rw [if_pos q1, nI_1, bd_e (h.b (by omega)), bd_e (chr_e c (by omega))]
        by_cases q2 : bya c L (s + 1) = KNDS.getD (2 * i + 1) 0
        · rw [if_pos q2, if_pos ⟨q1, q2⟩]
        · rw [if_neg q2, if_neg (fun x => q2 x.2), Lt_e, nI_1]
      · rw [if_neg q1, if_neg (fun x => q1 x.1), Lt_e, nI_1]
    by_cases q : a - s = 2
    · by_cases hit : bya c L s = KNDS.getD (2 * i) 0 ∧ bya c L (s + 1) = KNDS.getD (2 * i + 1) 0
      · refine ⟨i, by omega, fun J J3 => ?_, fun _ J J3 => ?_, fun _ => ⟨q, hit.1⟩⟩
        · rw [cm J J3 q, if_pos hit, if_pos hi]
        · rw [cc J J3 q, if_pos hit, if_pos hi]
      · refine ⟨r, r0, fun J J3 => ?_, fun _ J J3 => ?_, r3⟩
        · rw [cm J J3 q, if_neg hit, r1]
        · rw [cc J J3 q, if_neg hit, r2 q]
    · refine ⟨r, r0, fun J J3 => ?_, fun x => absurd x q, r3⟩
      rw [← r1 J J3, lp_s (by omega)]
      generalize lp (lb_m_kindHere_2 m J J3) (N - 1) = ih
      unfold lb_m_kindHere_2
      rw [if_neg (show ¬ (8 : Int32) ≤ nI i from nI_ge (b := 8) hi (by decide)), Jn_e, TS.ml k, if_neg (show ¬ nI (a - s) = 2 from fun x => q ((nI_eq (b := 2) (by omega) (by decide)).mp x)), Lt_e, nI_1]
theorem kind_lock {c0 m0 : St} {L F n : Nat} {c m : St} {s a : Nat} (h : TS c0 m0 L F n c m) (k : TK L c m s a) : (f_Rx_kindNamed c 4 = some (-1) ∧ m_kindHere m = some (-1)) ∨ ∃ r : Nat, r < 8 ∧ f_Rx_kindNamed c 4 = some (nI r) ∧ m_kindHere m = some (nI r) ∧ s < L := by
  have hL := h.B.2.1
  have ha := k.aL
  have hle := k.le
  have k4 := clv_lt (bya c L s)
  obtain ⟨r, r0, r1, r2, r3⟩ := kd_l h k 8 0 4000 (by decide) (by decide)
  have em : m_kindHere m = if r < 8 then some (nI r) else some (-1) := by
    unfold m_kindHere
    rw [Jn_e, Jn_e]
    exact r1 _ _
  have hcap : r < 8 → clv (bya c L s) = 1 := fun q => by
    rw [(r3 q).2]
    have : ∀ i : Fin 8, clv (KNDS.getD (2 * i.val) 0) = 1 := by decide +kernel
    exact this ⟨r, q⟩
  by_cases h1 : clv (bya c L s) = 1
  · by_cases h2 : a - s = 2
    · have ec : f_Rx_kindNamed c 4 = if r < 8 then some (nI r) else some (-1) := by
        unfold f_Rx_kindNamed
        rw [Jn_e, k.k, if_pos (show nI (clv (bya c L s)) = 1 by rw [h1]; rfl), bd_e (TS.tl k), if_pos (show nI (a - s) = 2 by rw [h2]; rfl), Jn_e, Jn_e]
        exact r2 h2 _ _
      by_cases q : r < 8
      · rw [if_pos q] at ec em
        exact Or.inr ⟨r, q, ec, em, by omega⟩
      · rw [if_neg q] at ec em
        exact Or.inl ⟨ec, em⟩
    · left
      rw [if_neg (fun q => h2 (r3 q).1)] at em
      refine ⟨?_, em⟩
      unfold f_Rx_kindNamed
      rw [Jn_e, k.k, if_pos (show nI (clv (bya c L s)) = 1 by rw [h1]; rfl), bd_e (TS.tl k), if_neg (show ¬ nI (a - s) = 2 from fun x => h2 ((nI_eq (b := 2) (by omega) (by decide)).mp x))]
  · left
    rw [if_neg (fun q => h1 (hcap q))] at em
    refine ⟨?_, em⟩
    unfold f_Rx_kindNamed
    rw [Jn_e, k.k, if_neg (show ¬ nI (clv (bya c L s)) = 1 from fun q => h1 ((nI_eq (b := 1) (by omega) (by decide)).mp q))]
