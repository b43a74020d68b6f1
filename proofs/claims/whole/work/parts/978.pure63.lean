/-! the text: attributes -/

def isA (b : Int32) : Prop := b = 79 ∨ b = 65 ∨ b = 43 ∨ b = 45 ∨ b = 66 ∨ b = 83
theorem six {α : Type} {b : Int32} {r z : α} (h : isA b) : (if b = 79 then r else if b = 65 then r else if b = 43 then r else if b = 45 then r else if b = 66 then r else if b = 83 then r else z) = r := by
  rcases h with h | h | h | h | h | h <;> subst h <;> rfl
theorem six' {α : Type} {b : Int32} {r z : α} (h : ¬ isA b) : (if b = 79 then r else if b = 65 then r else if b = 43 then r else if b = 45 then r else if b = 66 then r else if b = 83 then r else z) = z := by
  unfold isA at h
  rw [if_neg (fun q => h (Or.inl q)), if_neg (fun q => h (Or.inr (Or.inl q))), if_neg (fun q => h (Or.inr (Or.inr (Or.inl q)))), if_neg (fun q => h (Or.inr (Or.inr (Or.inr (Or.inl q))))), if_neg (fun q => h (Or.inr (Or.inr (Or.inr (Or.inr (Or.inl q)))))), if_neg (fun q => h (Or.inr (Or.inr (Or.inr (Or.inr (Or.inr q))))))]
theorem att_y {c0 m0 : St} {L F n : Nat} {c m : St} {s a : Nat} (h : TS c0 m0 L F n c m) (k : TK L c m s a) (h1 : a - s = 1) (hA : isA (bya c L s)) : m_isAttribute m = some 1 := by
  have l : ∀ x, m_isLetter m x = some (if a - s = 1 ∧ bya c L s = x then 1 else 0) := fun x => let_e h k
  have y : ∀ x, bya c L s = x → m_isLetter m x = some 1 := fun x q => by rw [l, if_pos ⟨h1, q⟩]
  have z : ∀ x, ¬ bya c L s = x → m_isLetter m x = some 0 := fun x q => by rw [l, if_neg (fun p => q p.2)]
  unfold m_isAttribute
  by_cases q1 : bya c L s = 79
  · rw [bd_e (y _ q1), Jn_e, Jn_e, if_neg n10]; first | exact Gd_t g0 | exact Gd_t g1
  · rw [bd_e (z _ q1), Jn_e, Jn_e, if_pos rfl]
    by_cases q2 : bya c L s = 65
    · rw [bd_e (y _ q2), if_neg n10]; first | exact Gd_t g0 | exact Gd_t g1
    · rw [bd_e (z _ q2), if_pos rfl]
      by_cases q3 : bya c L s = 43
      · rw [bd_e (y _ q3), if_neg n10]; first | exact Gd_t g0 | exact Gd_t g1
      · rw [bd_e (z _ q3), if_pos rfl]
        by_cases q4 : bya c L s = 45
        · rw [bd_e (y _ q4), if_neg n10]; first | exact Gd_t g0 | exact Gd_t g1
        · rw [bd_e (z _ q4), if_pos rfl]
          by_cases q5 : bya c L s = 66
          · rw [bd_e (y _ q5), if_neg n10]; first | exact Gd_t g0 | exact Gd_t g1
          · rw [bd_e (z _ q5), if_pos rfl]
            by_cases q6 : bya c L s = 83
            · rw [bd_e (y _ q6), if_neg n10]; first | exact Gd_t g0 | exact Gd_t g1
            · unfold isA at hA
              rcases hA with q | q | q | q | q | q <;> contradiction
theorem att_n {c0 m0 : St} {L F n : Nat} {c m : St} {s a : Nat} (h : TS c0 m0 L F n c m) (k : TK L c m s a) (hA : ¬ (a - s = 1 ∧ isA (bya c L s))) : m_isAttribute m = some 0 := by
  have z : ∀ x, (x = 79 ∨ x = 65 ∨ x = 43 ∨ x = 45 ∨ x = 66 ∨ x = 83) → m_isLetter m x = some 0 := fun x q => by
    rw [let_e h k, if_neg]
    rintro ⟨p1, p2⟩
    refine hA ⟨p1, ?_⟩
    unfold isA
    rw [p2]
    exact q
  unfold m_isAttribute
  rw [bd_e (z 79 (by decide)), Jn_e, Jn_e, if_pos rfl, bd_e (z 65 (by decide)), if_pos rfl, bd_e (z 43 (by decide)), if_pos rfl, bd_e (z 45 (by decide)), if_pos rfl, bd_e (z 66 (by decide)), if_pos rfl, bd_e (z 83 (by decide)), if_pos rfl]; first | exact Gd_t g0 | exact Gd_t g1
theorem win_m {m : St} {n : Nat} {p q : Int32} (h : m 0 73 = nI n) (hn : n < 12) : m_window m p q = some (s2 (s2 m 43 (14 * n + 9) p) 43 (14 * n + 10) q) := by
  unfold m_window
  rw [Gd_t (kxg (j := 9) (pj := 9) h hn (by decide) rfl).1, Lt_e, (kxg (j := 9) (pj := 9) h hn (by decide) rfl).2, Gd_t (kxg (j := 10) (pj := 10) (m := s2 m 43 (14 * n + 9) p) (by rw [s2_ne (by decide)]; exact h) hn (by decide) rfl).1, Lt_e, (kxg (j := 10) (pj := 10) (m := s2 m 43 (14 * n + 9) p) (by rw [s2_ne (by decide)]; exact h) hn (by decide) rfl).2]
theorem ud_cm {w : Nat → Int32} {i j : Nat} {x y : Int32} (h : i ≠ j) : ud (ud w i x) j y = ud (ud w j y) i x := by
  funext k
  unfold ud
  by_cases p : k = i
  · rw [if_neg (show ¬ k = j by omega), if_pos p, if_pos p]
  · by_cases q : k = j
    · rw [if_pos q, if_neg p, if_pos q]
    · rw [if_neg q, if_neg p, if_neg p, if_neg q]
/-- an attribute that is there -/
theorem attr_lock {c0 m0 : St} {L F n k0 : Nat} {c m : St} {s a : Nat} {w w' : Nat → Int32} (g : TG c0 m0 L F n c m s a w w') (hn : n < 12) (hw : WQ w w') (hq : KQ m0 F k0 w w') (h1 : a - s = 1) (hA : isA (bya c L s)) :
    OK3 c0 m0 L F n s (fun u u' => WQ u u' ∧ KQ m0 F k0 u u') (f_Rx_readAttribute c 4 (nI n)) (m_readsAttribute m) := by
  obtain ⟨h, k, r1, r2⟩ := g
  have hL := h.B.2.1
  have ha := k.aL
  have hle := k.le
  have c2 : ∀ j, 2 ≤ j → j < 14 → j ≠ 7 → j ≠ 8 → clm j := fun j p1 p2 p3 p4 => ⟨p1, p2, p3, p4⟩
  have ek : m 41 (Int32.toNatClampNeg (nI s)) = bya c L s := by rw [nI_clamp (by omega), h.mb (by omega)]
  obtain ⟨c1, m1, s1, a1, t1, t2, t3, t4, t5, t6, t7, t8, t9⟩ := nt_lock h k.ca k.ma ha
  have hs1 : s < s1 := by omega
  have gg : TG c0 m0 L F n c1 m1 s1 a1 w w' := ⟨t3, t4, r1.of t6, r2.of t7⟩
  unfold f_Rx_readAttribute m_readsAttribute
  rw [k.cs, bd_e (TS.tl k), Jn_e, if_pos (show nI (a - s) = 1 by rw [h1]; rfl), bd_e (h.b (by omega)), k.ms, Gd_t (Ix_n (by omega) (by decide)), ek, Lt_e]
  try dsimp only
  rw [Jn_e]
  try dsimp only
  generalize bya c L s = b at hA ⊢
  rw [six hA, bd_e t1, bd_e t2]
  by_cases q1 : b = 79
  · rw [if_pos q1, if_pos q1, show rc 4 2 = 6 from rfl, Gd_t (kxg (j := 12) (pj := 12) t3.n hn (by decide) rfl).1, Lt_e, (kxg (j := 12) (pj := 12) t3.n hn (by decide) rfl).2, bd_e (put7 (j := 12) (pj := 12) t3.D hn (by decide) rfl)]
    right
    exact ⟨_, _, s1, a1, _, _, rfl, rfl, ⟨(TS.m43 t3).c7, (TK.m43 t4).c7, gg.2.2.1.set, gg.2.2.2.set⟩, hs1, hw.set (j := 12) (v := 1) (by decide) (fun q => absurd q (by decide)), hq.set (c2 12 (by decide) (by decide) (by decide) (by decide))⟩
  · rw [if_neg q1, if_neg q1]
    by_cases q2 : b = 83
    · rw [if_pos q2, if_pos q2]
      rcases into_lock (j := 11) (lo' := 100) (hi' := 500) (pj := 11) (lo := 100) (hi := 500) gg hn (by decide) rfl rfl rfl (by decide) (by decide) with ⟨c', m', z, b1, b2, b3⟩ | ⟨c', m', s', a', u, u', b1, b2, b3, b4, v, v1, v2, rfl, rfl⟩
      · left
        exact ⟨c', m', z, by rw [bd_e b1]; first | exact Gd_t g0 | exact Gd_t g1, by rw [bd_e b2]; first | exact Gd_t g0 | exact Gd_t g1, b3⟩
      · right
        have v3 : v ≤ hjb 11 := Nat.le_trans v2 (by decide)
        exact ⟨c', m', s', a', _, _, by rw [bd_e b1]; first | exact Gd_t g0 | exact Gd_t g1, by rw [bd_e b2]; first | exact Gd_t g0 | exact Gd_t g1, b3, by omega, hw.set (j := 11) v3 (fun _ => v1), hq.set (c2 11 (by decide) (by decide) (by decide) (by decide))⟩
    · rw [if_neg q2, if_neg q2]
      unfold f_Rx_readWindow
      obtain ⟨cj, pj, e1, e2, e3⟩ : ∃ (cj : Nat) (pj : Int32), (if b = 45 then (10 : Int32) else 9) = pj ∧ pj = nI cj ∧ cj = (if b = 45 then 10 else 9) := by
        by_cases q : b = 45
        · exact ⟨10, 10, by rw [if_pos q], rfl, by rw [if_pos q]⟩
        · exact ⟨9, 9, by rw [if_neg q], rfl, by rw [if_neg q]⟩
      have hcj : cj < 14 := by rw [e3]; split <;> decide
      rw [Jn_if, e1]
      rcases num_lock (j := cj) (lo' := 0) (hi' := 450) (pj := pj) (lo := 0) (hi := 450) t3 t4 hn hcj e2 rfl rfl (by decide) (by decide) with ⟨b1, b2⟩ | ⟨d, M, s', a', v, v1, v2, b1, b2, b3, b4, b5, b6, b7, b8⟩
      · left
        exact ⟨c1, m1, s1, by rw [bd_e b1, if_pos rfl, bd_e rfl]; first | exact Gd_t g0 | exact Gd_t g1, by rw [bd_e b2, if_pos rfl], t3, t4.cs, t4.ms, by have := t4.le; have := t4.aL; omega⟩
      · have R1 : RC d n w := (r1.of t6).of b6
        have R2 : RM M n w' := (r2.of t7).of b7
        by_cases q3 : b = 66
        · have ecj : cj = 9 := by rw [e3, q3]; rfl
          subst ecj
          rcases num_lock (j := 10) (lo' := v) (hi' := 450) (pj := 10) (lo := nI v) (hi := 450) (b4.c7 (j := 9) (v := nI v)) (b5.c7 (k := n * 14 + 9) (v := nI v)) hn (by decide) rfl rfl rfl (by omega) (by decide) with ⟨x1, x2⟩ | ⟨d', M', s'', a'', u, u1, u2, x1, x2, x3, x4, x5, x6, x7, x8⟩
          · left
            refine ⟨s2 d 7 (n * 14 + 9) (nI v), s2 (s2 M 43 (14 * n + 9) (nI v)) 43 (14 * n + 10) (nI v), s', ?_, ?_, (TS.m43 (TS.m43 b4.c7)), by rw [s2_ne (by decide)]; exact b5.cs, by rw [s2_ne (by decide), s2_ne (by decide)]; exact b5.ms, by have := b5.le; have := b5.aL; omega⟩
            · rw [bd_e b1, if_neg n10, if_pos q3, show rc 4 2 = 6 from rfl, bd_e (get7 (j := 9) (pj := 9) (b4.D.s2 (by decide)) hn (by decide) rfl), s2_at, bd_e x1, Gd_t g0, bd_e rfl]; first | exact Gd_t g0 | exact Gd_t g1
            · rw [bd_e b2, if_neg n10, Lt_e, if_pos q3]; try dsimp only
              rw [b3, bd_e x2]; try dsimp only
              rw [b3, bd_e (win_m b4.n hn)]; first | exact Gd_t g0 | exact Gd_t g1
          · right
            refine ⟨s2 d' 7 (n * 14 + 10) (nI u), s2 (s2 M' 43 (14 * n + 9) (nI v)) 43 (14 * n + 10) (nI u), s'', a'', _, _, ?_, ?_, ⟨(TS.m43 (TS.m43 x4)).c7, (TK.m43 (TK.m43 x5)).c7, (RC.of R1.set x6).set, (R2.of x7).set.set⟩, by omega, (hw.set (j := 9) (v := v) v2 (fun q => absurd q (by decide))).set (j := 10) (v := u) u2 (fun q => absurd q (by decide)), (hq.set (c2 9 (by decide) (by decide) (by decide) (by decide))).set (c2 10 (by decide) (by decide) (by decide) (by decide))⟩
            · rw [bd_e b1, if_neg n10, if_pos q3, show rc 4 2 = 6 from rfl, bd_e (get7 (j := 9) (pj := 9) (b4.D.s2 (by decide)) hn (by decide) rfl), s2_at, bd_e x1, Gd_t g1, bd_e rfl]; first | exact Gd_t g0 | exact Gd_t g1
            · rw [bd_e b2, if_neg n10, Lt_e, if_pos q3]; try dsimp only
              rw [b3, bd_e x2]; try dsimp only
              rw [x3, bd_e (win_m x4.n hn)]; first | exact Gd_t g0 | exact Gd_t g1
        · by_cases q4 : b = 65
          · have ecj : cj = 9 := by rw [e3, q4]; rfl
            subst ecj
            right
            refine ⟨s2 (s2 d 7 (n * 14 + 9) (nI v)) 7 (n * 14 + 10) (nI v), s2 (s2 M 43 (14 * n + 9) (nI v)) 43 (14 * n + 10) (nI v), s', a', _, _, ?_, ?_, ⟨(TS.m43 (TS.m43 b4)).c7.c7, (TK.m43 (TK.m43 b5)).c7.c7, R1.set.set, R2.set.set⟩, by omega, (hw.set (j := 9) (v := v) v2 (fun q => absurd q (by decide))).set (j := 10) (v := v) v2 (fun q => absurd q (by decide)), (hq.set (c2 9 (by decide) (by decide) (by decide) (by decide))).set (c2 10 (by decide) (by decide) (by decide) (by decide))⟩
            · rw [bd_e b1, if_neg n10, if_neg q3, Jn_e, if_pos q4, show rc 4 2 = 6 from rfl, bd_e (get7 (j := 9) (pj := 9) (b4.D.s2 (by decide)) hn (by decide) rfl), s2_at, bd_e (put7 (j := 10) (pj := 10) (b4.D.s2 (by decide)) hn (by decide) rfl), bd_e rfl]; first | exact Gd_t g0 | exact Gd_t g1
            · rw [bd_e b2, if_neg n10, Lt_e, if_neg q3, Jn_e, if_neg (show ¬ b = 45 by rw [q4]; decide)]; try dsimp only
              rw [Jn_e, if_neg (show ¬ b = 43 by rw [q4]; decide)]; try dsimp only
              rw [b3, bd_e (win_m b4.n hn)]
          · by_cases q5 : b = 43
            · have ecj : cj = 9 := by rw [e3, q5]; rfl
              subst ecj
              right
              refine ⟨s2 (s2 d 7 (n * 14 + 9) (nI v)) 7 (n * 14 + 10) (450 : Int32), s2 (s2 M 43 (14 * n + 9) (nI v)) 43 (14 * n + 10) (450 : Int32), s', a', _, _, ?_, ?_, ⟨(TS.m43 (TS.m43 b4)).c7.c7, (TK.m43 (TK.m43 b5)).c7.c7, R1.set.set, R2.set.set⟩, by omega, (hw.set (j := 9) (v := v) v2 (fun q => absurd q (by decide))).set (j := 10) (v := 450) (by decide) (fun q => absurd q (by decide)), (hq.set (c2 9 (by decide) (by decide) (by decide) (by decide))).set (c2 10 (by decide) (by decide) (by decide) (by decide))⟩
              · rw [bd_e b1, if_neg n10, if_neg q3, Jn_e, if_neg q4, if_pos q5, show rc 4 2 = 6 from rfl, bd_e (put7 (j := 10) (pj := 10) (b4.D.s2 (by decide)) hn (by decide) rfl), bd_e rfl]; first | exact Gd_t g0 | exact Gd_t g1
              · rw [bd_e b2, if_neg n10, Lt_e, if_neg q3, Jn_e, if_neg (show ¬ b = 45 by rw [q5]; decide)]; try dsimp only
                rw [Jn_e, if_pos q5]; try dsimp only
                rw [b3, bd_e (win_m b4.n hn)]
            · have q6 : b = 45 := by
                rcases hA with q | q | q | q | q | q
                · exact absurd q q1
                · exact absurd q q4
                · exact absurd q q5
                · exact q
                · exact absurd q q3
                · exact absurd q q2
              have ecj : cj = 10 := by rw [e3, q6]; rfl
              subst ecj
              right
              have W := (hw.set (j := 10) (v := v) v2 (fun q => absurd q (by decide))).set (j := 9) (v := 0) (by decide) (fun q => absurd q (by decide))
              have K := (hq.set (x := nI v) (y := nI v) (c2 10 (by decide) (by decide) (by decide) (by decide))).set (x := nI 0) (y := nI 0) (c2 9 (by decide) (by decide) (by decide) (by decide))
              have R2' := (R2.set (j := 9) (v := nI 0)).set (j := 10) (v := nI v)
              rw [ud_cm (show (9 : Nat) ≠ 10 by decide)] at R2'
              refine ⟨s2 (s2 d 7 (n * 14 + 10) (nI v)) 7 (n * 14 + 9) (nI 0), s2 (s2 M 43 (14 * n + 9) (nI 0)) 43 (14 * n + 10) (nI v), s', a', _, _, ?_, ?_, ⟨(TS.m43 (TS.m43 b4)).c7.c7, (TK.m43 (TK.m43 b5)).c7.c7, R1.set.set, R2'⟩, by omega, W, K⟩
              · rw [bd_e b1, if_neg n10, if_neg q3, Jn_e, if_neg q4, if_neg q5, show rc 4 2 = 6 from rfl, bd_e (put7 (j := 9) (pj := 9) (b4.D.s2 (by decide)) hn (by decide) rfl), bd_e rfl]; first | exact Gd_t g0 | exact Gd_t g1
              · rw [bd_e b2, if_neg n10, Lt_e, if_neg q3, Jn_e, if_pos q6]; try dsimp only
                rw [Jn_e, if_neg q5]; try dsimp only
                rw [b3, bd_e (win_m b4.n hn)]
                rfl
