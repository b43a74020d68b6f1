/-! the start of an edit, in lockstep -/
def BG (t : Nat) (c m c1 m1 : St) (na cur fl ed nm : Nat) : Prop :=
  (Dm c1) ∧
  (∀ a, a ≠ 0 → a ≠ 11 → a ≠ 13 → a ≠ 27 → a ≠ 47 → a ≠ 49 → a ≠ 51 → c1 a = c a) ∧
  (c1 0 10 = 1) ∧
  (c1 27 5 = 1) ∧
  (∀ a, 2 < a → m1 a = m a) ∧
  (∀ k, k ≠ 1 → k ≠ 2 → m1 0 k = m 0 k) ∧
  (m1 0 1 = 1) ∧
  (∀ k, k < 297 ∨ (594 ≤ k ∧ k < 891) → m1 1 k = m 1 k) ∧
  (∃ sz nx : Nat, sz ≤ 6 ∧ nx < 6 ∧ c1 47 3 = nI sz ∧ m1 0 2 = nI sz ∧ c1 47 2 = nI nx ∧ ∀ j, j < sz → HE t c1 m1 cur fl ((nx + 6 - sz + j) % 6) j) ∧
  (∃ (n cu rs : Nat) (R : Int), n = (if ed = 1 then nm else na) ∧ (n ≤ 20 ∧ rs ≤ 1 ∧ ∀ k, k < n * 14 → c1 13 k = c ((if ed = 1 then 11 else 8) + 2) k) ∧ c1 11 1 = nI n ∧ m1 1 297 = nI n ∧ c1 11 2 = nI cu ∧ m1 1 298 = nI cu ∧ c1 11 3 = nI rs ∧ m1 1 299 = nI rs ∧ c1 11 2 = c (if ed = 1 then 11 else 8) 2 ∧ (0 < n → MP t c1 m1 11 297 n cu rs R cur fl))
theorem BG.D {t : Nat} {c m c1 m1 : St} {na cur fl ed nm : Nat} (h : BG t c m c1 m1 na cur fl ed nm) : Dm c1 := h.1
theorem BG.fc {t : Nat} {c m c1 m1 : St} {na cur fl ed nm : Nat} (h : BG t c m c1 m1 na cur fl ed nm) : ∀ a, a ≠ 0 → a ≠ 11 → a ≠ 13 → a ≠ 27 → a ≠ 47 → a ≠ 49 → a ≠ 51 → c1 a = c a := h.2.1
theorem BG.c10 {t : Nat} {c m c1 m1 : St} {na cur fl ed nm : Nat} (h : BG t c m c1 m1 na cur fl ed nm) : c1 0 10 = 1 := h.2.2.1
theorem BG.c27 {t : Nat} {c m c1 m1 : St} {na cur fl ed nm : Nat} (h : BG t c m c1 m1 na cur fl ed nm) : c1 27 5 = 1 := h.2.2.2.1
theorem BG.fm {t : Nat} {c m c1 m1 : St} {na cur fl ed nm : Nat} (h : BG t c m c1 m1 na cur fl ed nm) : ∀ a, 2 < a → m1 a = m a := h.2.2.2.2.1
theorem BG.g0 {t : Nat} {c m c1 m1 : St} {na cur fl ed nm : Nat} (h : BG t c m c1 m1 na cur fl ed nm) : ∀ k, k ≠ 1 → k ≠ 2 → m1 0 k = m 0 k := h.2.2.2.2.2.1
theorem BG.m01 {t : Nat} {c m c1 m1 : St} {na cur fl ed nm : Nat} (h : BG t c m c1 m1 na cur fl ed nm) : m1 0 1 = 1 := h.2.2.2.2.2.2.1
theorem BG.f1 {t : Nat} {c m c1 m1 : St} {na cur fl ed nm : Nat} (h : BG t c m c1 m1 na cur fl ed nm) : ∀ k, k < 297 ∨ (594 ≤ k ∧ k < 891) → m1 1 k = m 1 k := h.2.2.2.2.2.2.2.1
theorem BG.H {t : Nat} {c m c1 m1 : St} {na cur fl ed nm : Nat} (h : BG t c m c1 m1 na cur fl ed nm) : ∃ sz nx : Nat, sz ≤ 6 ∧ nx < 6 ∧ c1 47 3 = nI sz ∧ m1 0 2 = nI sz ∧ c1 47 2 = nI nx ∧ ∀ j, j < sz → HE t c1 m1 cur fl ((nx + 6 - sz + j) % 6) j := h.2.2.2.2.2.2.2.2.1
theorem BG.M {t : Nat} {c m c1 m1 : St} {na cur fl ed nm : Nat} (h : BG t c m c1 m1 na cur fl ed nm) : ∃ (n cu rs : Nat) (R : Int), n = (if ed = 1 then nm else na) ∧ (n ≤ 20 ∧ rs ≤ 1 ∧ ∀ k, k < n * 14 → c1 13 k = c ((if ed = 1 then 11 else 8) + 2) k) ∧ c1 11 1 = nI n ∧ m1 1 297 = nI n ∧ c1 11 2 = nI cu ∧ m1 1 298 = nI cu ∧ c1 11 3 = nI rs ∧ m1 1 299 = nI rs ∧ c1 11 2 = c (if ed = 1 then 11 else 8) 2 ∧ (0 < n → MP t c1 m1 11 297 n cu rs R cur fl) := h.2.2.2.2.2.2.2.2.2

theorem and1 {e : Nat} (h : e ≤ 1) : nI e &&& 1 = nI e := by
  rcases (show e = 0 ∨ e = 1 by omega) with h | h <;> rw [h] <;> decide
theorem begin_lock {t na cur fl ed nm : Nat} {Ra : Int} {c m : St} (hB : IB t c m na cur fl ed nm Ra) : ∃ c1 m1, f_FL_beginEdit c = some c1 ∧ m_begins m = some m1 ∧ BG t c m c1 m1 na cur fl ed nm := by
  obtain ⟨sz, nx, ⟨s1, s2'⟩, hnx, h3, g2, h2, hH⟩ := hB.H
  obtain ⟨e1, e2, e3, -⟩ := hB.E
  obtain ⟨x, ex, X⟩ := rec_c hB.D hnx s1 e1 h2 h3
  obtain ⟨m1, em, M⟩ := beg_m s1 e1 g2 e3
  have m3 := M.fm 3 (by decide)
  have m4 := M.fm 4 (by decide)
  have hn6 : (nx + 1) % 6 < 6 := Nat.mod_lt _ (by decide)
  have es : min (sz + 1) 6 = min sz 5 + 1 := by omega
  -- the history, for whatever class state that has x's cells
  have hist : ∀ C : St, C 49 = x 49 → C 51 = x 51 → C 1 = c 1 → ∀ j, j < min sz 5 + 1 → HE t C m1 cur fl (((nx + 1) % 6 + 6 - (min sz 5 + 1) + j) % 6) j := by
    intro C q1 q2 q3 j hj
    by_cases hl : j = min sz 5
    · have hs : ((nx + 1) % 6 + 6 - (min sz 5 + 1) + j) % 6 = nx := by omega
      rw [hs]
      refine ⟨ed, ⟨e1, fun q => ?_⟩, by rw [q1]; exact X.h0, by rw [hl]; exact M.n.2, fun q => ?_⟩
      · rcases (show ed = 0 ∨ ed = 1 by omega) with z | z
        · have := s2' z; omega
        · exact z
      · obtain ⟨cu, rs, R, b1, b2, b3, b4, b5, b6, b7⟩ := hB.M q
        have hn := b7.2.1
        have hrs := b7.2.2.2.2.1
        rw [hl]
        refine ⟨nm, cu, rs, R, by rw [q1, X.h1]; exact b1, (M.n.1 0 (by decide)).trans b2, by rw [q1, X.h2]; exact b3, (M.n.1 1 (by decide)).trans b4, ?_, (M.n.1 2 (by decide)).trans b6, b7.tr (fun k hk => ?_) ?_ (fun k hk => M.n.1 k hk) m3 m4⟩
        · rw [q1, X.h3, b5]
          rcases (show rs = 0 ∨ rs = 1 by omega) with z | z <;> rw [z] <;> decide
        · show vw C nx 13 k = c 13 k
          unfold vw
          rw [if_pos rfl, q2]
          exact X.r nm hn b1 k hk
        · show vw C nx 1 1 = c 1 1
          unfold vw
          rw [if_neg (by decide), q3]
    · rcases (show sz = 6 ∨ sz < 6 by omega) with h6 | h6
      · obtain ⟨y1, y2⟩ := M.h6 h6 j (by omega)
        have ho := hH (j + 1) (by omega)
        have hs : ((nx + 1) % 6 + 6 - (min sz 5 + 1) + j) % 6 = (nx + 6 - sz + (j + 1)) % 6 := by omega
        have hne : (nx + 6 - sz + (j + 1)) % 6 ≠ nx := by omega
        rw [hs]
        generalize (nx + 6 - sz + (j + 1)) % 6 = s at ho hne ⊢
        refine ho.tr (fun k hk => by rw [q1]; exact X.h _ (by omega)) (fun k hk => by rw [q2]; exact X.l _ (by omega)) (by rw [q3]) y1 ?_ m3 m4 (fun _ => by omega)
        obtain ⟨e, a1, -, a3, -⟩ := ho
        rw [y2, a3, and1 a1.1]
      · obtain ⟨y1, y2⟩ := M.h h6 j (by omega)
        have ho := hH j (by omega)
        have hs : ((nx + 1) % 6 + 6 - (min sz 5 + 1) + j) % 6 = (nx + 6 - sz + j) % 6 := by omega
        have hne : (nx + 6 - sz + j) % 6 ≠ nx := by omega
        rw [hs]
        generalize (nx + 6 - sz + j) % 6 = s at ho hne ⊢
        exact ho.tr (fun k hk => by rw [q1]; exact X.h _ (by omega)) (fun k hk => by rw [q2]; exact X.l _ (by omega)) (by rw [q3]) y1 y2 m3 m4 (fun q => q)
  have x010 : x 0 10 = nI ed := by rw [X.fc 0 (by decide) (by decide) (by decide)]; exact e2
  rcases (show ed = 0 ∨ ed = 1 by omega) with h | h
  · subst h
    have h20 := hB.a20
    have T9 : TabOK x 9 21 14 := X.D.2.2.2.2.1.1
    have T12 : TabOK x 12 21 14 := X.D.2.2.2.2.1.2.1
    have x8 : x 8 = c 8 := X.fc 8 (by decide) (by decide) (by decide)
    have x10 : x 10 = c 10 := X.fc 10 (by decide) (by decide) (by decide)
    have cp : ∃ y, f_Tb_copyRows x 12 9 (0 : Int32) (0 : Int32) (nI na) = some y ∧ Dm y ∧ (∀ a, a ≠ 13 → y a = x a) ∧ ∀ k, k < na * 14 → y 13 k = c 10 k := by
      rcases (show na = 0 ∨ 0 < na by omega) with z | z
      · subst z
        exact ⟨x, Tb_copy0 (r1 := 0) (w := 14) T12.2.1 T9.2.1, X.D, fun _ _ => rfl, fun k hk => by omega⟩
      · have := Tb_copy (i := 0) (j := 0) T12 T9 z (by omega) (by omega)
        rw [show rc 9 2 = 10 from rfl, show rc 12 2 = 13 from rfl] at this
        refine ⟨_, this, X.D.scp (by decide), fun a p => scp_ne p, fun k hk => ?_⟩
        have := scp_in (c := x) (i := 10) (j := 13) (sp := 0 * 14) (dp := 0 * 14) (n := na * 14) hk
        rw [show 0 * 14 + k = k by omega, x10] at this
        exact this
    obtain ⟨y, ey, Dy, fy, ry⟩ := cp
    have y8 : y 8 = c 8 := by rw [fy 8 (by decide), x8]
    obtain ⟨C, eC⟩ : ∃ C, C = s2 (s2 (s2 (s2 (s2 y 11 1 (nI na)) 11 2 (nI cur)) 11 3 (0 : Int32)) 0 10 (1 : Int32)) 27 5 (1 : Int32) := ⟨_, rfl⟩
    have hcf : f_Pl_copyFrom x 11 8 = some (s2 (s2 (s2 y 11 1 (nI na)) 11 2 (nI cur)) 11 3 (0 : Int32)) := by
      unfold f_Pl_copyFrom
      rw [show rc 11 0 = 12 from rfl, show rc 8 0 = 9 from rfl, x8, hB.A.cc, bd_e ey, Lt_e, y8, hB.A.cc, s2_ne (show (8 : Nat) ≠ 11 by decide), y8, hB.ac.1, Lt_e, s2_ne (show (8 : Nat) ≠ 11 by decide), s2_ne (show (8 : Nat) ≠ 11 by decide), y8, hB.ac.2.2, Gd_t (by decide), Lt_e]
    have hb : f_FL_beginEdit c = some C := by
      unfold f_FL_beginEdit
      rw [e2, bd_e ex, Jn_e, x010, if_pos (show nI 0 = 0 from rfl), bd_e hcf, Lt_e, eC]
      dsimp only
      rw [Lt_e]
    have oC : ∀ a, a ≠ 0 → a ≠ 11 → a ≠ 13 → a ≠ 27 → C a = x a := fun a p1 p2 p3 p4 => by rw [eC, s2_ne p4, s2_ne p1, s2_ne p2, s2_ne p2, s2_ne p2, fy a p3]
    have C13 : ∀ k, k < na * 14 → C 13 k = c 10 k := fun k hk => by rw [eC, s2_ne (by decide), s2_ne (by decide), s2_ne (by decide), s2_ne (by decide), s2_ne (by decide), ry k hk]
    have C1 : C 1 = c 1 := by rw [oC 1 (by decide) (by decide) (by decide) (by decide), X.fc 1 (by decide) (by decide) (by decide)]
    have C111 : C 11 1 = nI na := by rw [eC, s2_ne (by decide), s2_ne (by decide), s2_k (by decide), s2_k (by decide), s2_at]
    have C112 : C 11 2 = nI cur := by rw [eC, s2_ne (by decide), s2_ne (by decide), s2_k (by decide), s2_at]
    have C113 : C 11 3 = 0 := by rw [eC, s2_ne (by decide), s2_ne (by decide), s2_at]
    obtain ⟨z1, z2⟩ := M.m0 rfl
    refine ⟨C, m1, hb, em, by rw [eC]; exact ((((Dy.s2 (by decide)).s2 (by decide)).s2 (by decide)).s2 (by decide)).s2 (by decide), fun a p1 p2 p3 p4 p5 p6 p7 => by rw [oC a p1 p2 p3 p4, X.fc a p5 p6 p7], by rw [eC, s2_ne (by decide), s2_at], by rw [eC, s2_at], M.fm, M.g0, M.e, M.f1, ⟨min sz 5 + 1, (nx + 1) % 6, by omega, hn6, ?_, M.s, ?_, hist C (oC _ (by decide) (by decide) (by decide) (by decide)) (oC _ (by decide) (by decide) (by decide) (by decide)) C1⟩, na, cur, 0, Ra, by rw [if_neg (by decide)], ⟨h20, by decide, fun k hk => by rw [if_neg (by decide)]; exact C13 k hk⟩, C111, (z1 0 (by decide) (by decide)).trans hB.A.cm, C112, (z1 1 (by decide) (by decide)).trans hB.ac.2.1, C113, z2, by rw [C112, if_neg (by decide)]; exact hB.ac.1.symm, fun q => ?_⟩
    · rw [oC 47 (by decide) (by decide) (by decide) (by decide), X.s, es]
    · rw [oC 47 (by decide) (by decide) (by decide) (by decide)]; exact X.n
    · obtain ⟨F, F1, F2, F3, F4, F5⟩ := hB.F
      have h13 : ∀ k, k < na * 14 → C (11 + 2) k = c (8 + 2) k := C13
      refine ⟨q, h20, fun i hi => ?_, ⟨(hB.an.2 q).1, F4.tr h13 (by rw [C1])⟩, by decide, hB.ab.1, fun e => by omega, fun _ => ⟨rfl, ?_⟩⟩
      · refine (hB.A.leg i hi).tr (fun j hj => h13 _ (by omega)) (fun j hj => ?_) m3 m4 (Int.le_refl _) (fun e => ?_)
        · have := z1 (3 + 14 * i + j) (by omega) (by omega)
          have i1 : 297 + 3 + 14 * i + j = 297 + (3 + 14 * i + j) := by omega
          have i2 : 0 + 3 + 14 * i + j = 0 + (3 + 14 * i + j) := by omega
          exact (congrArg (m1 1) i1).trans (this.trans (congrArg (m 1) i2.symm))
        · obtain ⟨k, k1, k2, k3, k4, k5, k6⟩ := (hB.A.leg i hi).kd
          rw [k2] at e
          exact (k6 ((nIl 8 (by omega) (by decide)).mp e)).1
      · rw [zp_tr h13]
        exact hB.ab.2
  · subst h
    obtain ⟨cu, rs, R, b1, b2, b3, b4, b5, b6, b7⟩ := hB.M rfl
    obtain ⟨C, eC⟩ : ∃ C, C = s2 x 27 5 (1 : Int32) := ⟨_, rfl⟩
    have hb : f_FL_beginEdit c = some C := by
      unfold f_FL_beginEdit
      rw [e2, bd_e ex, Jn_e, x010, if_neg (show ¬ nI 1 = 0 by decide)]
      dsimp only
      rw [Lt_e, eC]
    have oC : ∀ a, a ≠ 27 → C a = x a := fun a p => by rw [eC, s2_ne p]
    have C1 : C 1 = c 1 := by rw [oC 1 (by decide), X.fc 1 (by decide) (by decide) (by decide)]
    have C11 : C 11 = c 11 := by rw [oC 11 (by decide), X.fc 11 (by decide) (by decide) (by decide)]
    have C13 : C 13 = c 13 := by rw [oC 13 (by decide), X.fc 13 (by decide) (by decide) (by decide)]
    have mm := M.m1 rfl
    refine ⟨C, m1, hb, em, by rw [eC]; exact X.D.s2 (by decide), fun a p1 p2 p3 p4 p5 p6 p7 => by rw [oC a p4, X.fc a p5 p6 p7], by rw [oC 0 (by decide), x010]; rfl, by rw [eC, s2_at], M.fm, M.g0, M.e, M.f1, ⟨min sz 5 + 1, (nx + 1) % 6, by omega, hn6, by rw [oC 47 (by decide), X.s, es], M.s, by rw [oC 47 (by decide)]; exact X.n, hist C (oC _ (by decide)) (oC _ (by decide)) C1⟩, nm, cu, rs, R, by rw [if_pos rfl], ⟨b7.2.1, b7.2.2.2.2.1, fun k _ => by rw [C13, if_pos rfl]⟩, by rw [C11]; exact b1, (mm 0 (by decide)).trans b2, by rw [C11]; exact b3, (mm 1 (by decide)).trans b4, by rw [C11]; exact b5, (mm 2 (by decide)).trans b6, by rw [C11, if_pos rfl], fun _ => b7.tr (fun k _ => by rw [show C (11 + 2) = c (11 + 2) from C13]) (by rw [C1]) mm m3 m4⟩
