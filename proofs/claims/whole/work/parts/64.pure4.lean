/-! the class's tables as a whole, the cells of a path, and a segment more -/
theorem Tb_get' {c : St} {t r w i j : Nat} {row col : Int32} (hT : TabOK c t r w) (hrow : row = nI i) (hcol : col = nI j) (hi : i < r) (hj : j < w) : f_Tb_get c t row col = some (c (rc t 2) (i * w + j)) := by
  rw [hrow, hcol]
  exact Tb_get hT hi hj
theorem Tb_put' {c : St} {t r w i j : Nat} {row col v : Int32} (hT : TabOK c t r w) (hrow : row = nI i) (hcol : col = nI j) (hi : i < r) (hj : j < w) : f_Tb_put c t row col v = some (s2 c (rc t 2) (i * w + j) v) := by
  rw [hrow, hcol]
  exact Tb_put hT hi hj
/-- which cells are the objects of a table -/
def isTab (o : Nat) : Bool := [2, 6, 9, 12, 15, 18, 21, 24, 28, 31, 34, 38, 41, 44, 48, 50].contains o
def Dm (c : St) : Prop := TabOK c 2 16 2 ∧ TabOK c 6 12 14 ∧ TabOK c 48 6 4 ∧ TabOK c 50 120 14 ∧ (TabOK c 9 21 14 ∧ TabOK c 12 21 14 ∧ TabOK c 15 21 14) ∧ (TabOK c 18 21 16 ∧ TabOK c 28 21 16 ∧ TabOK c 38 21 16) ∧ (TabOK c 21 42 16 ∧ TabOK c 31 42 16 ∧ TabOK c 41 42 16) ∧ (TabOK c 24 126 8 ∧ TabOK c 34 126 8 ∧ TabOK c 44 126 8)
theorem TabOK.of {c c' : St} {t r w : Nat} (h : TabOK c t r w) (h0 : c' t 0 = c t 0) (h1 : c' t 1 = c t 1) : TabOK c' t r w := ⟨h0.trans h.1, h1.trans h.2.1, h.2.2⟩
theorem Dm.of {c c' : St} (h : Dm c) (he : ∀ t k, isTab t = true → c' t k = c t k) : Dm c' := by
  obtain ⟨a1, a2, a3, a4, ⟨b1, b2, b3⟩, ⟨d1, d2, d3⟩, ⟨e1, e2, e3⟩, f1, f2, f3⟩ := h
  exact ⟨a1.of (he _ _ rfl) (he _ _ rfl), a2.of (he _ _ rfl) (he _ _ rfl), a3.of (he _ _ rfl) (he _ _ rfl), a4.of (he _ _ rfl) (he _ _ rfl), ⟨b1.of (he _ _ rfl) (he _ _ rfl), b2.of (he _ _ rfl) (he _ _ rfl), b3.of (he _ _ rfl) (he _ _ rfl)⟩, ⟨d1.of (he _ _ rfl) (he _ _ rfl), d2.of (he _ _ rfl) (he _ _ rfl), d3.of (he _ _ rfl) (he _ _ rfl)⟩, ⟨e1.of (he _ _ rfl) (he _ _ rfl), e2.of (he _ _ rfl) (he _ _ rfl), e3.of (he _ _ rfl) (he _ _ rfl)⟩, f1.of (he _ _ rfl) (he _ _ rfl), f2.of (he _ _ rfl) (he _ _ rfl), f3.of (he _ _ rfl) (he _ _ rfl)⟩
theorem Dm.s2 {c : St} {o k : Nat} {v : Int32} (h : Dm c) (ho : isTab o = false) : Dm (s2 c o k v) := h.of (fun t j ht => by
  rw [s2_ne (fun e => by rw [e, ho] at ht; cases ht)])
/-- the cells of a path b and its plan q -/
def PI (b q : Nat) : Prop := (b = 17 ∧ q = 8) ∨ (b = 27 ∧ q = 11) ∨ (b = 37 ∧ q = 14)
theorem rc_b0 {b q : Nat} (h : PI b q) : rc b 0 = q := by
  rcases h with ⟨rfl, rfl⟩ | ⟨rfl, rfl⟩ | ⟨rfl, rfl⟩ <;> rfl
theorem rc_b1 {b q : Nat} (h : PI b q) : rc b 1 = b + 1 := by
  rcases h with ⟨rfl, rfl⟩ | ⟨rfl, rfl⟩ | ⟨rfl, rfl⟩ <;> rfl
theorem rc_b2 {b q : Nat} (h : PI b q) : rc b 2 = b + 3 := by
  rcases h with ⟨rfl, rfl⟩ | ⟨rfl, rfl⟩ | ⟨rfl, rfl⟩ <;> rfl
theorem rc_b3 {b q : Nat} (h : PI b q) : rc b 3 = b + 6 := by
  rcases h with ⟨rfl, rfl⟩ | ⟨rfl, rfl⟩ | ⟨rfl, rfl⟩ <;> rfl
theorem rc_b4 {b q : Nat} (h : PI b q) : rc b 4 = b + 9 := by
  rcases h with ⟨rfl, rfl⟩ | ⟨rfl, rfl⟩ | ⟨rfl, rfl⟩ <;> rfl
theorem rc_b12 {b q : Nat} (h : PI b q) : rc (b + 1) 2 = b + 2 := by
  rcases h with ⟨rfl, rfl⟩ | ⟨rfl, rfl⟩ | ⟨rfl, rfl⟩ <;> rfl
theorem rc_b30 {b q : Nat} (h : PI b q) : rc (b + 3) 0 = q := by
  rcases h with ⟨rfl, rfl⟩ | ⟨rfl, rfl⟩ | ⟨rfl, rfl⟩ <;> rfl
theorem rc_b31 {b q : Nat} (h : PI b q) : rc (b + 3) 1 = 1 := by
  rcases h with ⟨rfl, rfl⟩ | ⟨rfl, rfl⟩ | ⟨rfl, rfl⟩ <;> rfl
theorem rc_b32 {b q : Nat} (h : PI b q) : rc (b + 3) 2 = b + 1 := by
  rcases h with ⟨rfl, rfl⟩ | ⟨rfl, rfl⟩ | ⟨rfl, rfl⟩ <;> rfl
theorem rc_b33 {b q : Nat} (h : PI b q) : rc (b + 3) 3 = b + 4 := by
  rcases h with ⟨rfl, rfl⟩ | ⟨rfl, rfl⟩ | ⟨rfl, rfl⟩ <;> rfl
theorem rc_b42 {b q : Nat} (h : PI b q) : rc (b + 4) 2 = b + 5 := by
  rcases h with ⟨rfl, rfl⟩ | ⟨rfl, rfl⟩ | ⟨rfl, rfl⟩ <;> rfl
theorem rc_b60 {b q : Nat} (h : PI b q) : rc (b + 6) 0 = q := by
  rcases h with ⟨rfl, rfl⟩ | ⟨rfl, rfl⟩ | ⟨rfl, rfl⟩ <;> rfl
theorem rc_b61 {b q : Nat} (h : PI b q) : rc (b + 6) 1 = 1 := by
  rcases h with ⟨rfl, rfl⟩ | ⟨rfl, rfl⟩ | ⟨rfl, rfl⟩ <;> rfl
theorem rc_b62 {b q : Nat} (h : PI b q) : rc (b + 6) 2 = b + 1 := by
  rcases h with ⟨rfl, rfl⟩ | ⟨rfl, rfl⟩ | ⟨rfl, rfl⟩ <;> rfl
theorem rc_b63 {b q : Nat} (h : PI b q) : rc (b + 6) 3 = b + 4 := by
  rcases h with ⟨rfl, rfl⟩ | ⟨rfl, rfl⟩ | ⟨rfl, rfl⟩ <;> rfl
theorem rc_b64 {b q : Nat} (h : PI b q) : rc (b + 6) 4 = b + 7 := by
  rcases h with ⟨rfl, rfl⟩ | ⟨rfl, rfl⟩ | ⟨rfl, rfl⟩ <;> rfl
theorem rc_b72 {b q : Nat} (h : PI b q) : rc (b + 7) 2 = b + 8 := by
  rcases h with ⟨rfl, rfl⟩ | ⟨rfl, rfl⟩ | ⟨rfl, rfl⟩ <;> rfl
theorem rc_b90 {b q : Nat} (h : PI b q) : rc (b + 9) 0 = q := by
  rcases h with ⟨rfl, rfl⟩ | ⟨rfl, rfl⟩ | ⟨rfl, rfl⟩ <;> rfl
theorem rc_b91 {b q : Nat} (h : PI b q) : rc (b + 9) 1 = 1 := by
  rcases h with ⟨rfl, rfl⟩ | ⟨rfl, rfl⟩ | ⟨rfl, rfl⟩ <;> rfl
theorem rc_b92 {b q : Nat} (h : PI b q) : rc (b + 9) 2 = b + 1 := by
  rcases h with ⟨rfl, rfl⟩ | ⟨rfl, rfl⟩ | ⟨rfl, rfl⟩ <;> rfl
theorem rc_q0 {b q : Nat} (h : PI b q) : rc q 0 = q + 1 := by
  rcases h with ⟨rfl, rfl⟩ | ⟨rfl, rfl⟩ | ⟨rfl, rfl⟩ <;> rfl
theorem rc_q12 {b q : Nat} (h : PI b q) : rc (q + 1) 2 = q + 2 := by
  rcases h with ⟨rfl, rfl⟩ | ⟨rfl, rfl⟩ | ⟨rfl, rfl⟩ <;> rfl
theorem Dm.pl {c : St} {b q : Nat} (h : Dm c) (hI : PI b q) : TabOK c (q + 1) 21 14 ∧ TabOK c (b + 1) 21 16 ∧ TabOK c (b + 4) 42 16 ∧ TabOK c (b + 7) 126 8 := by
  obtain ⟨a1, a2, a3, a4, ⟨b1, b2, b3⟩, ⟨d1, d2, d3⟩, ⟨e1, e2, e3⟩, f1, f2, f3⟩ := h
  rcases hI with ⟨rfl, rfl⟩ | ⟨rfl, rfl⟩ | ⟨rfl, rfl⟩
  · exact ⟨b1, d1, e1, f1⟩
  · exact ⟨b2, d2, e2, f2⟩
  · exact ⟨b3, d3, e3, f3⟩
theorem PI.nt {b q : Nat} (hI : PI b q) : isTab b = false ∧ isTab (b + 2) = false ∧ isTab (b + 3) = false ∧ isTab (b + 5) = false ∧ isTab (b + 6) = false ∧ isTab (b + 8) = false ∧ isTab q = false ∧ isTab (q + 2) = false := by
  rcases hI with ⟨rfl, rfl⟩ | ⟨rfl, rfl⟩ | ⟨rfl, rfl⟩ <;> exact ⟨rfl, rfl, rfl, rfl, rfl, rfl, rfl, rfl⟩
/-- a value put into a segment's row -/
theorem sg_put {c : St} {b q r j : Nat} {row col v : Int32} (hI : PI b q) (hD : Dm c) (hr : r < 42) (hrow : row = nI r) (hcol : col = nI j) (hj : j < 16) : f_Tb_put c (b + 4) row col v = some (s2 c (b + 5) (r * 16 + j) v) := by
  rw [Tb_put' (hD.pl hI).2.2.1 hrow hcol hr hj, rc_b42 hI]
theorem sg_get {c : St} {b q r j : Nat} {row col : Int32} (hI : PI b q) (hD : Dm c) (hr : r < 42) (hrow : row = nI r) (hcol : col = nI j) (hj : j < 16) : f_Tb_get c (b + 4) row col = some (c (b + 5) (r * 16 + j)) := by
  rw [Tb_get' (hD.pl hI).2.2.1 hrow hcol hr hj, rc_b42 hI]
theorem lg_put {c : St} {b q i j : Nat} {row col v : Int32} (hI : PI b q) (hD : Dm c) (hr : i < 21) (hrow : row = nI i) (hcol : col = nI j) (hj : j < 16) : f_Tb_put c (b + 1) row col v = some (s2 c (b + 2) (i * 16 + j) v) := by
  rw [Tb_put' (hD.pl hI).2.1 hrow hcol hr hj, rc_b12 hI]
theorem lg_get {c : St} {b q i j : Nat} {row col : Int32} (hI : PI b q) (hD : Dm c) (hr : i < 21) (hrow : row = nI i) (hcol : col = nI j) (hj : j < 16) : f_Tb_get c (b + 1) row col = some (c (b + 2) (i * 16 + j)) := by
  rw [Tb_get' (hD.pl hI).2.1 hrow hcol hr hj, rc_b12 hI]
theorem pg_get {c : St} {b q i j : Nat} {row col : Int32} (hI : PI b q) (hD : Dm c) (hr : i < 21) (hrow : row = nI i) (hcol : col = nI j) (hj : j < 14) : f_Tb_get c (q + 1) row col = some (c (q + 2) (i * 14 + j)) := by
  rw [Tb_get' (hD.pl hI).1 hrow hcol hr hj, rc_q12 hI]
/-- eleven values in a row of the segments -/
def row11 (c : St) (a r : Nat) (v0 v1 v2 v3 v4 v5 v6 v7 v8 v9 v10 : Int32) : St :=
  s2 (s2 (s2 (s2 (s2 (s2 (s2 (s2 (s2 (s2 (s2 c a (r * 16 + 0) v0) a (r * 16 + 1) v1) a (r * 16 + 2) v2) a (r * 16 + 3) v3) a (r * 16 + 4) v4) a (r * 16 + 5) v5) a (r * 16 + 6) v6) a (r * 16 + 7) v7) a (r * 16 + 8) v8) a (r * 16 + 9) v9) a (r * 16 + 10) v10
/-- the class's state behind a new segment -/
def asg (c : St) (b r : Nat) (leg toX toY len crs : Int32) : St :=
  s2 (s2 (s2 (s2 (s2 (s2 (s2 (row11 c (b + 5) r leg (c (b + 3) 5) (c (b + 3) 6) toX toY len crs (c (b + 3) 7) (c (b + 3) 8) (c (b + 3) 9) (if c (b + 3) 10 = 0 then 0 else 1)) (b + 3) 4 (nI r + (1 : Int32))) (b + 3) 5 toX) (b + 3) 6 toY) (b + 3) 10 (1 : Int32)) (b + 3) 7 leg) (b + 3) 8 crs) (b + 3) 9 len
theorem b35 {b : Nat} : b + 3 ≠ b + 5 := by omega
theorem s2_3 {c : St} {b r k : Nat} {v : Int32} : s2 c (b + 5) r v (b + 3) k = c (b + 3) k := by rw [s2_ne b35]
set_option maxHeartbeats 4000000 in
theorem addSeg_c {c : St} {b q r : Nat} {leg toX toY len crs : Int32} (hI : PI b q) (hD : Dm c) (hr : r < 42) (hc : c (b + 3) 4 = nI r) (hl : 0 < len) : f_Tk_addSegment c (b + 3) leg toX toY len crs = some (asg c b r leg toX toY len crs) := by
  have nt := hI.nt.2.2.2.1
  unfold f_Tk_addSegment f_Tk_comeFrom
  rw [if_pos hl, rc_b33 hI]
  rw [bd_e (sg_put (col := (0 : Int32)) (j := 0) hI (hD) hr (by first | exact hc | (simp only [s2_3]; exact hc)) rfl (by decide))]
  rw [bd_e (sg_put (col := (1 : Int32)) (j := 1) hI (hD.s2 nt) hr (by first | exact hc | (simp only [s2_3]; exact hc)) rfl (by decide))]
  rw [bd_e (sg_put (col := (2 : Int32)) (j := 2) hI ((hD.s2 nt).s2 nt) hr (by first | exact hc | (simp only [s2_3]; exact hc)) rfl (by decide))]
  rw [bd_e (sg_put (col := (3 : Int32)) (j := 3) hI (((hD.s2 nt).s2 nt).s2 nt) hr (by first | exact hc | (simp only [s2_3]; exact hc)) rfl (by decide))]
  rw [bd_e (sg_put (col := (4 : Int32)) (j := 4) hI ((((hD.s2 nt).s2 nt).s2 nt).s2 nt) hr (by first | exact hc | (simp only [s2_3]; exact hc)) rfl (by decide))]
  rw [bd_e (sg_put (col := (5 : Int32)) (j := 5) hI (((((hD.s2 nt).s2 nt).s2 nt).s2 nt).s2 nt) hr (by first | exact hc | (simp only [s2_3]; exact hc)) rfl (by decide))]
  rw [bd_e (sg_put (col := (6 : Int32)) (j := 6) hI ((((((hD.s2 nt).s2 nt).s2 nt).s2 nt).s2 nt).s2 nt) hr (by first | exact hc | (simp only [s2_3]; exact hc)) rfl (by decide))]
  rw [bd_e (sg_put (col := (7 : Int32)) (j := 7) hI (((((((hD.s2 nt).s2 nt).s2 nt).s2 nt).s2 nt).s2 nt).s2 nt) hr (by first | exact hc | (simp only [s2_3]; exact hc)) rfl (by decide))]
  rw [bd_e (sg_put (col := (8 : Int32)) (j := 8) hI ((((((((hD.s2 nt).s2 nt).s2 nt).s2 nt).s2 nt).s2 nt).s2 nt).s2 nt) hr (by first | exact hc | (simp only [s2_3]; exact hc)) rfl (by decide))]
  rw [bd_e (sg_put (col := (9 : Int32)) (j := 9) hI (((((((((hD.s2 nt).s2 nt).s2 nt).s2 nt).s2 nt).s2 nt).s2 nt).s2 nt).s2 nt) hr (by first | exact hc | (simp only [s2_3]; exact hc)) rfl (by decide))]
  simp only [Jn_e, s2_3]
  have hb : ∀ x : Int32, f_Tb_put (s2 (s2 (s2 (s2 (s2 (s2 (s2 (s2 (s2 (s2 c (b + 5) (r * 16 + 0) leg) (b + 5) (r * 16 + 1) (c (b + 3) 5)) (b + 5) (r * 16 + 2) (c (b + 3) 6)) (b + 5) (r * 16 + 3) toX) (b + 5) (r * 16 + 4) toY) (b + 5) (r * 16 + 5) len) (b + 5) (r * 16 + 6) crs) (b + 5) (r * 16 + 7) (c (b + 3) 7)) (b + 5) (r * 16 + 8) (c (b + 3) 8)) (b + 5) (r * 16 + 9) (c (b + 3) 9)) (b + 4) (c (b + 3) 4) (10 : Int32) x = some (row11 c (b + 5) r leg (c (b + 3) 5) (c (b + 3) 6) toX toY len crs (c (b + 3) 7) (c (b + 3) 8) (c (b + 3) 9) x) := fun x => by
    rw [sg_put (col := (10 : Int32)) (j := 10) hI ((((((((((hD.s2 nt).s2 nt).s2 nt).s2 nt).s2 nt).s2 nt).s2 nt).s2 nt).s2 nt).s2 nt) hr hc rfl (by decide)]
    rfl
  by_cases h : c (b + 3) 10 = 0
  · rw [if_pos h, bd_e (hb 0)]
    simp only [Lt_e, row11, s2_3, hc]
    unfold asg
    rw [if_pos h]
    rfl
  · rw [if_neg h, bd_e (hb 1)]
    simp only [Lt_e, row11, s2_3, hc]
    unfold asg
    rw [if_neg h]
    rfl
