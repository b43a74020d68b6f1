/-! the class: its cells, links and methods -/
def Rx0 : String := "FlightLegs$Compass"
def Rx1 : String := "java/util/Arrays"
def Rx2 : String := "java/lang/String"
def Rx3 : String := "java/lang/StringLatin1"
def Rx4 : String := "jdk/internal/util/Preconditions"
def YCk : List ((Bool × Nat) ⊕ (Nat × Nat)) := [.inr (10, 11), .inr (7, 11), .inr (8, 3), .inl (false, 32), .inr (6, 8), .inl (false, 200), .inr (8, 3), .inl (false, 168), .inr (3, 4), .inr (8, 3), .inl (false, 294), .inr (3, 4), .inr (8, 3), .inl (false, 294), .inr (3, 4), .inr (8, 3), .inl (false, 294), .inr (1, 6), .inr (8, 3), .inl (false, 336), .inr (9, 12), .inr (8, 3), .inl (false, 672), .inr (2, 11), .inr (8, 3), .inl (false, 1008), .inr (4, 3), .inr (1, 6), .inr (8, 3), .inl (false, 336), .inr (9, 12), .inr (8, 3), .inl (false, 672), .inr (2, 11), .inr (8, 3), .inl (false, 1008), .inr (4, 3), .inr (1, 6), .inr (8, 3), .inl (false, 336), .inr (9, 12), .inr (8, 3), .inl (false, 672), .inr (2, 11), .inr (8, 3), .inl (false, 1008), .inr (4, 3), .inr (0, 4), .inr (8, 3), .inl (false, 24), .inr (8, 3), .inl (false, 1680), .inr (5, 6)]
def YCl : List (List (Option Nat)) := [[some 1, some 4, some 8, some 11, some 14, some 17, some 27, some 37, some 47, some 52, none], [some 2, none, none, none, none, none, none, none, none, none, none], [none, none, some 3], [], [some 1, some 5, some 6, none, none, none, none, none], [], [none, none, some 7], [], [some 9, none, none, none], [none, none, some 10], [], [some 12, none, none, none], [none, none, some 13], [], [some 15, none, none, none], [none, none, some 16], [], [some 8, some 18, some 20, some 23, some 26, none], [none, none, some 19], [], [some 8, some 1, some 18, some 21, none, none, none, none, none, none, none, none], [none, none, some 22], [], [some 8, some 1, some 18, some 21, some 24, none, none, none, none, none, none], [none, none, some 25], [], [some 8, some 1, some 18], [some 11, some 28, some 30, some 33, some 36, none], [none, none, some 29], [], [some 11, some 1, some 28, some 31, none, none, none, none, none, none, none, none], [none, none, some 32], [], [some 11, some 1, some 28, some 31, some 34, none, none, none, none, none, none], [none, none, some 35], [], [some 11, some 1, some 28], [some 14, some 38, some 40, some 43, some 46, none], [none, none, some 39], [], [some 14, some 1, some 38, some 41, none, none, none, none, none, none, none, none], [none, none, some 42], [], [some 14, some 1, some 38, some 41, some 44, none, none, none, none, none, none], [none, none, some 45], [], [some 14, some 1, some 38], [some 48, some 50, none, none], [none, none, some 49], [], [none, none, some 51], [], [some 8, some 17, none, none, none, none]]
def YCr (j k : Nat) : Option Nat := (YCl.getD j []).getD k none
def YC : Lay := (53, fun j => YCk.getD j (.inl (true, 0)), YCr)
def wC : Wq := ((clA, true), YC)
def rc (j k : Nat) : Nat := (YCr j k).getD 0
def ln (j : Nat) : Nat := match YC.2.1 j with
  | .inl b => b.2
  | .inr _ => 0
theorem jCx {j : Nat} (h : wC.2.2.1 j ≠ .inl (true, 0)) : j < wC.2.1 := by
  rcases Nat.lt_or_ge j 53 with q | q
  · exact q
  · exfalso
    apply h
    show YCk.getD j (.inl (true, 0)) = .inl (true, 0)
    rw [List.getD_eq_getElem?_getD, List.getElem?_eq_none q]
    rfl
theorem jCo {j : Nat} {b : Nat × Nat} (h : wC.2.2.1 j = .inr b) : j < wC.2.1 := jCx (by rw [h]; exact fun q => by cases q)
theorem jCa {j n : Nat} (h : wC.2.2.1 j = .inl (false, n)) : j < wC.2.1 := jCx (by rw [h]; exact fun q => by cases q)
theorem kC_0 : wC.2.2.1 0 = .inr (10, 11) := rfl
theorem kC_1 : wC.2.2.1 1 = .inr (7, 11) := rfl
theorem kC_2 : wC.2.2.1 2 = .inr (8, 3) := rfl
theorem kC_3 : wC.2.2.1 3 = .inl (false, 32) := rfl
theorem kC_4 : wC.2.2.1 4 = .inr (6, 8) := rfl
theorem kC_5 : wC.2.2.1 5 = .inl (false, 200) := rfl
theorem kC_6 : wC.2.2.1 6 = .inr (8, 3) := rfl
theorem kC_7 : wC.2.2.1 7 = .inl (false, 168) := rfl
theorem kC_8 : wC.2.2.1 8 = .inr (3, 4) := rfl
theorem kC_9 : wC.2.2.1 9 = .inr (8, 3) := rfl
theorem kC_10 : wC.2.2.1 10 = .inl (false, 294) := rfl
theorem kC_11 : wC.2.2.1 11 = .inr (3, 4) := rfl
theorem kC_12 : wC.2.2.1 12 = .inr (8, 3) := rfl
theorem kC_13 : wC.2.2.1 13 = .inl (false, 294) := rfl
theorem kC_14 : wC.2.2.1 14 = .inr (3, 4) := rfl
theorem kC_15 : wC.2.2.1 15 = .inr (8, 3) := rfl
theorem kC_16 : wC.2.2.1 16 = .inl (false, 294) := rfl
theorem kC_17 : wC.2.2.1 17 = .inr (1, 6) := rfl
theorem kC_18 : wC.2.2.1 18 = .inr (8, 3) := rfl
theorem kC_19 : wC.2.2.1 19 = .inl (false, 336) := rfl
theorem kC_20 : wC.2.2.1 20 = .inr (9, 12) := rfl
theorem kC_21 : wC.2.2.1 21 = .inr (8, 3) := rfl
theorem kC_22 : wC.2.2.1 22 = .inl (false, 672) := rfl
theorem kC_23 : wC.2.2.1 23 = .inr (2, 11) := rfl
theorem kC_24 : wC.2.2.1 24 = .inr (8, 3) := rfl
theorem kC_25 : wC.2.2.1 25 = .inl (false, 1008) := rfl
theorem kC_26 : wC.2.2.1 26 = .inr (4, 3) := rfl
theorem kC_27 : wC.2.2.1 27 = .inr (1, 6) := rfl
theorem kC_28 : wC.2.2.1 28 = .inr (8, 3) := rfl
theorem kC_29 : wC.2.2.1 29 = .inl (false, 336) := rfl
theorem kC_30 : wC.2.2.1 30 = .inr (9, 12) := rfl
theorem kC_31 : wC.2.2.1 31 = .inr (8, 3) := rfl
theorem kC_32 : wC.2.2.1 32 = .inl (false, 672) := rfl
theorem kC_33 : wC.2.2.1 33 = .inr (2, 11) := rfl
theorem kC_34 : wC.2.2.1 34 = .inr (8, 3) := rfl
theorem kC_35 : wC.2.2.1 35 = .inl (false, 1008) := rfl
theorem kC_36 : wC.2.2.1 36 = .inr (4, 3) := rfl
theorem kC_37 : wC.2.2.1 37 = .inr (1, 6) := rfl
theorem kC_38 : wC.2.2.1 38 = .inr (8, 3) := rfl
theorem kC_39 : wC.2.2.1 39 = .inl (false, 336) := rfl
theorem kC_40 : wC.2.2.1 40 = .inr (9, 12) := rfl
theorem kC_41 : wC.2.2.1 41 = .inr (8, 3) := rfl
theorem kC_42 : wC.2.2.1 42 = .inl (false, 672) := rfl
theorem kC_43 : wC.2.2.1 43 = .inr (2, 11) := rfl
theorem kC_44 : wC.2.2.1 44 = .inr (8, 3) := rfl
theorem kC_45 : wC.2.2.1 45 = .inl (false, 1008) := rfl
theorem kC_46 : wC.2.2.1 46 = .inr (4, 3) := rfl
theorem kC_47 : wC.2.2.1 47 = .inr (0, 4) := rfl
theorem kC_48 : wC.2.2.1 48 = .inr (8, 3) := rfl
theorem kC_49 : wC.2.2.1 49 = .inl (false, 24) := rfl
theorem kC_50 : wC.2.2.1 50 = .inr (8, 3) := rfl
theorem kC_51 : wC.2.2.1 51 = .inl (false, 1680) := rfl
theorem kC_52 : wC.2.2.1 52 = .inr (5, 6) := rfl
theorem cC_0 : wC.1.1[((0, 4) : Nat × Nat).1]? = some (Rk0, Tk0, ((0, 4) : Nat × Nat).2) := rfl
theorem cC_1 : wC.1.1[((1, 6) : Nat × Nat).1]? = some (Rk1, Tk1, ((1, 6) : Nat × Nat).2) := rfl
theorem cC_2 : wC.1.1[((2, 11) : Nat × Nat).1]? = some (Rk2, Tk2, ((2, 11) : Nat × Nat).2) := rfl
theorem cC_3 : wC.1.1[((3, 4) : Nat × Nat).1]? = some (Rk3, Tk3, ((3, 4) : Nat × Nat).2) := rfl
theorem cC_4 : wC.1.1[((4, 3) : Nat × Nat).1]? = some (Rk4, Tk4, ((4, 3) : Nat × Nat).2) := rfl
theorem cC_5 : wC.1.1[((5, 6) : Nat × Nat).1]? = some (Rk5, Tk5, ((5, 6) : Nat × Nat).2) := rfl
theorem cC_6 : wC.1.1[((6, 8) : Nat × Nat).1]? = some (Rk6, Tk6, ((6, 8) : Nat × Nat).2) := rfl
theorem cC_7 : wC.1.1[((7, 11) : Nat × Nat).1]? = some (Rk7, Tk7, ((7, 11) : Nat × Nat).2) := rfl
theorem cC_8 : wC.1.1[((8, 3) : Nat × Nat).1]? = some (Rk8, Tk8, ((8, 3) : Nat × Nat).2) := rfl
theorem cC_9 : wC.1.1[((9, 12) : Nat × Nat).1]? = some (Rk9, Tk9, ((9, 12) : Nat × Nat).2) := rfl
theorem cC_10 : wC.1.1[((10, 11) : Nat × Nat).1]? = some (Rk10, Tk10, ((10, 11) : Nat × Nat).2) := rfl
theorem ly_0_0 {j : Nat} (h : wC.2.2.1 j = .inr (0, 4)) : wC.2.2.2 j 0 = some (rc j 0) ∧ wC.2.2.1 (rc j 0) = .inr (8, 3) :=
  (by decide +kernel : ∀ j, j < 53 → wC.2.2.1 j = .inr (0, 4) → wC.2.2.2 j 0 = some (rc j 0) ∧ wC.2.2.1 (rc j 0) = .inr (8, 3)) j (jCo h) h
theorem ly_0_1 {j : Nat} (h : wC.2.2.1 j = .inr (0, 4)) : wC.2.2.2 j 1 = some (rc j 1) ∧ wC.2.2.1 (rc j 1) = .inr (8, 3) :=
  (by decide +kernel : ∀ j, j < 53 → wC.2.2.1 j = .inr (0, 4) → wC.2.2.2 j 1 = some (rc j 1) ∧ wC.2.2.1 (rc j 1) = .inr (8, 3)) j (jCo h) h
theorem ly_1_0 {j : Nat} (h : wC.2.2.1 j = .inr (1, 6)) : wC.2.2.2 j 0 = some (rc j 0) ∧ wC.2.2.1 (rc j 0) = .inr (3, 4) :=
  (by decide +kernel : ∀ j, j < 53 → wC.2.2.1 j = .inr (1, 6) → wC.2.2.2 j 0 = some (rc j 0) ∧ wC.2.2.1 (rc j 0) = .inr (3, 4)) j (jCo h) h
theorem ly_1_1 {j : Nat} (h : wC.2.2.1 j = .inr (1, 6)) : wC.2.2.2 j 1 = some (rc j 1) ∧ wC.2.2.1 (rc j 1) = .inr (8, 3) :=
  (by decide +kernel : ∀ j, j < 53 → wC.2.2.1 j = .inr (1, 6) → wC.2.2.2 j 1 = some (rc j 1) ∧ wC.2.2.1 (rc j 1) = .inr (8, 3)) j (jCo h) h
theorem ly_1_2 {j : Nat} (h : wC.2.2.1 j = .inr (1, 6)) : wC.2.2.2 j 2 = some (rc j 2) ∧ wC.2.2.1 (rc j 2) = .inr (9, 12) :=
  (by decide +kernel : ∀ j, j < 53 → wC.2.2.1 j = .inr (1, 6) → wC.2.2.2 j 2 = some (rc j 2) ∧ wC.2.2.1 (rc j 2) = .inr (9, 12)) j (jCo h) h
theorem ly_1_3 {j : Nat} (h : wC.2.2.1 j = .inr (1, 6)) : wC.2.2.2 j 3 = some (rc j 3) ∧ wC.2.2.1 (rc j 3) = .inr (2, 11) :=
  (by decide +kernel : ∀ j, j < 53 → wC.2.2.1 j = .inr (1, 6) → wC.2.2.2 j 3 = some (rc j 3) ∧ wC.2.2.1 (rc j 3) = .inr (2, 11)) j (jCo h) h
theorem ly_1_4 {j : Nat} (h : wC.2.2.1 j = .inr (1, 6)) : wC.2.2.2 j 4 = some (rc j 4) ∧ wC.2.2.1 (rc j 4) = .inr (4, 3) :=
  (by decide +kernel : ∀ j, j < 53 → wC.2.2.1 j = .inr (1, 6) → wC.2.2.2 j 4 = some (rc j 4) ∧ wC.2.2.1 (rc j 4) = .inr (4, 3)) j (jCo h) h
theorem ly_2_0 {j : Nat} (h : wC.2.2.1 j = .inr (2, 11)) : wC.2.2.2 j 0 = some (rc j 0) ∧ wC.2.2.1 (rc j 0) = .inr (3, 4) :=
  (by decide +kernel : ∀ j, j < 53 → wC.2.2.1 j = .inr (2, 11) → wC.2.2.2 j 0 = some (rc j 0) ∧ wC.2.2.1 (rc j 0) = .inr (3, 4)) j (jCo h) h
theorem ly_2_1 {j : Nat} (h : wC.2.2.1 j = .inr (2, 11)) : wC.2.2.2 j 1 = some (rc j 1) ∧ wC.2.2.1 (rc j 1) = .inr (7, 11) :=
  (by decide +kernel : ∀ j, j < 53 → wC.2.2.1 j = .inr (2, 11) → wC.2.2.2 j 1 = some (rc j 1) ∧ wC.2.2.1 (rc j 1) = .inr (7, 11)) j (jCo h) h
theorem ly_2_2 {j : Nat} (h : wC.2.2.1 j = .inr (2, 11)) : wC.2.2.2 j 2 = some (rc j 2) ∧ wC.2.2.1 (rc j 2) = .inr (8, 3) :=
  (by decide +kernel : ∀ j, j < 53 → wC.2.2.1 j = .inr (2, 11) → wC.2.2.2 j 2 = some (rc j 2) ∧ wC.2.2.1 (rc j 2) = .inr (8, 3)) j (jCo h) h
theorem ly_2_3 {j : Nat} (h : wC.2.2.1 j = .inr (2, 11)) : wC.2.2.2 j 3 = some (rc j 3) ∧ wC.2.2.1 (rc j 3) = .inr (8, 3) :=
  (by decide +kernel : ∀ j, j < 53 → wC.2.2.1 j = .inr (2, 11) → wC.2.2.2 j 3 = some (rc j 3) ∧ wC.2.2.1 (rc j 3) = .inr (8, 3)) j (jCo h) h
theorem ly_2_4 {j : Nat} (h : wC.2.2.1 j = .inr (2, 11)) : wC.2.2.2 j 4 = some (rc j 4) ∧ wC.2.2.1 (rc j 4) = .inr (8, 3) :=
  (by decide +kernel : ∀ j, j < 53 → wC.2.2.1 j = .inr (2, 11) → wC.2.2.2 j 4 = some (rc j 4) ∧ wC.2.2.1 (rc j 4) = .inr (8, 3)) j (jCo h) h
theorem ly_3_0 {j : Nat} (h : wC.2.2.1 j = .inr (3, 4)) : wC.2.2.2 j 0 = some (rc j 0) ∧ wC.2.2.1 (rc j 0) = .inr (8, 3) :=
  (by decide +kernel : ∀ j, j < 53 → wC.2.2.1 j = .inr (3, 4) → wC.2.2.2 j 0 = some (rc j 0) ∧ wC.2.2.1 (rc j 0) = .inr (8, 3)) j (jCo h) h
theorem ly_4_0 {j : Nat} (h : wC.2.2.1 j = .inr (4, 3)) : wC.2.2.2 j 0 = some (rc j 0) ∧ wC.2.2.1 (rc j 0) = .inr (3, 4) :=
  (by decide +kernel : ∀ j, j < 53 → wC.2.2.1 j = .inr (4, 3) → wC.2.2.2 j 0 = some (rc j 0) ∧ wC.2.2.1 (rc j 0) = .inr (3, 4)) j (jCo h) h
theorem ly_4_1 {j : Nat} (h : wC.2.2.1 j = .inr (4, 3)) : wC.2.2.2 j 1 = some (rc j 1) ∧ wC.2.2.1 (rc j 1) = .inr (7, 11) :=
  (by decide +kernel : ∀ j, j < 53 → wC.2.2.1 j = .inr (4, 3) → wC.2.2.2 j 1 = some (rc j 1) ∧ wC.2.2.1 (rc j 1) = .inr (7, 11)) j (jCo h) h
theorem ly_4_2 {j : Nat} (h : wC.2.2.1 j = .inr (4, 3)) : wC.2.2.2 j 2 = some (rc j 2) ∧ wC.2.2.1 (rc j 2) = .inr (8, 3) :=
  (by decide +kernel : ∀ j, j < 53 → wC.2.2.1 j = .inr (4, 3) → wC.2.2.2 j 2 = some (rc j 2) ∧ wC.2.2.1 (rc j 2) = .inr (8, 3)) j (jCo h) h
theorem ly_5_0 {j : Nat} (h : wC.2.2.1 j = .inr (5, 6)) : wC.2.2.2 j 0 = some (rc j 0) ∧ wC.2.2.1 (rc j 0) = .inr (3, 4) :=
  (by decide +kernel : ∀ j, j < 53 → wC.2.2.1 j = .inr (5, 6) → wC.2.2.2 j 0 = some (rc j 0) ∧ wC.2.2.1 (rc j 0) = .inr (3, 4)) j (jCo h) h
theorem ly_5_1 {j : Nat} (h : wC.2.2.1 j = .inr (5, 6)) : wC.2.2.2 j 1 = some (rc j 1) ∧ wC.2.2.1 (rc j 1) = .inr (1, 6) :=
  (by decide +kernel : ∀ j, j < 53 → wC.2.2.1 j = .inr (5, 6) → wC.2.2.2 j 1 = some (rc j 1) ∧ wC.2.2.1 (rc j 1) = .inr (1, 6)) j (jCo h) h
theorem ly_6_0 {j : Nat} (h : wC.2.2.1 j = .inr (6, 8)) : wC.2.2.2 j 0 = some (rc j 0) ∧ wC.2.2.1 (rc j 0) = .inr (7, 11) :=
  (by decide +kernel : ∀ j, j < 53 → wC.2.2.1 j = .inr (6, 8) → wC.2.2.2 j 0 = some (rc j 0) ∧ wC.2.2.1 (rc j 0) = .inr (7, 11)) j (jCo h) h
theorem ly_6_1 {j : Nat} (h : wC.2.2.1 j = .inr (6, 8)) : wC.2.2.2 j 1 = some (rc j 1) ∧ wC.2.2.1 (rc j 1) = .inl (false, ln (rc j 1)) :=
  (by decide +kernel : ∀ j, j < 53 → wC.2.2.1 j = .inr (6, 8) → wC.2.2.2 j 1 = some (rc j 1) ∧ wC.2.2.1 (rc j 1) = .inl (false, ln (rc j 1))) j (jCo h) h
theorem ly_6_2 {j : Nat} (h : wC.2.2.1 j = .inr (6, 8)) : wC.2.2.2 j 2 = some (rc j 2) ∧ wC.2.2.1 (rc j 2) = .inr (8, 3) :=
  (by decide +kernel : ∀ j, j < 53 → wC.2.2.1 j = .inr (6, 8) → wC.2.2.2 j 2 = some (rc j 2) ∧ wC.2.2.1 (rc j 2) = .inr (8, 3)) j (jCo h) h
theorem ly_7_0 {j : Nat} (h : wC.2.2.1 j = .inr (7, 11)) : wC.2.2.2 j 0 = some (rc j 0) ∧ wC.2.2.1 (rc j 0) = .inr (8, 3) :=
  (by decide +kernel : ∀ j, j < 53 → wC.2.2.1 j = .inr (7, 11) → wC.2.2.2 j 0 = some (rc j 0) ∧ wC.2.2.1 (rc j 0) = .inr (8, 3)) j (jCo h) h
theorem ly_8_2 {j : Nat} (h : wC.2.2.1 j = .inr (8, 3)) : wC.2.2.2 j 2 = some (rc j 2) ∧ wC.2.2.1 (rc j 2) = .inl (false, ln (rc j 2)) :=
  (by decide +kernel : ∀ j, j < 53 → wC.2.2.1 j = .inr (8, 3) → wC.2.2.2 j 2 = some (rc j 2) ∧ wC.2.2.1 (rc j 2) = .inl (false, ln (rc j 2))) j (jCo h) h
theorem ly_9_0 {j : Nat} (h : wC.2.2.1 j = .inr (9, 12)) : wC.2.2.2 j 0 = some (rc j 0) ∧ wC.2.2.1 (rc j 0) = .inr (3, 4) :=
  (by decide +kernel : ∀ j, j < 53 → wC.2.2.1 j = .inr (9, 12) → wC.2.2.2 j 0 = some (rc j 0) ∧ wC.2.2.1 (rc j 0) = .inr (3, 4)) j (jCo h) h
theorem ly_9_1 {j : Nat} (h : wC.2.2.1 j = .inr (9, 12)) : wC.2.2.2 j 1 = some (rc j 1) ∧ wC.2.2.1 (rc j 1) = .inr (7, 11) :=
  (by decide +kernel : ∀ j, j < 53 → wC.2.2.1 j = .inr (9, 12) → wC.2.2.2 j 1 = some (rc j 1) ∧ wC.2.2.1 (rc j 1) = .inr (7, 11)) j (jCo h) h
theorem ly_9_2 {j : Nat} (h : wC.2.2.1 j = .inr (9, 12)) : wC.2.2.2 j 2 = some (rc j 2) ∧ wC.2.2.1 (rc j 2) = .inr (8, 3) :=
  (by decide +kernel : ∀ j, j < 53 → wC.2.2.1 j = .inr (9, 12) → wC.2.2.2 j 2 = some (rc j 2) ∧ wC.2.2.1 (rc j 2) = .inr (8, 3)) j (jCo h) h
theorem ly_9_3 {j : Nat} (h : wC.2.2.1 j = .inr (9, 12)) : wC.2.2.2 j 3 = some (rc j 3) ∧ wC.2.2.1 (rc j 3) = .inr (8, 3) :=
  (by decide +kernel : ∀ j, j < 53 → wC.2.2.1 j = .inr (9, 12) → wC.2.2.2 j 3 = some (rc j 3) ∧ wC.2.2.1 (rc j 3) = .inr (8, 3)) j (jCo h) h
theorem kb_m99 : (Int8.ofInt (-99)).toInt32 = (-99 : Int32) := by decide
theorem kb_15 : (Int8.ofInt (15)).toInt32 = (15 : Int32) := by decide
theorem kb_18 : (Int8.ofInt (18)).toInt32 = (18 : Int32) := by decide
theorem kb_57 : (Int8.ofInt (57)).toInt32 = (57 : Int32) := by decide
theorem kb_90 : (Int8.ofInt (90)).toInt32 = (90 : Int32) := by decide
theorem kb_99 : (Int8.ofInt (99)).toInt32 = (99 : Int32) := by decide
theorem ks_m9999 : (Int16.ofInt (-9999)).toInt32 = (-9999 : Int32) := by decide
theorem ks_255 : (Int16.ofInt (255)).toInt32 = (255 : Int32) := by decide
theorem ks_262 : (Int16.ofInt (262)).toInt32 = (262 : Int32) := by decide
theorem ks_360 : (Int16.ofInt (360)).toInt32 = (360 : Int32) := by decide
theorem ks_900 : (Int16.ofInt (900)).toInt32 = (900 : Int32) := by decide
theorem ks_1000 : (Int16.ofInt (1000)).toInt32 = (1000 : Int32) := by decide
theorem ks_2000 : (Int16.ofInt (2000)).toInt32 = (2000 : Int32) := by decide
theorem ks_3200 : (Int16.ofInt (3200)).toInt32 = (3200 : Int32) := by decide
theorem ks_9999 : (Int16.ofInt (9999)).toInt32 = (9999 : Int32) := by decide
abbrev o_n (g : Ge) (σ : St) : Nat → Option Value × St := fun x => (some (.ref (g.1 x)), σ)
abbrev o_nw (g : Ge) : Nat × St → Option Value × St := fun x => (some (.ref (g.1 x.1)), x.2)
abbrev o_u (σ : St) : Unit → Option Value × St := fun _ => (none, σ)
theorem lcC_FL_79 : Cond.constant Rk10 79 (-1000002) ∈ lw_g := mg2 182 rfl rfl
theorem lcC_FL_88 : Cond.constant Rk10 88 (-1000004) ∈ lw_g := mg2 187 rfl rfl
theorem lcC_FL_139 : Cond.constant Rk10 139 (-1000000) ∈ lw_g := mg4 145 rfl rfl
theorem lcC_FL_140 : Cond.constant Rk10 140 (-1000003) ∈ lw_g := mg4 146 rfl rfl
theorem lcC_FL_159 : Cond.constant Rk10 159 (-1000001) ∈ lw_g := mg4 185 rfl rfl
theorem lcC_Pa_100 : Cond.constant Rk1 100 (-1000000) ∈ lw_g := mg6 21 rfl rfl
theorem lcC_Pl_35 : Cond.constant Rk3 35 (-1000000) ∈ lw_g := mg3 39 rfl rfl
theorem lcC_Rx_56 : Cond.constant Rk6 56 (-1000000) ∈ lw_g := mg3 78 rfl rfl
theorem lcC_Tk_67 : Cond.constant Rk9 67 (-1000000) ∈ lw_g := mg3 112 rfl rfl
theorem lLC_Cm_19 : Cond.constantLong Rx0 19 (1000) ∈ lw_g := mg3 159 rfl rfl
theorem lLC_Cm_28 : Cond.constantLong Rx0 28 (1152921504606846976) ∈ lw_g := mg3 146 rfl rfl
theorem lLC_Pf_87 : Cond.constantLong Rk4 87 (1000) ∈ lw_g := mg4 119 rfl rfl
theorem lLC_Sg_72 : Cond.constantLong Rk7 72 (1000) ∈ lw_g := mg4 103 rfl rfl
theorem lLC_Tk_155 : Cond.constantLong Rk9 155 (1000) ∈ lw_g := mg3 199 rfl rfl
theorem lLC_Tk_157 : Cond.constantLong Rk9 157 (999) ∈ lw_g := mg3 200 rfl rfl
theorem lfC_Cm_9 : Cond.fieldLink Rx0 9 "FlightLegs$Compass" "SINES" "[I" ∈ lw_g := mg3 157 rfl rfl
theorem lfC_Tk_184 : Cond.fieldLink Rk9 184 "FlightLegs$Track" "LEADS" "[I" ∈ lw_g := mg3 239 rfl rfl
theorem lfC_Sn_9 : Cond.fieldLink Rx2 9 "java/lang/String" "value" "[B" ∈ lw_g := mg9 126 rfl rfl
theorem lfC_Sn_15 : Cond.fieldLink Rx2 15 "java/lang/String" "coder" "B" ∈ lw_g := mg9 127 rfl rfl
theorem lfC_Sn_38 : Cond.fieldLink Rx2 38 "java/lang/String" "COMPACT_STRINGS" "Z" ∈ lw_g := mg2 232 rfl rfl
theorem lfC_Sn_1053 : Cond.fieldLink Rx2 1053 "jdk/internal/util/Preconditions" "SIOOBE_FORMATTER" "Ljava/util/function/BiFunction;" ∈ lw_g := mg3 8 rfl rfl
theorem lj_abs_Pc_101 : Lma Rk2 101 := ⟨mg4 33 rfl rfl, mg4 34 rfl rfl, mg1 4 rfl rfl, mg4 35 rfl rfl⟩
theorem lj_arraycopy_Tb_35 : Lcp Rk8 35 := ⟨mg4 161 rfl rfl, mg4 163 rfl rfl, mg4 162 rfl rfl, mg1 20 rfl rfl⟩
theorem lj_max_Cm_33 : Lmx Rx0 33 := ⟨mg3 235 rfl rfl, mg1 45 rfl rfl, mg1 4 rfl rfl, mg1 46 rfl rfl⟩
theorem lj_max_Hi_57 : Lmx Rk0 57 := ⟨mg5 38 rfl rfl, mg1 45 rfl rfl, mg1 4 rfl rfl, mg1 46 rfl rfl⟩
theorem lj_max_Pa_108 : Lmx Rk1 108 := ⟨mg6 28 rfl rfl, mg1 45 rfl rfl, mg1 4 rfl rfl, mg1 46 rfl rfl⟩
theorem lj_max_Pc_134 : Lmx Rk2 134 := ⟨mg4 62 rfl rfl, mg1 45 rfl rfl, mg1 4 rfl rfl, mg1 46 rfl rfl⟩
theorem lj_max_Pf_78 : Lmx Rk4 78 := ⟨mg4 114 rfl rfl, mg1 45 rfl rfl, mg1 4 rfl rfl, mg1 46 rfl rfl⟩
theorem lj_max_Sg_69 : Lmx Rk7 69 := ⟨mg3 231 rfl rfl, mg1 45 rfl rfl, mg1 4 rfl rfl, mg1 46 rfl rfl⟩
theorem lj_max_Tk_138 : Lmx Rk9 138 := ⟨mg3 180 rfl rfl, mg1 45 rfl rfl, mg1 4 rfl rfl, mg1 46 rfl rfl⟩
theorem lj_min_Hi_47 : Lmn Rk0 47 := ⟨mg4 156 rfl rfl, mg1 42 rfl rfl, mg1 4 rfl rfl, mg1 43 rfl rfl⟩
theorem lj_min_Pc_137 : Lmn Rk2 137 := ⟨mg4 63 rfl rfl, mg1 42 rfl rfl, mg1 4 rfl rfl, mg1 43 rfl rfl⟩
theorem lj_min_Pf_44 : Lmn Rk4 44 := ⟨mg4 108 rfl rfl, mg1 42 rfl rfl, mg1 4 rfl rfl, mg1 43 rfl rfl⟩
theorem lj_min_Pg_49 : Lmn Rk5 49 := ⟨mg4 125 rfl rfl, mg1 42 rfl rfl, mg1 4 rfl rfl, mg1 43 rfl rfl⟩
theorem lj_min_Sg_51 : Lmn Rk7 51 := ⟨mg3 230 rfl rfl, mg1 42 rfl rfl, mg1 4 rfl rfl, mg1 43 rfl rfl⟩
section CF
variable {ρ : Type} {z : Zx} {q : Mq} {g : Ge} {out : ρ → Option Value × St} {pc pc' : Nat} {lv : List (Nat × Value)} {st : List Value} {σ : St} {E : Option ρ} {fr lo : Nat}
theorem lfC_FL_10 : Cond.fieldLink Rk10 10 (Tk10 0).1 (Tk10 0).2.1 (Tk10 0).2.2.1 ∈ lw_g := mg2 141 rfl rfl
theorem gC_FL_10 (C : Cx z q wC g fr lo) (j r : Nat) (hk : wC.2.2.1 j = .inr (10, 11)) (hr : wC.2.2.2 j 0 = some r) (hd : decode q.1 pc = .ok (.getfield 10, 3)) (hq : q.2.2.1 = Rk10) (hp : pc + 3 = pc') (kk : Rt z q wC g out pc' lv (.ref (g.1 r) :: st) σ E) : Rt z q wC g out pc lv (.ref (g.1 j) :: st) σ E := q_getR C j 0 (jCo hk) hk (by decide) hr cC_10 ik10 (by rw [hq]; exact lfC_FL_10) hd hp kk
theorem lfC_FL_21 : Cond.fieldLink Rk10 21 (Tk10 1).1 (Tk10 1).2.1 (Tk10 1).2.2.1 ∈ lw_g := mg2 142 rfl rfl
theorem gC_FL_21 (C : Cx z q wC g fr lo) (j r : Nat) (hk : wC.2.2.1 j = .inr (10, 11)) (hr : wC.2.2.2 j 1 = some r) (hd : decode q.1 pc = .ok (.getfield 21, 3)) (hq : q.2.2.1 = Rk10) (hp : pc + 3 = pc') (kk : Rt z q wC g out pc' lv (.ref (g.1 r) :: st) σ E) : Rt z q wC g out pc lv (.ref (g.1 j) :: st) σ E := q_getR C j 1 (jCo hk) hk (by decide) hr cC_10 ik10 (by rw [hq]; exact lfC_FL_21) hd hp kk
theorem lfC_FL_30 : Cond.fieldLink Rk10 30 (Tk10 2).1 (Tk10 2).2.1 (Tk10 2).2.2.1 ∈ lw_g := mg2 143 rfl rfl
theorem gC_FL_30 (C : Cx z q wC g fr lo) (j r : Nat) (hk : wC.2.2.1 j = .inr (10, 11)) (hr : wC.2.2.2 j 2 = some r) (hd : decode q.1 pc = .ok (.getfield 30, 3)) (hq : q.2.2.1 = Rk10) (hp : pc + 3 = pc') (kk : Rt z q wC g out pc' lv (.ref (g.1 r) :: st) σ E) : Rt z q wC g out pc lv (.ref (g.1 j) :: st) σ E := q_getR C j 2 (jCo hk) hk (by decide) hr cC_10 ik10 (by rw [hq]; exact lfC_FL_30) hd hp kk
theorem lfC_FL_34 : Cond.fieldLink Rk10 34 (Tk10 3).1 (Tk10 3).2.1 (Tk10 3).2.2.1 ∈ lw_g := mg2 144 rfl rfl
theorem gC_FL_34 (C : Cx z q wC g fr lo) (j r : Nat) (hk : wC.2.2.1 j = .inr (10, 11)) (hr : wC.2.2.2 j 3 = some r) (hd : decode q.1 pc = .ok (.getfield 34, 3)) (hq : q.2.2.1 = Rk10) (hp : pc + 3 = pc') (kk : Rt z q wC g out pc' lv (.ref (g.1 r) :: st) σ E) : Rt z q wC g out pc lv (.ref (g.1 j) :: st) σ E := q_getR C j 3 (jCo hk) hk (by decide) hr cC_10 ik10 (by rw [hq]; exact lfC_FL_34) hd hp kk
theorem lfC_FL_37 : Cond.fieldLink Rk10 37 (Tk10 4).1 (Tk10 4).2.1 (Tk10 4).2.2.1 ∈ lw_g := mg2 145 rfl rfl
theorem gC_FL_37 (C : Cx z q wC g fr lo) (j r : Nat) (hk : wC.2.2.1 j = .inr (10, 11)) (hr : wC.2.2.2 j 4 = some r) (hd : decode q.1 pc = .ok (.getfield 37, 3)) (hq : q.2.2.1 = Rk10) (hp : pc + 3 = pc') (kk : Rt z q wC g out pc' lv (.ref (g.1 r) :: st) σ E) : Rt z q wC g out pc lv (.ref (g.1 j) :: st) σ E := q_getR C j 4 (jCo hk) hk (by decide) hr cC_10 ik10 (by rw [hq]; exact lfC_FL_37) hd hp kk
theorem lfC_FL_45 : Cond.fieldLink Rk10 45 (Tk10 5).1 (Tk10 5).2.1 (Tk10 5).2.2.1 ∈ lw_g := mg2 146 rfl rfl
theorem gC_FL_45 (C : Cx z q wC g fr lo) (j r : Nat) (hk : wC.2.2.1 j = .inr (10, 11)) (hr : wC.2.2.2 j 5 = some r) (hd : decode q.1 pc = .ok (.getfield 45, 3)) (hq : q.2.2.1 = Rk10) (hp : pc + 3 = pc') (kk : Rt z q wC g out pc' lv (.ref (g.1 r) :: st) σ E) : Rt z q wC g out pc lv (.ref (g.1 j) :: st) σ E := q_getR C j 5 (jCo hk) hk (by decide) hr cC_10 ik10 (by rw [hq]; exact lfC_FL_45) hd hp kk
theorem lfC_FL_49 : Cond.fieldLink Rk10 49 (Tk10 6).1 (Tk10 6).2.1 (Tk10 6).2.2.1 ∈ lw_g := mg2 147 rfl rfl
theorem gC_FL_49 (C : Cx z q wC g fr lo) (j r : Nat) (hk : wC.2.2.1 j = .inr (10, 11)) (hr : wC.2.2.2 j 6 = some r) (hd : decode q.1 pc = .ok (.getfield 49, 3)) (hq : q.2.2.1 = Rk10) (hp : pc + 3 = pc') (kk : Rt z q wC g out pc' lv (.ref (g.1 r) :: st) σ E) : Rt z q wC g out pc lv (.ref (g.1 j) :: st) σ E := q_getR C j 6 (jCo hk) hk (by decide) hr cC_10 ik10 (by rw [hq]; exact lfC_FL_49) hd hp kk
theorem lfC_FL_52 : Cond.fieldLink Rk10 52 (Tk10 7).1 (Tk10 7).2.1 (Tk10 7).2.2.1 ∈ lw_g := mg2 148 rfl rfl
theorem gC_FL_52 (C : Cx z q wC g fr lo) (j r : Nat) (hk : wC.2.2.1 j = .inr (10, 11)) (hr : wC.2.2.2 j 7 = some r) (hd : decode q.1 pc = .ok (.getfield 52, 3)) (hq : q.2.2.1 = Rk10) (hp : pc + 3 = pc') (kk : Rt z q wC g out pc' lv (.ref (g.1 r) :: st) σ E) : Rt z q wC g out pc lv (.ref (g.1 j) :: st) σ E := q_getR C j 7 (jCo hk) hk (by decide) hr cC_10 ik10 (by rw [hq]; exact lfC_FL_52) hd hp kk
theorem lfC_FL_58 : Cond.fieldLink Rk10 58 (Tk10 8).1 (Tk10 8).2.1 (Tk10 8).2.2.1 ∈ lw_g := mg2 149 rfl rfl
theorem gC_FL_58 (C : Cx z q wC g fr lo) (j r : Nat) (hk : wC.2.2.1 j = .inr (10, 11)) (hr : wC.2.2.2 j 8 = some r) (hd : decode q.1 pc = .ok (.getfield 58, 3)) (hq : q.2.2.1 = Rk10) (hp : pc + 3 = pc') (kk : Rt z q wC g out pc' lv (.ref (g.1 r) :: st) σ E) : Rt z q wC g out pc lv (.ref (g.1 j) :: st) σ E := q_getR C j 8 (jCo hk) hk (by decide) hr cC_10 ik10 (by rw [hq]; exact lfC_FL_58) hd hp kk
theorem lfC_FL_67 : Cond.fieldLink Rk10 67 (Tk10 9).1 (Tk10 9).2.1 (Tk10 9).2.2.1 ∈ lw_g := mg2 150 rfl rfl
theorem gC_FL_67 (C : Cx z q wC g fr lo) (j r : Nat) (hk : wC.2.2.1 j = .inr (10, 11)) (hr : wC.2.2.2 j 9 = some r) (hd : decode q.1 pc = .ok (.getfield 67, 3)) (hq : q.2.2.1 = Rk10) (hp : pc + 3 = pc') (kk : Rt z q wC g out pc' lv (.ref (g.1 r) :: st) σ E) : Rt z q wC g out pc lv (.ref (g.1 j) :: st) σ E := q_getR C j 9 (jCo hk) hk (by decide) hr cC_10 ik10 (by rw [hq]; exact lfC_FL_67) hd hp kk
theorem lfC_FL_71 : Cond.fieldLink Rk10 71 (Tk10 10).1 (Tk10 10).2.1 (Tk10 10).2.2.1 ∈ lw_g := mg2 151 rfl rfl
theorem nn_10_10 {j : Nat} (h : wC.2.2.1 j = .inr (10, 11)) : wC.2.2.2 j 10 = none := (by decide +kernel : ∀ j, j < 53 → wC.2.2.1 j = .inr (10, 11) → wC.2.2.2 j 10 = none) j (jCo h) h
theorem gC_FL_71 (C : Cx z q wC g fr lo) (j : Nat) (hk : wC.2.2.1 j = .inr (10, 11)) (hd : decode q.1 pc = .ok (.getfield 71, 3)) (hq : q.2.2.1 = Rk10) (hp : pc + 3 = pc') (kk : Rt z q wC g out pc' lv (.int (σ j 10) :: st) σ E) : Rt z q wC g out pc lv (.ref (g.1 j) :: st) σ E := q_getI C j 10 (jCo hk) hk (by decide) (nn_10_10 hk) cC_10 ik10 (by rw [hq]; exact lfC_FL_71) hd hp kk
theorem pC_FL_71 (C : Cx z q wC g fr lo) (j : Nat) (hk : wC.2.2.1 j = .inr (10, 11)) {v : Int32} (hd : decode q.1 pc = .ok (.putfield 71, 3)) (hb : v &&& 1 = v) (hq : q.2.2.1 = Rk10) (hp : pc + 3 = pc') (kk : Rt z q wC g out pc' lv st (s2 σ j 10 v) E) : Rt z q wC g out pc lv (.int v :: .ref (g.1 j) :: st) σ E := q_putI (ty := ty10) C j 10 (jCo hk) hk (by decide) (nn_10_10 hk) cC_10 ik10 tk10 nk10 rfl (by show Value.int (v &&& 1) = .int v; rw [hb]) (fitsb hb) (by rw [hq]; exact lfC_FL_71) hd hp kk
theorem lfC_FL_84 : Cond.fieldLink Rk10 84 (Tk6 3).1 (Tk6 3).2.1 (Tk6 3).2.2.1 ∈ lw_g := mg1 126 rfl rfl
theorem nn_6_3 {j : Nat} (h : wC.2.2.1 j = .inr (6, 8)) : wC.2.2.2 j 3 = none := (by decide +kernel : ∀ j, j < 53 → wC.2.2.1 j = .inr (6, 8) → wC.2.2.2 j 3 = none) j (jCo h) h
theorem gC_FL_84 (C : Cx z q wC g fr lo) (j : Nat) (hk : wC.2.2.1 j = .inr (6, 8)) (hd : decode q.1 pc = .ok (.getfield 84, 3)) (hq : q.2.2.1 = Rk10) (hp : pc + 3 = pc') (kk : Rt z q wC g out pc' lv (.int (σ j 3) :: st) σ E) : Rt z q wC g out pc lv (.ref (g.1 j) :: st) σ E := q_getI C j 3 (jCo hk) hk (by decide) (nn_6_3 hk) cC_6 ik6 (by rw [hq]; exact lfC_FL_84) hd hp kk
theorem pC_FL_84 (C : Cx z q wC g fr lo) (j : Nat) (hk : wC.2.2.1 j = .inr (6, 8)) {v : Int32} (hd : decode q.1 pc = .ok (.putfield 84, 3)) (hq : q.2.2.1 = Rk10) (hp : pc + 3 = pc') (kk : Rt z q wC g out pc' lv st (s2 σ j 3 v) E) : Rt z q wC g out pc lv (.int v :: .ref (g.1 j) :: st) σ E := q_putI (ty := ty6) C j 3 (jCo hk) hk (by decide) (nn_6_3 hk) cC_6 ik6 tk6 nk6 rfl rfl rfl (by rw [hq]; exact lfC_FL_84) hd hp kk
theorem lfC_FL_93 : Cond.fieldLink Rk10 93 (Tk7 1).1 (Tk7 1).2.1 (Tk7 1).2.2.1 ∈ lw_g := mg1 62 rfl rfl
theorem nn_7_1 {j : Nat} (h : wC.2.2.1 j = .inr (7, 11)) : wC.2.2.2 j 1 = none := (by decide +kernel : ∀ j, j < 53 → wC.2.2.1 j = .inr (7, 11) → wC.2.2.2 j 1 = none) j (jCo h) h
theorem gC_FL_93 (C : Cx z q wC g fr lo) (j : Nat) (hk : wC.2.2.1 j = .inr (7, 11)) (hd : decode q.1 pc = .ok (.getfield 93, 3)) (hq : q.2.2.1 = Rk10) (hp : pc + 3 = pc') (kk : Rt z q wC g out pc' lv (.int (σ j 1) :: st) σ E) : Rt z q wC g out pc lv (.ref (g.1 j) :: st) σ E := q_getI C j 1 (jCo hk) hk (by decide) (nn_7_1 hk) cC_7 ik7 (by rw [hq]; exact lfC_FL_93) hd hp kk
theorem pC_FL_93 (C : Cx z q wC g fr lo) (j : Nat) (hk : wC.2.2.1 j = .inr (7, 11)) {v : Int32} (hd : decode q.1 pc = .ok (.putfield 93, 3)) (hq : q.2.2.1 = Rk10) (hp : pc + 3 = pc') (kk : Rt z q wC g out pc' lv st (s2 σ j 1 v) E) : Rt z q wC g out pc lv (.int v :: .ref (g.1 j) :: st) σ E := q_putI (ty := ty7) C j 1 (jCo hk) hk (by decide) (nn_7_1 hk) cC_7 ik7 tk7 nk7 rfl rfl rfl (by rw [hq]; exact lfC_FL_93) hd hp kk
theorem lfC_FL_96 : Cond.fieldLink Rk10 96 (Tk7 0).1 (Tk7 0).2.1 (Tk7 0).2.2.1 ∈ lw_g := mg1 59 rfl rfl
theorem gC_FL_96 (C : Cx z q wC g fr lo) (j r : Nat) (hk : wC.2.2.1 j = .inr (7, 11)) (hr : wC.2.2.2 j 0 = some r) (hd : decode q.1 pc = .ok (.getfield 96, 3)) (hq : q.2.2.1 = Rk10) (hp : pc + 3 = pc') (kk : Rt z q wC g out pc' lv (.ref (g.1 r) :: st) σ E) : Rt z q wC g out pc lv (.ref (g.1 j) :: st) σ E := q_getR C j 0 (jCo hk) hk (by decide) hr cC_7 ik7 (by rw [hq]; exact lfC_FL_96) hd hp kk
theorem lfC_FL_106 : Cond.fieldLink Rk10 106 (Tk7 2).1 (Tk7 2).2.1 (Tk7 2).2.2.1 ∈ lw_g := mg1 65 rfl rfl
theorem nn_7_2 {j : Nat} (h : wC.2.2.1 j = .inr (7, 11)) : wC.2.2.2 j 2 = none := (by decide +kernel : ∀ j, j < 53 → wC.2.2.1 j = .inr (7, 11) → wC.2.2.2 j 2 = none) j (jCo h) h
theorem gC_FL_106 (C : Cx z q wC g fr lo) (j : Nat) (hk : wC.2.2.1 j = .inr (7, 11)) (hd : decode q.1 pc = .ok (.getfield 106, 3)) (hq : q.2.2.1 = Rk10) (hp : pc + 3 = pc') (kk : Rt z q wC g out pc' lv (.int (σ j 2) :: st) σ E) : Rt z q wC g out pc lv (.ref (g.1 j) :: st) σ E := q_getI C j 2 (jCo hk) hk (by decide) (nn_7_2 hk) cC_7 ik7 (by rw [hq]; exact lfC_FL_106) hd hp kk
theorem pC_FL_106 (C : Cx z q wC g fr lo) (j : Nat) (hk : wC.2.2.1 j = .inr (7, 11)) {v : Int32} (hd : decode q.1 pc = .ok (.putfield 106, 3)) (hq : q.2.2.1 = Rk10) (hp : pc + 3 = pc') (kk : Rt z q wC g out pc' lv st (s2 σ j 2 v) E) : Rt z q wC g out pc lv (.int v :: .ref (g.1 j) :: st) σ E := q_putI (ty := ty7) C j 2 (jCo hk) hk (by decide) (nn_7_2 hk) cC_7 ik7 tk7 nk7 rfl rfl rfl (by rw [hq]; exact lfC_FL_106) hd hp kk
theorem lfC_FL_109 : Cond.fieldLink Rk10 109 (Tk7 3).1 (Tk7 3).2.1 (Tk7 3).2.2.1 ∈ lw_g := mg1 67 rfl rfl
theorem nn_7_3 {j : Nat} (h : wC.2.2.1 j = .inr (7, 11)) : wC.2.2.2 j 3 = none := (by decide +kernel : ∀ j, j < 53 → wC.2.2.1 j = .inr (7, 11) → wC.2.2.2 j 3 = none) j (jCo h) h
theorem gC_FL_109 (C : Cx z q wC g fr lo) (j : Nat) (hk : wC.2.2.1 j = .inr (7, 11)) (hd : decode q.1 pc = .ok (.getfield 109, 3)) (hq : q.2.2.1 = Rk10) (hp : pc + 3 = pc') (kk : Rt z q wC g out pc' lv (.int (σ j 3) :: st) σ E) : Rt z q wC g out pc lv (.ref (g.1 j) :: st) σ E := q_getI C j 3 (jCo hk) hk (by decide) (nn_7_3 hk) cC_7 ik7 (by rw [hq]; exact lfC_FL_109) hd hp kk
theorem pC_FL_109 (C : Cx z q wC g fr lo) (j : Nat) (hk : wC.2.2.1 j = .inr (7, 11)) {v : Int32} (hd : decode q.1 pc = .ok (.putfield 109, 3)) (hq : q.2.2.1 = Rk10) (hp : pc + 3 = pc') (kk : Rt z q wC g out pc' lv st (s2 σ j 3 v) E) : Rt z q wC g out pc lv (.int v :: .ref (g.1 j) :: st) σ E := q_putI (ty := ty7) C j 3 (jCo hk) hk (by decide) (nn_7_3 hk) cC_7 ik7 tk7 nk7 rfl rfl rfl (by rw [hq]; exact lfC_FL_109) hd hp kk
theorem lfC_FL_115 : Cond.fieldLink Rk10 115 (Tk7 4).1 (Tk7 4).2.1 (Tk7 4).2.2.1 ∈ lw_g := mg1 70 rfl rfl
theorem nn_7_4 {j : Nat} (h : wC.2.2.1 j = .inr (7, 11)) : wC.2.2.2 j 4 = none := (by decide +kernel : ∀ j, j < 53 → wC.2.2.1 j = .inr (7, 11) → wC.2.2.2 j 4 = none) j (jCo h) h
theorem gC_FL_115 (C : Cx z q wC g fr lo) (j : Nat) (hk : wC.2.2.1 j = .inr (7, 11)) (hd : decode q.1 pc = .ok (.getfield 115, 3)) (hq : q.2.2.1 = Rk10) (hp : pc + 3 = pc') (kk : Rt z q wC g out pc' lv (.int (σ j 4) :: st) σ E) : Rt z q wC g out pc lv (.ref (g.1 j) :: st) σ E := q_getI C j 4 (jCo hk) hk (by decide) (nn_7_4 hk) cC_7 ik7 (by rw [hq]; exact lfC_FL_115) hd hp kk
theorem pC_FL_115 (C : Cx z q wC g fr lo) (j : Nat) (hk : wC.2.2.1 j = .inr (7, 11)) {v : Int32} (hd : decode q.1 pc = .ok (.putfield 115, 3)) (hq : q.2.2.1 = Rk10) (hp : pc + 3 = pc') (kk : Rt z q wC g out pc' lv st (s2 σ j 4 v) E) : Rt z q wC g out pc lv (.int v :: .ref (g.1 j) :: st) σ E := q_putI (ty := ty7) C j 4 (jCo hk) hk (by decide) (nn_7_4 hk) cC_7 ik7 tk7 nk7 rfl rfl rfl (by rw [hq]; exact lfC_FL_115) hd hp kk
theorem lfC_FL_118 : Cond.fieldLink Rk10 118 (Tk7 5).1 (Tk7 5).2.1 (Tk7 5).2.2.1 ∈ lw_g := mg1 72 rfl rfl
theorem nn_7_5 {j : Nat} (h : wC.2.2.1 j = .inr (7, 11)) : wC.2.2.2 j 5 = none := (by decide +kernel : ∀ j, j < 53 → wC.2.2.1 j = .inr (7, 11) → wC.2.2.2 j 5 = none) j (jCo h) h
theorem gC_FL_118 (C : Cx z q wC g fr lo) (j : Nat) (hk : wC.2.2.1 j = .inr (7, 11)) (hd : decode q.1 pc = .ok (.getfield 118, 3)) (hq : q.2.2.1 = Rk10) (hp : pc + 3 = pc') (kk : Rt z q wC g out pc' lv (.int (σ j 5) :: st) σ E) : Rt z q wC g out pc lv (.ref (g.1 j) :: st) σ E := q_getI C j 5 (jCo hk) hk (by decide) (nn_7_5 hk) cC_7 ik7 (by rw [hq]; exact lfC_FL_118) hd hp kk
theorem pC_FL_118 (C : Cx z q wC g fr lo) (j : Nat) (hk : wC.2.2.1 j = .inr (7, 11)) {v : Int32} (hd : decode q.1 pc = .ok (.putfield 118, 3)) (hq : q.2.2.1 = Rk10) (hp : pc + 3 = pc') (kk : Rt z q wC g out pc' lv st (s2 σ j 5 v) E) : Rt z q wC g out pc lv (.int v :: .ref (g.1 j) :: st) σ E := q_putI (ty := ty7) C j 5 (jCo hk) hk (by decide) (nn_7_5 hk) cC_7 ik7 tk7 nk7 rfl rfl rfl (by rw [hq]; exact lfC_FL_118) hd hp kk
theorem lfC_FL_124 : Cond.fieldLink Rk10 124 (Tk7 6).1 (Tk7 6).2.1 (Tk7 6).2.2.1 ∈ lw_g := mg1 75 rfl rfl
theorem nn_7_6 {j : Nat} (h : wC.2.2.1 j = .inr (7, 11)) : wC.2.2.2 j 6 = none := (by decide +kernel : ∀ j, j < 53 → wC.2.2.1 j = .inr (7, 11) → wC.2.2.2 j 6 = none) j (jCo h) h
theorem gC_FL_124 (C : Cx z q wC g fr lo) (j : Nat) (hk : wC.2.2.1 j = .inr (7, 11)) (hd : decode q.1 pc = .ok (.getfield 124, 3)) (hq : q.2.2.1 = Rk10) (hp : pc + 3 = pc') (kk : Rt z q wC g out pc' lv (.int (σ j 6) :: st) σ E) : Rt z q wC g out pc lv (.ref (g.1 j) :: st) σ E := q_getI C j 6 (jCo hk) hk (by decide) (nn_7_6 hk) cC_7 ik7 (by rw [hq]; exact lfC_FL_124) hd hp kk
theorem pC_FL_124 (C : Cx z q wC g fr lo) (j : Nat) (hk : wC.2.2.1 j = .inr (7, 11)) {v : Int32} (hd : decode q.1 pc = .ok (.putfield 124, 3)) (hq : q.2.2.1 = Rk10) (hp : pc + 3 = pc') (kk : Rt z q wC g out pc' lv st (s2 σ j 6 v) E) : Rt z q wC g out pc lv (.int v :: .ref (g.1 j) :: st) σ E := q_putI (ty := ty7) C j 6 (jCo hk) hk (by decide) (nn_7_6 hk) cC_7 ik7 tk7 nk7 rfl rfl rfl (by rw [hq]; exact lfC_FL_124) hd hp kk
theorem lfC_FL_127 : Cond.fieldLink Rk10 127 (Tk7 7).1 (Tk7 7).2.1 (Tk7 7).2.2.1 ∈ lw_g := mg1 79 rfl rfl
theorem nn_7_7 {j : Nat} (h : wC.2.2.1 j = .inr (7, 11)) : wC.2.2.2 j 7 = none := (by decide +kernel : ∀ j, j < 53 → wC.2.2.1 j = .inr (7, 11) → wC.2.2.2 j 7 = none) j (jCo h) h
theorem gC_FL_127 (C : Cx z q wC g fr lo) (j : Nat) (hk : wC.2.2.1 j = .inr (7, 11)) (hd : decode q.1 pc = .ok (.getfield 127, 3)) (hq : q.2.2.1 = Rk10) (hp : pc + 3 = pc') (kk : Rt z q wC g out pc' lv (.int (σ j 7) :: st) σ E) : Rt z q wC g out pc lv (.ref (g.1 j) :: st) σ E := q_getI C j 7 (jCo hk) hk (by decide) (nn_7_7 hk) cC_7 ik7 (by rw [hq]; exact lfC_FL_127) hd hp kk
theorem pC_FL_127 (C : Cx z q wC g fr lo) (j : Nat) (hk : wC.2.2.1 j = .inr (7, 11)) {v : Int32} (hd : decode q.1 pc = .ok (.putfield 127, 3)) (hq : q.2.2.1 = Rk10) (hp : pc + 3 = pc') (kk : Rt z q wC g out pc' lv st (s2 σ j 7 v) E) : Rt z q wC g out pc lv (.int v :: .ref (g.1 j) :: st) σ E := q_putI (ty := ty7) C j 7 (jCo hk) hk (by decide) (nn_7_7 hk) cC_7 ik7 tk7 nk7 rfl rfl rfl (by rw [hq]; exact lfC_FL_127) hd hp kk
theorem lfC_FL_130 : Cond.fieldLink Rk10 130 (Tk7 8).1 (Tk7 8).2.1 (Tk7 8).2.2.1 ∈ lw_g := mg1 82 rfl rfl
theorem nn_7_8 {j : Nat} (h : wC.2.2.1 j = .inr (7, 11)) : wC.2.2.2 j 8 = none := (by decide +kernel : ∀ j, j < 53 → wC.2.2.1 j = .inr (7, 11) → wC.2.2.2 j 8 = none) j (jCo h) h
theorem gC_FL_130 (C : Cx z q wC g fr lo) (j : Nat) (hk : wC.2.2.1 j = .inr (7, 11)) (hd : decode q.1 pc = .ok (.getfield 130, 3)) (hq : q.2.2.1 = Rk10) (hp : pc + 3 = pc') (kk : Rt z q wC g out pc' lv (.int (σ j 8) :: st) σ E) : Rt z q wC g out pc lv (.ref (g.1 j) :: st) σ E := q_getI C j 8 (jCo hk) hk (by decide) (nn_7_8 hk) cC_7 ik7 (by rw [hq]; exact lfC_FL_130) hd hp kk
theorem pC_FL_130 (C : Cx z q wC g fr lo) (j : Nat) (hk : wC.2.2.1 j = .inr (7, 11)) {v : Int32} (hd : decode q.1 pc = .ok (.putfield 130, 3)) (hq : q.2.2.1 = Rk10) (hp : pc + 3 = pc') (kk : Rt z q wC g out pc' lv st (s2 σ j 8 v) E) : Rt z q wC g out pc lv (.int v :: .ref (g.1 j) :: st) σ E := q_putI (ty := ty7) C j 8 (jCo hk) hk (by decide) (nn_7_8 hk) cC_7 ik7 tk7 nk7 rfl rfl rfl (by rw [hq]; exact lfC_FL_130) hd hp kk
theorem lfC_FL_133 : Cond.fieldLink Rk10 133 (Tk7 9).1 (Tk7 9).2.1 (Tk7 9).2.2.1 ∈ lw_g := mg1 86 rfl rfl
theorem nn_7_9 {j : Nat} (h : wC.2.2.1 j = .inr (7, 11)) : wC.2.2.2 j 9 = none := (by decide +kernel : ∀ j, j < 53 → wC.2.2.1 j = .inr (7, 11) → wC.2.2.2 j 9 = none) j (jCo h) h
theorem gC_FL_133 (C : Cx z q wC g fr lo) (j : Nat) (hk : wC.2.2.1 j = .inr (7, 11)) (hd : decode q.1 pc = .ok (.getfield 133, 3)) (hq : q.2.2.1 = Rk10) (hp : pc + 3 = pc') (kk : Rt z q wC g out pc' lv (.int (σ j 9) :: st) σ E) : Rt z q wC g out pc lv (.ref (g.1 j) :: st) σ E := q_getI C j 9 (jCo hk) hk (by decide) (nn_7_9 hk) cC_7 ik7 (by rw [hq]; exact lfC_FL_133) hd hp kk
theorem pC_FL_133 (C : Cx z q wC g fr lo) (j : Nat) (hk : wC.2.2.1 j = .inr (7, 11)) {v : Int32} (hd : decode q.1 pc = .ok (.putfield 133, 3)) (hq : q.2.2.1 = Rk10) (hp : pc + 3 = pc') (kk : Rt z q wC g out pc' lv st (s2 σ j 9 v) E) : Rt z q wC g out pc lv (.int v :: .ref (g.1 j) :: st) σ E := q_putI (ty := ty7) C j 9 (jCo hk) hk (by decide) (nn_7_9 hk) cC_7 ik7 tk7 nk7 rfl rfl rfl (by rw [hq]; exact lfC_FL_133) hd hp kk
theorem lfC_FL_136 : Cond.fieldLink Rk10 136 (Tk7 10).1 (Tk7 10).2.1 (Tk7 10).2.2.1 ∈ lw_g := mg1 89 rfl rfl
theorem nn_7_10 {j : Nat} (h : wC.2.2.1 j = .inr (7, 11)) : wC.2.2.2 j 10 = none := (by decide +kernel : ∀ j, j < 53 → wC.2.2.1 j = .inr (7, 11) → wC.2.2.2 j 10 = none) j (jCo h) h
theorem gC_FL_136 (C : Cx z q wC g fr lo) (j : Nat) (hk : wC.2.2.1 j = .inr (7, 11)) (hd : decode q.1 pc = .ok (.getfield 136, 3)) (hq : q.2.2.1 = Rk10) (hp : pc + 3 = pc') (kk : Rt z q wC g out pc' lv (.int (σ j 10) :: st) σ E) : Rt z q wC g out pc lv (.ref (g.1 j) :: st) σ E := q_getI C j 10 (jCo hk) hk (by decide) (nn_7_10 hk) cC_7 ik7 (by rw [hq]; exact lfC_FL_136) hd hp kk
theorem pC_FL_136 (C : Cx z q wC g fr lo) (j : Nat) (hk : wC.2.2.1 j = .inr (7, 11)) {v : Int32} (hd : decode q.1 pc = .ok (.putfield 136, 3)) (hq : q.2.2.1 = Rk10) (hp : pc + 3 = pc') (kk : Rt z q wC g out pc' lv st (s2 σ j 10 v) E) : Rt z q wC g out pc lv (.int v :: .ref (g.1 j) :: st) σ E := q_putI (ty := ty7) C j 10 (jCo hk) hk (by decide) (nn_7_10 hk) cC_7 ik7 tk7 nk7 rfl rfl rfl (by rw [hq]; exact lfC_FL_136) hd hp kk
theorem lfC_FL_144 : Cond.fieldLink Rk10 144 (Tk6 2).1 (Tk6 2).2.1 (Tk6 2).2.2.1 ∈ lw_g := mg1 124 rfl rfl
theorem gC_FL_144 (C : Cx z q wC g fr lo) (j r : Nat) (hk : wC.2.2.1 j = .inr (6, 8)) (hr : wC.2.2.2 j 2 = some r) (hd : decode q.1 pc = .ok (.getfield 144, 3)) (hq : q.2.2.1 = Rk10) (hp : pc + 3 = pc') (kk : Rt z q wC g out pc' lv (.ref (g.1 r) :: st) σ E) : Rt z q wC g out pc lv (.ref (g.1 j) :: st) σ E := q_getR C j 2 (jCo hk) hk (by decide) hr cC_6 ik6 (by rw [hq]; exact lfC_FL_144) hd hp kk
theorem lfC_FL_147 : Cond.fieldLink Rk10 147 (Tk6 4).1 (Tk6 4).2.1 (Tk6 4).2.2.1 ∈ lw_g := mg1 128 rfl rfl
theorem nn_6_4 {j : Nat} (h : wC.2.2.1 j = .inr (6, 8)) : wC.2.2.2 j 4 = none := (by decide +kernel : ∀ j, j < 53 → wC.2.2.1 j = .inr (6, 8) → wC.2.2.2 j 4 = none) j (jCo h) h
theorem gC_FL_147 (C : Cx z q wC g fr lo) (j : Nat) (hk : wC.2.2.1 j = .inr (6, 8)) (hd : decode q.1 pc = .ok (.getfield 147, 3)) (hq : q.2.2.1 = Rk10) (hp : pc + 3 = pc') (kk : Rt z q wC g out pc' lv (.int (σ j 4) :: st) σ E) : Rt z q wC g out pc lv (.ref (g.1 j) :: st) σ E := q_getI C j 4 (jCo hk) hk (by decide) (nn_6_4 hk) cC_6 ik6 (by rw [hq]; exact lfC_FL_147) hd hp kk
theorem lfC_FL_154 : Cond.fieldLink Rk10 154 (Tk3 1).1 (Tk3 1).2.1 (Tk3 1).2.2.1 ∈ lw_g := mg1 169 rfl rfl
theorem nn_3_1 {j : Nat} (h : wC.2.2.1 j = .inr (3, 4)) : wC.2.2.2 j 1 = none := (by decide +kernel : ∀ j, j < 53 → wC.2.2.1 j = .inr (3, 4) → wC.2.2.2 j 1 = none) j (jCo h) h
theorem gC_FL_154 (C : Cx z q wC g fr lo) (j : Nat) (hk : wC.2.2.1 j = .inr (3, 4)) (hd : decode q.1 pc = .ok (.getfield 154, 3)) (hq : q.2.2.1 = Rk10) (hp : pc + 3 = pc') (kk : Rt z q wC g out pc' lv (.int (σ j 1) :: st) σ E) : Rt z q wC g out pc lv (.ref (g.1 j) :: st) σ E := q_getI C j 1 (jCo hk) hk (by decide) (nn_3_1 hk) cC_3 ik3 (by rw [hq]; exact lfC_FL_154) hd hp kk
theorem lfC_FL_160 : Cond.fieldLink Rk10 160 (Tk3 2).1 (Tk3 2).2.1 (Tk3 2).2.2.1 ∈ lw_g := mg1 173 rfl rfl
theorem nn_3_2 {j : Nat} (h : wC.2.2.1 j = .inr (3, 4)) : wC.2.2.2 j 2 = none := (by decide +kernel : ∀ j, j < 53 → wC.2.2.1 j = .inr (3, 4) → wC.2.2.2 j 2 = none) j (jCo h) h
theorem gC_FL_160 (C : Cx z q wC g fr lo) (j : Nat) (hk : wC.2.2.1 j = .inr (3, 4)) (hd : decode q.1 pc = .ok (.getfield 160, 3)) (hq : q.2.2.1 = Rk10) (hp : pc + 3 = pc') (kk : Rt z q wC g out pc' lv (.int (σ j 2) :: st) σ E) : Rt z q wC g out pc lv (.ref (g.1 j) :: st) σ E := q_getI C j 2 (jCo hk) hk (by decide) (nn_3_2 hk) cC_3 ik3 (by rw [hq]; exact lfC_FL_160) hd hp kk
theorem lfC_FL_180 : Cond.fieldLink Rk10 180 (Tk3 0).1 (Tk3 0).2.1 (Tk3 0).2.2.1 ∈ lw_g := mg1 162 rfl rfl
theorem gC_FL_180 (C : Cx z q wC g fr lo) (j r : Nat) (hk : wC.2.2.1 j = .inr (3, 4)) (hr : wC.2.2.2 j 0 = some r) (hd : decode q.1 pc = .ok (.getfield 180, 3)) (hq : q.2.2.1 = Rk10) (hp : pc + 3 = pc') (kk : Rt z q wC g out pc' lv (.ref (g.1 r) :: st) σ E) : Rt z q wC g out pc lv (.ref (g.1 j) :: st) σ E := q_getR C j 0 (jCo hk) hk (by decide) hr cC_3 ik3 (by rw [hq]; exact lfC_FL_180) hd hp kk
theorem lfC_FL_195 : Cond.fieldLink Rk10 195 (Tk5 3).1 (Tk5 3).2.1 (Tk5 3).2.2.1 ∈ lw_g := mg2 123 rfl rfl
theorem nn_5_3 {j : Nat} (h : wC.2.2.1 j = .inr (5, 6)) : wC.2.2.2 j 3 = none := (by decide +kernel : ∀ j, j < 53 → wC.2.2.1 j = .inr (5, 6) → wC.2.2.2 j 3 = none) j (jCo h) h
theorem gC_FL_195 (C : Cx z q wC g fr lo) (j : Nat) (hk : wC.2.2.1 j = .inr (5, 6)) (hd : decode q.1 pc = .ok (.getfield 195, 3)) (hq : q.2.2.1 = Rk10) (hp : pc + 3 = pc') (kk : Rt z q wC g out pc' lv (.int (σ j 3) :: st) σ E) : Rt z q wC g out pc lv (.ref (g.1 j) :: st) σ E := q_getI C j 3 (jCo hk) hk (by decide) (nn_5_3 hk) cC_5 ik5 (by rw [hq]; exact lfC_FL_195) hd hp kk
theorem lfC_FL_198 : Cond.fieldLink Rk10 198 (Tk5 4).1 (Tk5 4).2.1 (Tk5 4).2.2.1 ∈ lw_g := mg2 125 rfl rfl
theorem nn_5_4 {j : Nat} (h : wC.2.2.1 j = .inr (5, 6)) : wC.2.2.2 j 4 = none := (by decide +kernel : ∀ j, j < 53 → wC.2.2.1 j = .inr (5, 6) → wC.2.2.2 j 4 = none) j (jCo h) h
theorem gC_FL_198 (C : Cx z q wC g fr lo) (j : Nat) (hk : wC.2.2.1 j = .inr (5, 6)) (hd : decode q.1 pc = .ok (.getfield 198, 3)) (hq : q.2.2.1 = Rk10) (hp : pc + 3 = pc') (kk : Rt z q wC g out pc' lv (.int (σ j 4) :: st) σ E) : Rt z q wC g out pc lv (.ref (g.1 j) :: st) σ E := q_getI C j 4 (jCo hk) hk (by decide) (nn_5_4 hk) cC_5 ik5 (by rw [hq]; exact lfC_FL_198) hd hp kk
theorem lfC_FL_201 : Cond.fieldLink Rk10 201 (Tk5 5).1 (Tk5 5).2.1 (Tk5 5).2.2.1 ∈ lw_g := mg2 127 rfl rfl
theorem nn_5_5 {j : Nat} (h : wC.2.2.1 j = .inr (5, 6)) : wC.2.2.2 j 5 = none := (by decide +kernel : ∀ j, j < 53 → wC.2.2.1 j = .inr (5, 6) → wC.2.2.2 j 5 = none) j (jCo h) h
theorem gC_FL_201 (C : Cx z q wC g fr lo) (j : Nat) (hk : wC.2.2.1 j = .inr (5, 6)) (hd : decode q.1 pc = .ok (.getfield 201, 3)) (hq : q.2.2.1 = Rk10) (hp : pc + 3 = pc') (kk : Rt z q wC g out pc' lv (.int (σ j 5) :: st) σ E) : Rt z q wC g out pc lv (.ref (g.1 j) :: st) σ E := q_getI C j 5 (jCo hk) hk (by decide) (nn_5_5 hk) cC_5 ik5 (by rw [hq]; exact lfC_FL_201) hd hp kk
theorem lfC_FL_208 : Cond.fieldLink Rk10 208 (Tk0 3).1 (Tk0 3).2.1 (Tk0 3).2.2.1 ∈ lw_g := mg2 102 rfl rfl
theorem nn_0_3 {j : Nat} (h : wC.2.2.1 j = .inr (0, 4)) : wC.2.2.2 j 3 = none := (by decide +kernel : ∀ j, j < 53 → wC.2.2.1 j = .inr (0, 4) → wC.2.2.2 j 3 = none) j (jCo h) h
theorem gC_FL_208 (C : Cx z q wC g fr lo) (j : Nat) (hk : wC.2.2.1 j = .inr (0, 4)) (hd : decode q.1 pc = .ok (.getfield 208, 3)) (hq : q.2.2.1 = Rk10) (hp : pc + 3 = pc') (kk : Rt z q wC g out pc' lv (.int (σ j 3) :: st) σ E) : Rt z q wC g out pc lv (.ref (g.1 j) :: st) σ E := q_getI C j 3 (jCo hk) hk (by decide) (nn_0_3 hk) cC_0 ik0 (by rw [hq]; exact lfC_FL_208) hd hp kk
theorem pC_FL_208 (C : Cx z q wC g fr lo) (j : Nat) (hk : wC.2.2.1 j = .inr (0, 4)) {v : Int32} (hd : decode q.1 pc = .ok (.putfield 208, 3)) (hq : q.2.2.1 = Rk10) (hp : pc + 3 = pc') (kk : Rt z q wC g out pc' lv st (s2 σ j 3 v) E) : Rt z q wC g out pc lv (.int v :: .ref (g.1 j) :: st) σ E := q_putI (ty := ty0) C j 3 (jCo hk) hk (by decide) (nn_0_3 hk) cC_0 ik0 tk0 nk0 rfl rfl rfl (by rw [hq]; exact lfC_FL_208) hd hp kk
theorem lfC_FL_215 : Cond.fieldLink Rk10 215 (Tk1 5).1 (Tk1 5).2.1 (Tk1 5).2.2.1 ∈ lw_g := mg2 76 rfl rfl
theorem nn_1_5 {j : Nat} (h : wC.2.2.1 j = .inr (1, 6)) : wC.2.2.2 j 5 = none := (by decide +kernel : ∀ j, j < 53 → wC.2.2.1 j = .inr (1, 6) → wC.2.2.2 j 5 = none) j (jCo h) h
theorem gC_FL_215 (C : Cx z q wC g fr lo) (j : Nat) (hk : wC.2.2.1 j = .inr (1, 6)) (hd : decode q.1 pc = .ok (.getfield 215, 3)) (hq : q.2.2.1 = Rk10) (hp : pc + 3 = pc') (kk : Rt z q wC g out pc' lv (.int (σ j 5) :: st) σ E) : Rt z q wC g out pc lv (.ref (g.1 j) :: st) σ E := q_getI C j 5 (jCo hk) hk (by decide) (nn_1_5 hk) cC_1 ik1 (by rw [hq]; exact lfC_FL_215) hd hp kk
theorem pC_FL_215 (C : Cx z q wC g fr lo) (j : Nat) (hk : wC.2.2.1 j = .inr (1, 6)) {v : Int32} (hd : decode q.1 pc = .ok (.putfield 215, 3)) (hb : v &&& 1 = v) (hq : q.2.2.1 = Rk10) (hp : pc + 3 = pc') (kk : Rt z q wC g out pc' lv st (s2 σ j 5 v) E) : Rt z q wC g out pc lv (.int v :: .ref (g.1 j) :: st) σ E := q_putI (ty := ty1) C j 5 (jCo hk) hk (by decide) (nn_1_5 hk) cC_1 ik1 tk1 nk1 rfl (by show Value.int (v &&& 1) = .int v; rw [hb]) (fitsb hb) (by rw [hq]; exact lfC_FL_215) hd hp kk
theorem lfC_FL_218 : Cond.fieldLink Rk10 218 (Tk3 3).1 (Tk3 3).2.1 (Tk3 3).2.2.1 ∈ lw_g := mg1 176 rfl rfl
theorem nn_3_3 {j : Nat} (h : wC.2.2.1 j = .inr (3, 4)) : wC.2.2.2 j 3 = none := (by decide +kernel : ∀ j, j < 53 → wC.2.2.1 j = .inr (3, 4) → wC.2.2.2 j 3 = none) j (jCo h) h
theorem gC_FL_218 (C : Cx z q wC g fr lo) (j : Nat) (hk : wC.2.2.1 j = .inr (3, 4)) (hd : decode q.1 pc = .ok (.getfield 218, 3)) (hq : q.2.2.1 = Rk10) (hp : pc + 3 = pc') (kk : Rt z q wC g out pc' lv (.int (σ j 3) :: st) σ E) : Rt z q wC g out pc lv (.ref (g.1 j) :: st) σ E := q_getI C j 3 (jCo hk) hk (by decide) (nn_3_3 hk) cC_3 ik3 (by rw [hq]; exact lfC_FL_218) hd hp kk
theorem pC_FL_218 (C : Cx z q wC g fr lo) (j : Nat) (hk : wC.2.2.1 j = .inr (3, 4)) {v : Int32} (hd : decode q.1 pc = .ok (.putfield 218, 3)) (hb : v &&& 1 = v) (hq : q.2.2.1 = Rk10) (hp : pc + 3 = pc') (kk : Rt z q wC g out pc' lv st (s2 σ j 3 v) E) : Rt z q wC g out pc lv (.int v :: .ref (g.1 j) :: st) σ E := q_putI (ty := ty3) C j 3 (jCo hk) hk (by decide) (nn_3_3 hk) cC_3 ik3 tk3 nk3 rfl (by show Value.int (v &&& 1) = .int v; rw [hb]) (fitsb hb) (by rw [hq]; exact lfC_FL_218) hd hp kk
theorem lfC_FL_221 : Cond.fieldLink Rk10 221 (Tk5 2).1 (Tk5 2).2.1 (Tk5 2).2.2.1 ∈ lw_g := mg2 121 rfl rfl
theorem nn_5_2 {j : Nat} (h : wC.2.2.1 j = .inr (5, 6)) : wC.2.2.2 j 2 = none := (by decide +kernel : ∀ j, j < 53 → wC.2.2.1 j = .inr (5, 6) → wC.2.2.2 j 2 = none) j (jCo h) h
theorem gC_FL_221 (C : Cx z q wC g fr lo) (j : Nat) (hk : wC.2.2.1 j = .inr (5, 6)) (hd : decode q.1 pc = .ok (.getfield 221, 3)) (hq : q.2.2.1 = Rk10) (hp : pc + 3 = pc') (kk : Rt z q wC g out pc' lv (.int (σ j 2) :: st) σ E) : Rt z q wC g out pc lv (.ref (g.1 j) :: st) σ E := q_getI C j 2 (jCo hk) hk (by decide) (nn_5_2 hk) cC_5 ik5 (by rw [hq]; exact lfC_FL_221) hd hp kk
theorem pC_FL_221 (C : Cx z q wC g fr lo) (j : Nat) (hk : wC.2.2.1 j = .inr (5, 6)) {v : Int32} (hd : decode q.1 pc = .ok (.putfield 221, 3)) (hq : q.2.2.1 = Rk10) (hp : pc + 3 = pc') (kk : Rt z q wC g out pc' lv st (s2 σ j 2 v) E) : Rt z q wC g out pc lv (.int v :: .ref (g.1 j) :: st) σ E := q_putI (ty := ty5) C j 2 (jCo hk) hk (by decide) (nn_5_2 hk) cC_5 ik5 tk5 nk5 rfl rfl rfl (by rw [hq]; exact lfC_FL_221) hd hp kk
theorem lfC_FL_247 : Cond.fieldLink Rk10 247 (Tk1 1).1 (Tk1 1).2.1 (Tk1 1).2.2.1 ∈ lw_g := mg2 68 rfl rfl
theorem gC_FL_247 (C : Cx z q wC g fr lo) (j r : Nat) (hk : wC.2.2.1 j = .inr (1, 6)) (hr : wC.2.2.2 j 1 = some r) (hd : decode q.1 pc = .ok (.getfield 247, 3)) (hq : q.2.2.1 = Rk10) (hp : pc + 3 = pc') (kk : Rt z q wC g out pc' lv (.ref (g.1 r) :: st) σ E) : Rt z q wC g out pc lv (.ref (g.1 j) :: st) σ E := q_getR C j 1 (jCo hk) hk (by decide) hr cC_1 ik1 (by rw [hq]; exact lfC_FL_247) hd hp kk
theorem lfC_FL_275 : Cond.fieldLink Rk10 275 (Tk1 3).1 (Tk1 3).2.1 (Tk1 3).2.2.1 ∈ lw_g := mg2 72 rfl rfl
theorem gC_FL_275 (C : Cx z q wC g fr lo) (j r : Nat) (hk : wC.2.2.1 j = .inr (1, 6)) (hr : wC.2.2.2 j 3 = some r) (hd : decode q.1 pc = .ok (.getfield 275, 3)) (hq : q.2.2.1 = Rk10) (hp : pc + 3 = pc') (kk : Rt z q wC g out pc' lv (.ref (g.1 r) :: st) σ E) : Rt z q wC g out pc lv (.ref (g.1 j) :: st) σ E := q_getR C j 3 (jCo hk) hk (by decide) hr cC_1 ik1 (by rw [hq]; exact lfC_FL_275) hd hp kk
theorem lfC_FL_279 : Cond.fieldLink Rk10 279 (Tk2 5).1 (Tk2 5).2.1 (Tk2 5).2.2.1 ∈ lw_g := mg2 20 rfl rfl
theorem nn_2_5 {j : Nat} (h : wC.2.2.1 j = .inr (2, 11)) : wC.2.2.2 j 5 = none := (by decide +kernel : ∀ j, j < 53 → wC.2.2.1 j = .inr (2, 11) → wC.2.2.2 j 5 = none) j (jCo h) h
theorem gC_FL_279 (C : Cx z q wC g fr lo) (j : Nat) (hk : wC.2.2.1 j = .inr (2, 11)) (hd : decode q.1 pc = .ok (.getfield 279, 3)) (hq : q.2.2.1 = Rk10) (hp : pc + 3 = pc') (kk : Rt z q wC g out pc' lv (.int (σ j 5) :: st) σ E) : Rt z q wC g out pc lv (.ref (g.1 j) :: st) σ E := q_getI C j 5 (jCo hk) hk (by decide) (nn_2_5 hk) cC_2 ik2 (by rw [hq]; exact lfC_FL_279) hd hp kk
theorem lfC_FL_285 : Cond.fieldLink Rk10 285 (Tk1 4).1 (Tk1 4).2.1 (Tk1 4).2.2.1 ∈ lw_g := mg2 74 rfl rfl
theorem gC_FL_285 (C : Cx z q wC g fr lo) (j r : Nat) (hk : wC.2.2.1 j = .inr (1, 6)) (hr : wC.2.2.2 j 4 = some r) (hd : decode q.1 pc = .ok (.getfield 285, 3)) (hq : q.2.2.1 = Rk10) (hp : pc + 3 = pc') (kk : Rt z q wC g out pc' lv (.ref (g.1 r) :: st) σ E) : Rt z q wC g out pc lv (.ref (g.1 j) :: st) σ E := q_getR C j 4 (jCo hk) hk (by decide) hr cC_1 ik1 (by rw [hq]; exact lfC_FL_285) hd hp kk
theorem lfC_FL_303 : Cond.fieldLink Rk10 303 (Tk2 4).1 (Tk2 4).2.1 (Tk2 4).2.2.1 ∈ lw_g := mg2 17 rfl rfl
theorem gC_FL_303 (C : Cx z q wC g fr lo) (j r : Nat) (hk : wC.2.2.1 j = .inr (2, 11)) (hr : wC.2.2.2 j 4 = some r) (hd : decode q.1 pc = .ok (.getfield 303, 3)) (hq : q.2.2.1 = Rk10) (hp : pc + 3 = pc') (kk : Rt z q wC g out pc' lv (.ref (g.1 r) :: st) σ E) : Rt z q wC g out pc lv (.ref (g.1 j) :: st) σ E := q_getR C j 4 (jCo hk) hk (by decide) hr cC_2 ik2 (by rw [hq]; exact lfC_FL_303) hd hp kk
theorem lfC_Hi_16 : Cond.fieldLink Rk0 16 (Tk0 0).1 (Tk0 0).2.1 (Tk0 0).2.2.1 ∈ lw_g := mg2 98 rfl rfl
theorem gC_Hi_16 (C : Cx z q wC g fr lo) (j r : Nat) (hk : wC.2.2.1 j = .inr (0, 4)) (hr : wC.2.2.2 j 0 = some r) (hd : decode q.1 pc = .ok (.getfield 16, 3)) (hq : q.2.2.1 = Rk0) (hp : pc + 3 = pc') (kk : Rt z q wC g out pc' lv (.ref (g.1 r) :: st) σ E) : Rt z q wC g out pc lv (.ref (g.1 j) :: st) σ E := q_getR C j 0 (jCo hk) hk (by decide) hr cC_0 ik0 (by rw [hq]; exact lfC_Hi_16) hd hp kk
theorem lfC_Hi_22 : Cond.fieldLink Rk0 22 (Tk0 1).1 (Tk0 1).2.1 (Tk0 1).2.2.1 ∈ lw_g := mg2 99 rfl rfl
theorem gC_Hi_22 (C : Cx z q wC g fr lo) (j r : Nat) (hk : wC.2.2.1 j = .inr (0, 4)) (hr : wC.2.2.2 j 1 = some r) (hd : decode q.1 pc = .ok (.getfield 22, 3)) (hq : q.2.2.1 = Rk0) (hp : pc + 3 = pc') (kk : Rt z q wC g out pc' lv (.ref (g.1 r) :: st) σ E) : Rt z q wC g out pc lv (.ref (g.1 j) :: st) σ E := q_getR C j 1 (jCo hk) hk (by decide) hr cC_0 ik0 (by rw [hq]; exact lfC_Hi_22) hd hp kk
theorem lfC_Hi_25 : Cond.fieldLink Rk0 25 (Tk0 2).1 (Tk0 2).2.1 (Tk0 2).2.2.1 ∈ lw_g := mg2 100 rfl rfl
theorem nn_0_2 {j : Nat} (h : wC.2.2.1 j = .inr (0, 4)) : wC.2.2.2 j 2 = none := (by decide +kernel : ∀ j, j < 53 → wC.2.2.1 j = .inr (0, 4) → wC.2.2.2 j 2 = none) j (jCo h) h
theorem gC_Hi_25 (C : Cx z q wC g fr lo) (j : Nat) (hk : wC.2.2.1 j = .inr (0, 4)) (hd : decode q.1 pc = .ok (.getfield 25, 3)) (hq : q.2.2.1 = Rk0) (hp : pc + 3 = pc') (kk : Rt z q wC g out pc' lv (.int (σ j 2) :: st) σ E) : Rt z q wC g out pc lv (.ref (g.1 j) :: st) σ E := q_getI C j 2 (jCo hk) hk (by decide) (nn_0_2 hk) cC_0 ik0 (by rw [hq]; exact lfC_Hi_25) hd hp kk
theorem pC_Hi_25 (C : Cx z q wC g fr lo) (j : Nat) (hk : wC.2.2.1 j = .inr (0, 4)) {v : Int32} (hd : decode q.1 pc = .ok (.putfield 25, 3)) (hq : q.2.2.1 = Rk0) (hp : pc + 3 = pc') (kk : Rt z q wC g out pc' lv st (s2 σ j 2 v) E) : Rt z q wC g out pc lv (.int v :: .ref (g.1 j) :: st) σ E := q_putI (ty := ty0) C j 2 (jCo hk) hk (by decide) (nn_0_2 hk) cC_0 ik0 tk0 nk0 rfl rfl rfl (by rw [hq]; exact lfC_Hi_25) hd hp kk
theorem lfC_Hi_29 : Cond.fieldLink Rk0 29 (Tk0 3).1 (Tk0 3).2.1 (Tk0 3).2.2.1 ∈ lw_g := mg2 101 rfl rfl
theorem gC_Hi_29 (C : Cx z q wC g fr lo) (j : Nat) (hk : wC.2.2.1 j = .inr (0, 4)) (hd : decode q.1 pc = .ok (.getfield 29, 3)) (hq : q.2.2.1 = Rk0) (hp : pc + 3 = pc') (kk : Rt z q wC g out pc' lv (.int (σ j 3) :: st) σ E) : Rt z q wC g out pc lv (.ref (g.1 j) :: st) σ E := q_getI C j 3 (jCo hk) hk (by decide) (nn_0_3 hk) cC_0 ik0 (by rw [hq]; exact lfC_Hi_29) hd hp kk
theorem pC_Hi_29 (C : Cx z q wC g fr lo) (j : Nat) (hk : wC.2.2.1 j = .inr (0, 4)) {v : Int32} (hd : decode q.1 pc = .ok (.putfield 29, 3)) (hq : q.2.2.1 = Rk0) (hp : pc + 3 = pc') (kk : Rt z q wC g out pc' lv st (s2 σ j 3 v) E) : Rt z q wC g out pc lv (.int v :: .ref (g.1 j) :: st) σ E := q_putI (ty := ty0) C j 3 (jCo hk) hk (by decide) (nn_0_3 hk) cC_0 ik0 tk0 nk0 rfl rfl rfl (by rw [hq]; exact lfC_Hi_29) hd hp kk
theorem lfC_Hi_36 : Cond.fieldLink Rk0 36 (Tk3 1).1 (Tk3 1).2.1 (Tk3 1).2.2.1 ∈ lw_g := mg1 167 rfl rfl
theorem gC_Hi_36 (C : Cx z q wC g fr lo) (j : Nat) (hk : wC.2.2.1 j = .inr (3, 4)) (hd : decode q.1 pc = .ok (.getfield 36, 3)) (hq : q.2.2.1 = Rk0) (hp : pc + 3 = pc') (kk : Rt z q wC g out pc' lv (.int (σ j 1) :: st) σ E) : Rt z q wC g out pc lv (.ref (g.1 j) :: st) σ E := q_getI C j 1 (jCo hk) hk (by decide) (nn_3_1 hk) cC_3 ik3 (by rw [hq]; exact lfC_Hi_36) hd hp kk
theorem pC_Hi_36 (C : Cx z q wC g fr lo) (j : Nat) (hk : wC.2.2.1 j = .inr (3, 4)) {v : Int32} (hd : decode q.1 pc = .ok (.putfield 36, 3)) (hq : q.2.2.1 = Rk0) (hp : pc + 3 = pc') (kk : Rt z q wC g out pc' lv st (s2 σ j 1 v) E) : Rt z q wC g out pc lv (.int v :: .ref (g.1 j) :: st) σ E := q_putI (ty := ty3) C j 1 (jCo hk) hk (by decide) (nn_3_1 hk) cC_3 ik3 tk3 nk3 rfl rfl rfl (by rw [hq]; exact lfC_Hi_36) hd hp kk
theorem lfC_Hi_39 : Cond.fieldLink Rk0 39 (Tk3 2).1 (Tk3 2).2.1 (Tk3 2).2.2.1 ∈ lw_g := mg1 172 rfl rfl
theorem gC_Hi_39 (C : Cx z q wC g fr lo) (j : Nat) (hk : wC.2.2.1 j = .inr (3, 4)) (hd : decode q.1 pc = .ok (.getfield 39, 3)) (hq : q.2.2.1 = Rk0) (hp : pc + 3 = pc') (kk : Rt z q wC g out pc' lv (.int (σ j 2) :: st) σ E) : Rt z q wC g out pc lv (.ref (g.1 j) :: st) σ E := q_getI C j 2 (jCo hk) hk (by decide) (nn_3_2 hk) cC_3 ik3 (by rw [hq]; exact lfC_Hi_39) hd hp kk
theorem pC_Hi_39 (C : Cx z q wC g fr lo) (j : Nat) (hk : wC.2.2.1 j = .inr (3, 4)) {v : Int32} (hd : decode q.1 pc = .ok (.putfield 39, 3)) (hq : q.2.2.1 = Rk0) (hp : pc + 3 = pc') (kk : Rt z q wC g out pc' lv st (s2 σ j 2 v) E) : Rt z q wC g out pc lv (.int v :: .ref (g.1 j) :: st) σ E := q_putI (ty := ty3) C j 2 (jCo hk) hk (by decide) (nn_3_2 hk) cC_3 ik3 tk3 nk3 rfl rfl rfl (by rw [hq]; exact lfC_Hi_39) hd hp kk
theorem lfC_Hi_42 : Cond.fieldLink Rk0 42 (Tk3 3).1 (Tk3 3).2.1 (Tk3 3).2.2.1 ∈ lw_g := mg1 175 rfl rfl
theorem gC_Hi_42 (C : Cx z q wC g fr lo) (j : Nat) (hk : wC.2.2.1 j = .inr (3, 4)) (hd : decode q.1 pc = .ok (.getfield 42, 3)) (hq : q.2.2.1 = Rk0) (hp : pc + 3 = pc') (kk : Rt z q wC g out pc' lv (.int (σ j 3) :: st) σ E) : Rt z q wC g out pc lv (.ref (g.1 j) :: st) σ E := q_getI C j 3 (jCo hk) hk (by decide) (nn_3_3 hk) cC_3 ik3 (by rw [hq]; exact lfC_Hi_42) hd hp kk
theorem pC_Hi_42 (C : Cx z q wC g fr lo) (j : Nat) (hk : wC.2.2.1 j = .inr (3, 4)) {v : Int32} (hd : decode q.1 pc = .ok (.putfield 42, 3)) (hb : v &&& 1 = v) (hq : q.2.2.1 = Rk0) (hp : pc + 3 = pc') (kk : Rt z q wC g out pc' lv st (s2 σ j 3 v) E) : Rt z q wC g out pc lv (.int v :: .ref (g.1 j) :: st) σ E := q_putI (ty := ty3) C j 3 (jCo hk) hk (by decide) (nn_3_3 hk) cC_3 ik3 tk3 nk3 rfl (by show Value.int (v &&& 1) = .int v; rw [hb]) (fitsb hb) (by rw [hq]; exact lfC_Hi_42) hd hp kk
theorem lfC_Hi_46 : Cond.fieldLink Rk0 46 (Tk3 0).1 (Tk3 0).2.1 (Tk3 0).2.2.1 ∈ lw_g := mg1 158 rfl rfl
theorem gC_Hi_46 (C : Cx z q wC g fr lo) (j r : Nat) (hk : wC.2.2.1 j = .inr (3, 4)) (hr : wC.2.2.2 j 0 = some r) (hd : decode q.1 pc = .ok (.getfield 46, 3)) (hq : q.2.2.1 = Rk0) (hp : pc + 3 = pc') (kk : Rt z q wC g out pc' lv (.ref (g.1 r) :: st) σ E) : Rt z q wC g out pc lv (.ref (g.1 j) :: st) σ E := q_getR C j 0 (jCo hk) hk (by decide) hr cC_3 ik3 (by rw [hq]; exact lfC_Hi_46) hd hp kk
theorem lfC_Pa_9 : Cond.fieldLink Rk1 9 (Tk1 5).1 (Tk1 5).2.1 (Tk1 5).2.2.1 ∈ lw_g := mg2 75 rfl rfl
theorem gC_Pa_9 (C : Cx z q wC g fr lo) (j : Nat) (hk : wC.2.2.1 j = .inr (1, 6)) (hd : decode q.1 pc = .ok (.getfield 9, 3)) (hq : q.2.2.1 = Rk1) (hp : pc + 3 = pc') (kk : Rt z q wC g out pc' lv (.int (σ j 5) :: st) σ E) : Rt z q wC g out pc lv (.ref (g.1 j) :: st) σ E := q_getI C j 5 (jCo hk) hk (by decide) (nn_1_5 hk) cC_1 ik1 (by rw [hq]; exact lfC_Pa_9) hd hp kk
theorem pC_Pa_9 (C : Cx z q wC g fr lo) (j : Nat) (hk : wC.2.2.1 j = .inr (1, 6)) {v : Int32} (hd : decode q.1 pc = .ok (.putfield 9, 3)) (hb : v &&& 1 = v) (hq : q.2.2.1 = Rk1) (hp : pc + 3 = pc') (kk : Rt z q wC g out pc' lv st (s2 σ j 5 v) E) : Rt z q wC g out pc lv (.int v :: .ref (g.1 j) :: st) σ E := q_putI (ty := ty1) C j 5 (jCo hk) hk (by decide) (nn_1_5 hk) cC_1 ik1 tk1 nk1 rfl (by show Value.int (v &&& 1) = .int v; rw [hb]) (fitsb hb) (by rw [hq]; exact lfC_Pa_9) hd hp kk
theorem lfC_Pa_15 : Cond.fieldLink Rk1 15 (Tk1 0).1 (Tk1 0).2.1 (Tk1 0).2.2.1 ∈ lw_g := mg2 65 rfl rfl
theorem gC_Pa_15 (C : Cx z q wC g fr lo) (j r : Nat) (hk : wC.2.2.1 j = .inr (1, 6)) (hr : wC.2.2.2 j 0 = some r) (hd : decode q.1 pc = .ok (.getfield 15, 3)) (hq : q.2.2.1 = Rk1) (hp : pc + 3 = pc') (kk : Rt z q wC g out pc' lv (.ref (g.1 r) :: st) σ E) : Rt z q wC g out pc lv (.ref (g.1 j) :: st) σ E := q_getR C j 0 (jCo hk) hk (by decide) hr cC_1 ik1 (by rw [hq]; exact lfC_Pa_15) hd hp kk
theorem lfC_Pa_24 : Cond.fieldLink Rk1 24 (Tk1 1).1 (Tk1 1).2.1 (Tk1 1).2.2.1 ∈ lw_g := mg2 66 rfl rfl
theorem gC_Pa_24 (C : Cx z q wC g fr lo) (j r : Nat) (hk : wC.2.2.1 j = .inr (1, 6)) (hr : wC.2.2.2 j 1 = some r) (hd : decode q.1 pc = .ok (.getfield 24, 3)) (hq : q.2.2.1 = Rk1) (hp : pc + 3 = pc') (kk : Rt z q wC g out pc' lv (.ref (g.1 r) :: st) σ E) : Rt z q wC g out pc lv (.ref (g.1 j) :: st) σ E := q_getR C j 1 (jCo hk) hk (by decide) hr cC_1 ik1 (by rw [hq]; exact lfC_Pa_24) hd hp kk
theorem lfC_Pa_33 : Cond.fieldLink Rk1 33 (Tk1 2).1 (Tk1 2).2.1 (Tk1 2).2.2.1 ∈ lw_g := mg2 69 rfl rfl
theorem gC_Pa_33 (C : Cx z q wC g fr lo) (j r : Nat) (hk : wC.2.2.1 j = .inr (1, 6)) (hr : wC.2.2.2 j 2 = some r) (hd : decode q.1 pc = .ok (.getfield 33, 3)) (hq : q.2.2.1 = Rk1) (hp : pc + 3 = pc') (kk : Rt z q wC g out pc' lv (.ref (g.1 r) :: st) σ E) : Rt z q wC g out pc lv (.ref (g.1 j) :: st) σ E := q_getR C j 2 (jCo hk) hk (by decide) hr cC_1 ik1 (by rw [hq]; exact lfC_Pa_33) hd hp kk
theorem lfC_Pa_42 : Cond.fieldLink Rk1 42 (Tk1 3).1 (Tk1 3).2.1 (Tk1 3).2.2.1 ∈ lw_g := mg2 70 rfl rfl
theorem gC_Pa_42 (C : Cx z q wC g fr lo) (j r : Nat) (hk : wC.2.2.1 j = .inr (1, 6)) (hr : wC.2.2.2 j 3 = some r) (hd : decode q.1 pc = .ok (.getfield 42, 3)) (hq : q.2.2.1 = Rk1) (hp : pc + 3 = pc') (kk : Rt z q wC g out pc' lv (.ref (g.1 r) :: st) σ E) : Rt z q wC g out pc lv (.ref (g.1 j) :: st) σ E := q_getR C j 3 (jCo hk) hk (by decide) hr cC_1 ik1 (by rw [hq]; exact lfC_Pa_42) hd hp kk
theorem lfC_Pa_51 : Cond.fieldLink Rk1 51 (Tk1 4).1 (Tk1 4).2.1 (Tk1 4).2.2.1 ∈ lw_g := mg2 73 rfl rfl
theorem gC_Pa_51 (C : Cx z q wC g fr lo) (j r : Nat) (hk : wC.2.2.1 j = .inr (1, 6)) (hr : wC.2.2.2 j 4 = some r) (hd : decode q.1 pc = .ok (.getfield 51, 3)) (hq : q.2.2.1 = Rk1) (hp : pc + 3 = pc') (kk : Rt z q wC g out pc' lv (.ref (g.1 r) :: st) σ E) : Rt z q wC g out pc lv (.ref (g.1 j) :: st) σ E := q_getR C j 4 (jCo hk) hk (by decide) hr cC_1 ik1 (by rw [hq]; exact lfC_Pa_51) hd hp kk
theorem lfC_Pa_58 : Cond.fieldLink Rk1 58 (Tk3 1).1 (Tk3 1).2.1 (Tk3 1).2.2.1 ∈ lw_g := mg1 166 rfl rfl
theorem gC_Pa_58 (C : Cx z q wC g fr lo) (j : Nat) (hk : wC.2.2.1 j = .inr (3, 4)) (hd : decode q.1 pc = .ok (.getfield 58, 3)) (hq : q.2.2.1 = Rk1) (hp : pc + 3 = pc') (kk : Rt z q wC g out pc' lv (.int (σ j 1) :: st) σ E) : Rt z q wC g out pc lv (.ref (g.1 j) :: st) σ E := q_getI C j 1 (jCo hk) hk (by decide) (nn_3_1 hk) cC_3 ik3 (by rw [hq]; exact lfC_Pa_58) hd hp kk
theorem lfC_Pa_68 : Cond.fieldLink Rk1 68 (Tk9 4).1 (Tk9 4).2.1 (Tk9 4).2.2.1 ∈ lw_g := mg1 210 rfl rfl
theorem nn_9_4 {j : Nat} (h : wC.2.2.1 j = .inr (9, 12)) : wC.2.2.2 j 4 = none := (by decide +kernel : ∀ j, j < 53 → wC.2.2.1 j = .inr (9, 12) → wC.2.2.2 j 4 = none) j (jCo h) h
theorem gC_Pa_68 (C : Cx z q wC g fr lo) (j : Nat) (hk : wC.2.2.1 j = .inr (9, 12)) (hd : decode q.1 pc = .ok (.getfield 68, 3)) (hq : q.2.2.1 = Rk1) (hp : pc + 3 = pc') (kk : Rt z q wC g out pc' lv (.int (σ j 4) :: st) σ E) : Rt z q wC g out pc lv (.ref (g.1 j) :: st) σ E := q_getI C j 4 (jCo hk) hk (by decide) (nn_9_4 hk) cC_9 ik9 (by rw [hq]; exact lfC_Pa_68) hd hp kk
theorem lfC_Pa_76 : Cond.fieldLink Rk1 76 (Tk9 3).1 (Tk9 3).2.1 (Tk9 3).2.2.1 ∈ lw_g := mg1 208 rfl rfl
theorem gC_Pa_76 (C : Cx z q wC g fr lo) (j r : Nat) (hk : wC.2.2.1 j = .inr (9, 12)) (hr : wC.2.2.2 j 3 = some r) (hd : decode q.1 pc = .ok (.getfield 76, 3)) (hq : q.2.2.1 = Rk1) (hp : pc + 3 = pc') (kk : Rt z q wC g out pc' lv (.ref (g.1 r) :: st) σ E) : Rt z q wC g out pc lv (.ref (g.1 j) :: st) σ E := q_getR C j 3 (jCo hk) hk (by decide) hr cC_9 ik9 (by rw [hq]; exact lfC_Pa_76) hd hp kk
theorem lfC_Pc_9 : Cond.fieldLink Rk2 9 (Tk2 5).1 (Tk2 5).2.1 (Tk2 5).2.2.1 ∈ lw_g := mg2 18 rfl rfl
theorem gC_Pc_9 (C : Cx z q wC g fr lo) (j : Nat) (hk : wC.2.2.1 j = .inr (2, 11)) (hd : decode q.1 pc = .ok (.getfield 9, 3)) (hq : q.2.2.1 = Rk2) (hp : pc + 3 = pc') (kk : Rt z q wC g out pc' lv (.int (σ j 5) :: st) σ E) : Rt z q wC g out pc lv (.ref (g.1 j) :: st) σ E := q_getI C j 5 (jCo hk) hk (by decide) (nn_2_5 hk) cC_2 ik2 (by rw [hq]; exact lfC_Pc_9) hd hp kk
theorem pC_Pc_9 (C : Cx z q wC g fr lo) (j : Nat) (hk : wC.2.2.1 j = .inr (2, 11)) {v : Int32} (hd : decode q.1 pc = .ok (.putfield 9, 3)) (hq : q.2.2.1 = Rk2) (hp : pc + 3 = pc') (kk : Rt z q wC g out pc' lv st (s2 σ j 5 v) E) : Rt z q wC g out pc lv (.int v :: .ref (g.1 j) :: st) σ E := q_putI (ty := ty2) C j 5 (jCo hk) hk (by decide) (nn_2_5 hk) cC_2 ik2 tk2 nk2 rfl rfl rfl (by rw [hq]; exact lfC_Pc_9) hd hp kk
theorem lfC_Pc_15 : Cond.fieldLink Rk2 15 (Tk2 6).1 (Tk2 6).2.1 (Tk2 6).2.2.1 ∈ lw_g := mg2 21 rfl rfl
theorem nn_2_6 {j : Nat} (h : wC.2.2.1 j = .inr (2, 11)) : wC.2.2.2 j 6 = none := (by decide +kernel : ∀ j, j < 53 → wC.2.2.1 j = .inr (2, 11) → wC.2.2.2 j 6 = none) j (jCo h) h
theorem gC_Pc_15 (C : Cx z q wC g fr lo) (j : Nat) (hk : wC.2.2.1 j = .inr (2, 11)) (hd : decode q.1 pc = .ok (.getfield 15, 3)) (hq : q.2.2.1 = Rk2) (hp : pc + 3 = pc') (kk : Rt z q wC g out pc' lv (.int (σ j 6) :: st) σ E) : Rt z q wC g out pc lv (.ref (g.1 j) :: st) σ E := q_getI C j 6 (jCo hk) hk (by decide) (nn_2_6 hk) cC_2 ik2 (by rw [hq]; exact lfC_Pc_15) hd hp kk
theorem pC_Pc_15 (C : Cx z q wC g fr lo) (j : Nat) (hk : wC.2.2.1 j = .inr (2, 11)) {v : Int32} (hd : decode q.1 pc = .ok (.putfield 15, 3)) (hq : q.2.2.1 = Rk2) (hp : pc + 3 = pc') (kk : Rt z q wC g out pc' lv st (s2 σ j 6 v) E) : Rt z q wC g out pc lv (.int v :: .ref (g.1 j) :: st) σ E := q_putI (ty := ty2) C j 6 (jCo hk) hk (by decide) (nn_2_6 hk) cC_2 ik2 tk2 nk2 rfl rfl rfl (by rw [hq]; exact lfC_Pc_15) hd hp kk
theorem lfC_Pc_18 : Cond.fieldLink Rk2 18 (Tk2 7).1 (Tk2 7).2.1 (Tk2 7).2.2.1 ∈ lw_g := mg2 22 rfl rfl
theorem nn_2_7 {j : Nat} (h : wC.2.2.1 j = .inr (2, 11)) : wC.2.2.2 j 7 = none := (by decide +kernel : ∀ j, j < 53 → wC.2.2.1 j = .inr (2, 11) → wC.2.2.2 j 7 = none) j (jCo h) h
theorem gC_Pc_18 (C : Cx z q wC g fr lo) (j : Nat) (hk : wC.2.2.1 j = .inr (2, 11)) (hd : decode q.1 pc = .ok (.getfield 18, 3)) (hq : q.2.2.1 = Rk2) (hp : pc + 3 = pc') (kk : Rt z q wC g out pc' lv (.int (σ j 7) :: st) σ E) : Rt z q wC g out pc lv (.ref (g.1 j) :: st) σ E := q_getI C j 7 (jCo hk) hk (by decide) (nn_2_7 hk) cC_2 ik2 (by rw [hq]; exact lfC_Pc_18) hd hp kk
theorem pC_Pc_18 (C : Cx z q wC g fr lo) (j : Nat) (hk : wC.2.2.1 j = .inr (2, 11)) {v : Int32} (hd : decode q.1 pc = .ok (.putfield 18, 3)) (hq : q.2.2.1 = Rk2) (hp : pc + 3 = pc') (kk : Rt z q wC g out pc' lv st (s2 σ j 7 v) E) : Rt z q wC g out pc lv (.int v :: .ref (g.1 j) :: st) σ E := q_putI (ty := ty2) C j 7 (jCo hk) hk (by decide) (nn_2_7 hk) cC_2 ik2 tk2 nk2 rfl rfl rfl (by rw [hq]; exact lfC_Pc_18) hd hp kk
theorem lfC_Pc_21 : Cond.fieldLink Rk2 21 (Tk2 8).1 (Tk2 8).2.1 (Tk2 8).2.2.1 ∈ lw_g := mg2 23 rfl rfl
theorem nn_2_8 {j : Nat} (h : wC.2.2.1 j = .inr (2, 11)) : wC.2.2.2 j 8 = none := (by decide +kernel : ∀ j, j < 53 → wC.2.2.1 j = .inr (2, 11) → wC.2.2.2 j 8 = none) j (jCo h) h
theorem gC_Pc_21 (C : Cx z q wC g fr lo) (j : Nat) (hk : wC.2.2.1 j = .inr (2, 11)) (hd : decode q.1 pc = .ok (.getfield 21, 3)) (hq : q.2.2.1 = Rk2) (hp : pc + 3 = pc') (kk : Rt z q wC g out pc' lv (.int (σ j 8) :: st) σ E) : Rt z q wC g out pc lv (.ref (g.1 j) :: st) σ E := q_getI C j 8 (jCo hk) hk (by decide) (nn_2_8 hk) cC_2 ik2 (by rw [hq]; exact lfC_Pc_21) hd hp kk
theorem pC_Pc_21 (C : Cx z q wC g fr lo) (j : Nat) (hk : wC.2.2.1 j = .inr (2, 11)) {v : Int32} (hd : decode q.1 pc = .ok (.putfield 21, 3)) (hq : q.2.2.1 = Rk2) (hp : pc + 3 = pc') (kk : Rt z q wC g out pc' lv st (s2 σ j 8 v) E) : Rt z q wC g out pc lv (.int v :: .ref (g.1 j) :: st) σ E := q_putI (ty := ty2) C j 8 (jCo hk) hk (by decide) (nn_2_8 hk) cC_2 ik2 tk2 nk2 rfl rfl rfl (by rw [hq]; exact lfC_Pc_21) hd hp kk
theorem lfC_Pc_24 : Cond.fieldLink Rk2 24 (Tk2 9).1 (Tk2 9).2.1 (Tk2 9).2.2.1 ∈ lw_g := mg2 24 rfl rfl
theorem nn_2_9 {j : Nat} (h : wC.2.2.1 j = .inr (2, 11)) : wC.2.2.2 j 9 = none := (by decide +kernel : ∀ j, j < 53 → wC.2.2.1 j = .inr (2, 11) → wC.2.2.2 j 9 = none) j (jCo h) h
theorem gC_Pc_24 (C : Cx z q wC g fr lo) (j : Nat) (hk : wC.2.2.1 j = .inr (2, 11)) (hd : decode q.1 pc = .ok (.getfield 24, 3)) (hq : q.2.2.1 = Rk2) (hp : pc + 3 = pc') (kk : Rt z q wC g out pc' lv (.int (σ j 9) :: st) σ E) : Rt z q wC g out pc lv (.ref (g.1 j) :: st) σ E := q_getI C j 9 (jCo hk) hk (by decide) (nn_2_9 hk) cC_2 ik2 (by rw [hq]; exact lfC_Pc_24) hd hp kk
theorem pC_Pc_24 (C : Cx z q wC g fr lo) (j : Nat) (hk : wC.2.2.1 j = .inr (2, 11)) {v : Int32} (hd : decode q.1 pc = .ok (.putfield 24, 3)) (hq : q.2.2.1 = Rk2) (hp : pc + 3 = pc') (kk : Rt z q wC g out pc' lv st (s2 σ j 9 v) E) : Rt z q wC g out pc lv (.int v :: .ref (g.1 j) :: st) σ E := q_putI (ty := ty2) C j 9 (jCo hk) hk (by decide) (nn_2_9 hk) cC_2 ik2 tk2 nk2 rfl rfl rfl (by rw [hq]; exact lfC_Pc_24) hd hp kk
theorem lfC_Pc_27 : Cond.fieldLink Rk2 27 (Tk2 10).1 (Tk2 10).2.1 (Tk2 10).2.2.1 ∈ lw_g := mg2 25 rfl rfl
theorem nn_2_10 {j : Nat} (h : wC.2.2.1 j = .inr (2, 11)) : wC.2.2.2 j 10 = none := (by decide +kernel : ∀ j, j < 53 → wC.2.2.1 j = .inr (2, 11) → wC.2.2.2 j 10 = none) j (jCo h) h
theorem gC_Pc_27 (C : Cx z q wC g fr lo) (j : Nat) (hk : wC.2.2.1 j = .inr (2, 11)) (hd : decode q.1 pc = .ok (.getfield 27, 3)) (hq : q.2.2.1 = Rk2) (hp : pc + 3 = pc') (kk : Rt z q wC g out pc' lv (.int (σ j 10) :: st) σ E) : Rt z q wC g out pc lv (.ref (g.1 j) :: st) σ E := q_getI C j 10 (jCo hk) hk (by decide) (nn_2_10 hk) cC_2 ik2 (by rw [hq]; exact lfC_Pc_27) hd hp kk
theorem pC_Pc_27 (C : Cx z q wC g fr lo) (j : Nat) (hk : wC.2.2.1 j = .inr (2, 11)) {v : Int32} (hd : decode q.1 pc = .ok (.putfield 27, 3)) (hq : q.2.2.1 = Rk2) (hp : pc + 3 = pc') (kk : Rt z q wC g out pc' lv st (s2 σ j 10 v) E) : Rt z q wC g out pc lv (.int v :: .ref (g.1 j) :: st) σ E := q_putI (ty := ty2) C j 10 (jCo hk) hk (by decide) (nn_2_10 hk) cC_2 ik2 tk2 nk2 rfl rfl rfl (by rw [hq]; exact lfC_Pc_27) hd hp kk
theorem lfC_Pc_30 : Cond.fieldLink Rk2 30 (Tk2 0).1 (Tk2 0).2.1 (Tk2 0).2.2.1 ∈ lw_g := mg2 11 rfl rfl
theorem gC_Pc_30 (C : Cx z q wC g fr lo) (j r : Nat) (hk : wC.2.2.1 j = .inr (2, 11)) (hr : wC.2.2.2 j 0 = some r) (hd : decode q.1 pc = .ok (.getfield 30, 3)) (hq : q.2.2.1 = Rk2) (hp : pc + 3 = pc') (kk : Rt z q wC g out pc' lv (.ref (g.1 r) :: st) σ E) : Rt z q wC g out pc lv (.ref (g.1 j) :: st) σ E := q_getR C j 0 (jCo hk) hk (by decide) hr cC_2 ik2 (by rw [hq]; exact lfC_Pc_30) hd hp kk
theorem lfC_Pc_34 : Cond.fieldLink Rk2 34 (Tk2 1).1 (Tk2 1).2.1 (Tk2 1).2.2.1 ∈ lw_g := mg2 12 rfl rfl
theorem gC_Pc_34 (C : Cx z q wC g fr lo) (j r : Nat) (hk : wC.2.2.1 j = .inr (2, 11)) (hr : wC.2.2.2 j 1 = some r) (hd : decode q.1 pc = .ok (.getfield 34, 3)) (hq : q.2.2.1 = Rk2) (hp : pc + 3 = pc') (kk : Rt z q wC g out pc' lv (.ref (g.1 r) :: st) σ E) : Rt z q wC g out pc lv (.ref (g.1 j) :: st) σ E := q_getR C j 1 (jCo hk) hk (by decide) hr cC_2 ik2 (by rw [hq]; exact lfC_Pc_34) hd hp kk
theorem lfC_Pc_44 : Cond.fieldLink Rk2 44 (Tk2 2).1 (Tk2 2).2.1 (Tk2 2).2.2.1 ∈ lw_g := mg2 13 rfl rfl
theorem gC_Pc_44 (C : Cx z q wC g fr lo) (j r : Nat) (hk : wC.2.2.1 j = .inr (2, 11)) (hr : wC.2.2.2 j 2 = some r) (hd : decode q.1 pc = .ok (.getfield 44, 3)) (hq : q.2.2.1 = Rk2) (hp : pc + 3 = pc') (kk : Rt z q wC g out pc' lv (.ref (g.1 r) :: st) σ E) : Rt z q wC g out pc lv (.ref (g.1 j) :: st) σ E := q_getR C j 2 (jCo hk) hk (by decide) hr cC_2 ik2 (by rw [hq]; exact lfC_Pc_44) hd hp kk
theorem lfC_Pc_48 : Cond.fieldLink Rk2 48 (Tk2 3).1 (Tk2 3).2.1 (Tk2 3).2.2.1 ∈ lw_g := mg2 14 rfl rfl
theorem gC_Pc_48 (C : Cx z q wC g fr lo) (j r : Nat) (hk : wC.2.2.1 j = .inr (2, 11)) (hr : wC.2.2.2 j 3 = some r) (hd : decode q.1 pc = .ok (.getfield 48, 3)) (hq : q.2.2.1 = Rk2) (hp : pc + 3 = pc') (kk : Rt z q wC g out pc' lv (.ref (g.1 r) :: st) σ E) : Rt z q wC g out pc lv (.ref (g.1 j) :: st) σ E := q_getR C j 3 (jCo hk) hk (by decide) hr cC_2 ik2 (by rw [hq]; exact lfC_Pc_48) hd hp kk
theorem lfC_Pc_54 : Cond.fieldLink Rk2 54 (Tk2 4).1 (Tk2 4).2.1 (Tk2 4).2.2.1 ∈ lw_g := mg2 15 rfl rfl
theorem gC_Pc_54 (C : Cx z q wC g fr lo) (j r : Nat) (hk : wC.2.2.1 j = .inr (2, 11)) (hr : wC.2.2.2 j 4 = some r) (hd : decode q.1 pc = .ok (.getfield 54, 3)) (hq : q.2.2.1 = Rk2) (hp : pc + 3 = pc') (kk : Rt z q wC g out pc' lv (.ref (g.1 r) :: st) σ E) : Rt z q wC g out pc lv (.ref (g.1 j) :: st) σ E := q_getR C j 4 (jCo hk) hk (by decide) hr cC_2 ik2 (by rw [hq]; exact lfC_Pc_54) hd hp kk
theorem lfC_Pc_140 : Cond.fieldLink Rk2 140 (Tk3 0).1 (Tk3 0).2.1 (Tk3 0).2.2.1 ∈ lw_g := mg1 163 rfl rfl
theorem gC_Pc_140 (C : Cx z q wC g fr lo) (j r : Nat) (hk : wC.2.2.1 j = .inr (3, 4)) (hr : wC.2.2.2 j 0 = some r) (hd : decode q.1 pc = .ok (.getfield 140, 3)) (hq : q.2.2.1 = Rk2) (hp : pc + 3 = pc') (kk : Rt z q wC g out pc' lv (.ref (g.1 r) :: st) σ E) : Rt z q wC g out pc lv (.ref (g.1 j) :: st) σ E := q_getR C j 0 (jCo hk) hk (by decide) hr cC_3 ik3 (by rw [hq]; exact lfC_Pc_140) hd hp kk
theorem lfC_Pl_9 : Cond.fieldLink Rk3 9 (Tk3 1).1 (Tk3 1).2.1 (Tk3 1).2.2.1 ∈ lw_g := mg1 164 rfl rfl
theorem gC_Pl_9 (C : Cx z q wC g fr lo) (j : Nat) (hk : wC.2.2.1 j = .inr (3, 4)) (hd : decode q.1 pc = .ok (.getfield 9, 3)) (hq : q.2.2.1 = Rk3) (hp : pc + 3 = pc') (kk : Rt z q wC g out pc' lv (.int (σ j 1) :: st) σ E) : Rt z q wC g out pc lv (.ref (g.1 j) :: st) σ E := q_getI C j 1 (jCo hk) hk (by decide) (nn_3_1 hk) cC_3 ik3 (by rw [hq]; exact lfC_Pl_9) hd hp kk
theorem pC_Pl_9 (C : Cx z q wC g fr lo) (j : Nat) (hk : wC.2.2.1 j = .inr (3, 4)) {v : Int32} (hd : decode q.1 pc = .ok (.putfield 9, 3)) (hq : q.2.2.1 = Rk3) (hp : pc + 3 = pc') (kk : Rt z q wC g out pc' lv st (s2 σ j 1 v) E) : Rt z q wC g out pc lv (.int v :: .ref (g.1 j) :: st) σ E := q_putI (ty := ty3) C j 1 (jCo hk) hk (by decide) (nn_3_1 hk) cC_3 ik3 tk3 nk3 rfl rfl rfl (by rw [hq]; exact lfC_Pl_9) hd hp kk
theorem lfC_Pl_15 : Cond.fieldLink Rk3 15 (Tk3 2).1 (Tk3 2).2.1 (Tk3 2).2.2.1 ∈ lw_g := mg1 170 rfl rfl
theorem gC_Pl_15 (C : Cx z q wC g fr lo) (j : Nat) (hk : wC.2.2.1 j = .inr (3, 4)) (hd : decode q.1 pc = .ok (.getfield 15, 3)) (hq : q.2.2.1 = Rk3) (hp : pc + 3 = pc') (kk : Rt z q wC g out pc' lv (.int (σ j 2) :: st) σ E) : Rt z q wC g out pc lv (.ref (g.1 j) :: st) σ E := q_getI C j 2 (jCo hk) hk (by decide) (nn_3_2 hk) cC_3 ik3 (by rw [hq]; exact lfC_Pl_15) hd hp kk
theorem pC_Pl_15 (C : Cx z q wC g fr lo) (j : Nat) (hk : wC.2.2.1 j = .inr (3, 4)) {v : Int32} (hd : decode q.1 pc = .ok (.putfield 15, 3)) (hq : q.2.2.1 = Rk3) (hp : pc + 3 = pc') (kk : Rt z q wC g out pc' lv st (s2 σ j 2 v) E) : Rt z q wC g out pc lv (.int v :: .ref (g.1 j) :: st) σ E := q_putI (ty := ty3) C j 2 (jCo hk) hk (by decide) (nn_3_2 hk) cC_3 ik3 tk3 nk3 rfl rfl rfl (by rw [hq]; exact lfC_Pl_15) hd hp kk
theorem lfC_Pl_18 : Cond.fieldLink Rk3 18 (Tk3 3).1 (Tk3 3).2.1 (Tk3 3).2.2.1 ∈ lw_g := mg1 174 rfl rfl
theorem gC_Pl_18 (C : Cx z q wC g fr lo) (j : Nat) (hk : wC.2.2.1 j = .inr (3, 4)) (hd : decode q.1 pc = .ok (.getfield 18, 3)) (hq : q.2.2.1 = Rk3) (hp : pc + 3 = pc') (kk : Rt z q wC g out pc' lv (.int (σ j 3) :: st) σ E) : Rt z q wC g out pc lv (.ref (g.1 j) :: st) σ E := q_getI C j 3 (jCo hk) hk (by decide) (nn_3_3 hk) cC_3 ik3 (by rw [hq]; exact lfC_Pl_18) hd hp kk
theorem pC_Pl_18 (C : Cx z q wC g fr lo) (j : Nat) (hk : wC.2.2.1 j = .inr (3, 4)) {v : Int32} (hd : decode q.1 pc = .ok (.putfield 18, 3)) (hb : v &&& 1 = v) (hq : q.2.2.1 = Rk3) (hp : pc + 3 = pc') (kk : Rt z q wC g out pc' lv st (s2 σ j 3 v) E) : Rt z q wC g out pc lv (.int v :: .ref (g.1 j) :: st) σ E := q_putI (ty := ty3) C j 3 (jCo hk) hk (by decide) (nn_3_3 hk) cC_3 ik3 tk3 nk3 rfl (by show Value.int (v &&& 1) = .int v; rw [hb]) (fitsb hb) (by rw [hq]; exact lfC_Pl_18) hd hp kk
theorem lfC_Pl_27 : Cond.fieldLink Rk3 27 (Tk3 0).1 (Tk3 0).2.1 (Tk3 0).2.2.1 ∈ lw_g := mg1 157 rfl rfl
theorem gC_Pl_27 (C : Cx z q wC g fr lo) (j r : Nat) (hk : wC.2.2.1 j = .inr (3, 4)) (hr : wC.2.2.2 j 0 = some r) (hd : decode q.1 pc = .ok (.getfield 27, 3)) (hq : q.2.2.1 = Rk3) (hp : pc + 3 = pc') (kk : Rt z q wC g out pc' lv (.ref (g.1 r) :: st) σ E) : Rt z q wC g out pc lv (.ref (g.1 j) :: st) σ E := q_getR C j 0 (jCo hk) hk (by decide) hr cC_3 ik3 (by rw [hq]; exact lfC_Pl_27) hd hp kk
theorem lfC_Pf_9 : Cond.fieldLink Rk4 9 (Tk4 0).1 (Tk4 0).2.1 (Tk4 0).2.2.1 ∈ lw_g := mg2 55 rfl rfl
theorem gC_Pf_9 (C : Cx z q wC g fr lo) (j r : Nat) (hk : wC.2.2.1 j = .inr (4, 3)) (hr : wC.2.2.2 j 0 = some r) (hd : decode q.1 pc = .ok (.getfield 9, 3)) (hq : q.2.2.1 = Rk4) (hp : pc + 3 = pc') (kk : Rt z q wC g out pc' lv (.ref (g.1 r) :: st) σ E) : Rt z q wC g out pc lv (.ref (g.1 j) :: st) σ E := q_getR C j 0 (jCo hk) hk (by decide) hr cC_4 ik4 (by rw [hq]; exact lfC_Pf_9) hd hp kk
theorem lfC_Pf_15 : Cond.fieldLink Rk4 15 (Tk4 1).1 (Tk4 1).2.1 (Tk4 1).2.2.1 ∈ lw_g := mg2 56 rfl rfl
theorem gC_Pf_15 (C : Cx z q wC g fr lo) (j r : Nat) (hk : wC.2.2.1 j = .inr (4, 3)) (hr : wC.2.2.2 j 1 = some r) (hd : decode q.1 pc = .ok (.getfield 15, 3)) (hq : q.2.2.1 = Rk4) (hp : pc + 3 = pc') (kk : Rt z q wC g out pc' lv (.ref (g.1 r) :: st) σ E) : Rt z q wC g out pc lv (.ref (g.1 j) :: st) σ E := q_getR C j 1 (jCo hk) hk (by decide) hr cC_4 ik4 (by rw [hq]; exact lfC_Pf_15) hd hp kk
theorem lfC_Pf_19 : Cond.fieldLink Rk4 19 (Tk4 2).1 (Tk4 2).2.1 (Tk4 2).2.2.1 ∈ lw_g := mg2 57 rfl rfl
theorem gC_Pf_19 (C : Cx z q wC g fr lo) (j r : Nat) (hk : wC.2.2.1 j = .inr (4, 3)) (hr : wC.2.2.2 j 2 = some r) (hd : decode q.1 pc = .ok (.getfield 19, 3)) (hq : q.2.2.1 = Rk4) (hp : pc + 3 = pc') (kk : Rt z q wC g out pc' lv (.ref (g.1 r) :: st) σ E) : Rt z q wC g out pc lv (.ref (g.1 j) :: st) σ E := q_getR C j 2 (jCo hk) hk (by decide) hr cC_4 ik4 (by rw [hq]; exact lfC_Pf_19) hd hp kk
theorem lfC_Pf_23 : Cond.fieldLink Rk4 23 (Tk3 1).1 (Tk3 1).2.1 (Tk3 1).2.2.1 ∈ lw_g := mg1 165 rfl rfl
theorem gC_Pf_23 (C : Cx z q wC g fr lo) (j : Nat) (hk : wC.2.2.1 j = .inr (3, 4)) (hd : decode q.1 pc = .ok (.getfield 23, 3)) (hq : q.2.2.1 = Rk4) (hp : pc + 3 = pc') (kk : Rt z q wC g out pc' lv (.int (σ j 1) :: st) σ E) : Rt z q wC g out pc lv (.ref (g.1 j) :: st) σ E := q_getI C j 1 (jCo hk) hk (by decide) (nn_3_1 hk) cC_3 ik3 (by rw [hq]; exact lfC_Pf_23) hd hp kk
theorem lfC_Pf_57 : Cond.fieldLink Rk4 57 (Tk7 9).1 (Tk7 9).2.1 (Tk7 9).2.2.1 ∈ lw_g := mg1 85 rfl rfl
theorem gC_Pf_57 (C : Cx z q wC g fr lo) (j : Nat) (hk : wC.2.2.1 j = .inr (7, 11)) (hd : decode q.1 pc = .ok (.getfield 57, 3)) (hq : q.2.2.1 = Rk4) (hp : pc + 3 = pc') (kk : Rt z q wC g out pc' lv (.int (σ j 9) :: st) σ E) : Rt z q wC g out pc lv (.ref (g.1 j) :: st) σ E := q_getI C j 9 (jCo hk) hk (by decide) (nn_7_9 hk) cC_7 ik7 (by rw [hq]; exact lfC_Pf_57) hd hp kk
theorem lfC_Pf_62 : Cond.fieldLink Rk4 62 (Tk7 6).1 (Tk7 6).2.1 (Tk7 6).2.2.1 ∈ lw_g := mg1 74 rfl rfl
theorem gC_Pf_62 (C : Cx z q wC g fr lo) (j : Nat) (hk : wC.2.2.1 j = .inr (7, 11)) (hd : decode q.1 pc = .ok (.getfield 62, 3)) (hq : q.2.2.1 = Rk4) (hp : pc + 3 = pc') (kk : Rt z q wC g out pc' lv (.int (σ j 6) :: st) σ E) : Rt z q wC g out pc lv (.ref (g.1 j) :: st) σ E := q_getI C j 6 (jCo hk) hk (by decide) (nn_7_6 hk) cC_7 ik7 (by rw [hq]; exact lfC_Pf_62) hd hp kk
theorem lfC_Pf_71 : Cond.fieldLink Rk4 71 (Tk7 4).1 (Tk7 4).2.1 (Tk7 4).2.2.1 ∈ lw_g := mg1 69 rfl rfl
theorem gC_Pf_71 (C : Cx z q wC g fr lo) (j : Nat) (hk : wC.2.2.1 j = .inr (7, 11)) (hd : decode q.1 pc = .ok (.getfield 71, 3)) (hq : q.2.2.1 = Rk4) (hp : pc + 3 = pc') (kk : Rt z q wC g out pc' lv (.int (σ j 4) :: st) σ E) : Rt z q wC g out pc lv (.ref (g.1 j) :: st) σ E := q_getI C j 4 (jCo hk) hk (by decide) (nn_7_4 hk) cC_7 ik7 (by rw [hq]; exact lfC_Pf_71) hd hp kk
theorem lfC_Pf_74 : Cond.fieldLink Rk4 74 (Tk3 0).1 (Tk3 0).2.1 (Tk3 0).2.2.1 ∈ lw_g := mg1 160 rfl rfl
theorem gC_Pf_74 (C : Cx z q wC g fr lo) (j r : Nat) (hk : wC.2.2.1 j = .inr (3, 4)) (hr : wC.2.2.2 j 0 = some r) (hd : decode q.1 pc = .ok (.getfield 74, 3)) (hq : q.2.2.1 = Rk4) (hp : pc + 3 = pc') (kk : Rt z q wC g out pc' lv (.ref (g.1 r) :: st) σ E) : Rt z q wC g out pc lv (.ref (g.1 j) :: st) σ E := q_getR C j 0 (jCo hk) hk (by decide) hr cC_3 ik3 (by rw [hq]; exact lfC_Pf_74) hd hp kk
theorem lfC_Pf_75 : Cond.fieldLink Rk4 75 (Tk7 10).1 (Tk7 10).2.1 (Tk7 10).2.2.1 ∈ lw_g := mg1 88 rfl rfl
theorem gC_Pf_75 (C : Cx z q wC g fr lo) (j : Nat) (hk : wC.2.2.1 j = .inr (7, 11)) (hd : decode q.1 pc = .ok (.getfield 75, 3)) (hq : q.2.2.1 = Rk4) (hp : pc + 3 = pc') (kk : Rt z q wC g out pc' lv (.int (σ j 10) :: st) σ E) : Rt z q wC g out pc lv (.ref (g.1 j) :: st) σ E := q_getI C j 10 (jCo hk) hk (by decide) (nn_7_10 hk) cC_7 ik7 (by rw [hq]; exact lfC_Pf_75) hd hp kk
theorem lfC_Pf_81 : Cond.fieldLink Rk4 81 (Tk7 7).1 (Tk7 7).2.1 (Tk7 7).2.2.1 ∈ lw_g := mg1 78 rfl rfl
theorem gC_Pf_81 (C : Cx z q wC g fr lo) (j : Nat) (hk : wC.2.2.1 j = .inr (7, 11)) (hd : decode q.1 pc = .ok (.getfield 81, 3)) (hq : q.2.2.1 = Rk4) (hp : pc + 3 = pc') (kk : Rt z q wC g out pc' lv (.int (σ j 7) :: st) σ E) : Rt z q wC g out pc lv (.ref (g.1 j) :: st) σ E := q_getI C j 7 (jCo hk) hk (by decide) (nn_7_7 hk) cC_7 ik7 (by rw [hq]; exact lfC_Pf_81) hd hp kk
theorem lfC_Pf_84 : Cond.fieldLink Rk4 84 (Tk7 8).1 (Tk7 8).2.1 (Tk7 8).2.2.1 ∈ lw_g := mg1 81 rfl rfl
theorem gC_Pf_84 (C : Cx z q wC g fr lo) (j : Nat) (hk : wC.2.2.1 j = .inr (7, 11)) (hd : decode q.1 pc = .ok (.getfield 84, 3)) (hq : q.2.2.1 = Rk4) (hp : pc + 3 = pc') (kk : Rt z q wC g out pc' lv (.int (σ j 8) :: st) σ E) : Rt z q wC g out pc lv (.ref (g.1 j) :: st) σ E := q_getI C j 8 (jCo hk) hk (by decide) (nn_7_8 hk) cC_7 ik7 (by rw [hq]; exact lfC_Pf_84) hd hp kk
theorem lfC_Pg_9 : Cond.fieldLink Rk5 9 (Tk5 2).1 (Tk5 2).2.1 (Tk5 2).2.2.1 ∈ lw_g := mg2 120 rfl rfl
theorem gC_Pg_9 (C : Cx z q wC g fr lo) (j : Nat) (hk : wC.2.2.1 j = .inr (5, 6)) (hd : decode q.1 pc = .ok (.getfield 9, 3)) (hq : q.2.2.1 = Rk5) (hp : pc + 3 = pc') (kk : Rt z q wC g out pc' lv (.int (σ j 2) :: st) σ E) : Rt z q wC g out pc lv (.ref (g.1 j) :: st) σ E := q_getI C j 2 (jCo hk) hk (by decide) (nn_5_2 hk) cC_5 ik5 (by rw [hq]; exact lfC_Pg_9) hd hp kk
theorem pC_Pg_9 (C : Cx z q wC g fr lo) (j : Nat) (hk : wC.2.2.1 j = .inr (5, 6)) {v : Int32} (hd : decode q.1 pc = .ok (.putfield 9, 3)) (hq : q.2.2.1 = Rk5) (hp : pc + 3 = pc') (kk : Rt z q wC g out pc' lv st (s2 σ j 2 v) E) : Rt z q wC g out pc lv (.int v :: .ref (g.1 j) :: st) σ E := q_putI (ty := ty5) C j 2 (jCo hk) hk (by decide) (nn_5_2 hk) cC_5 ik5 tk5 nk5 rfl rfl rfl (by rw [hq]; exact lfC_Pg_9) hd hp kk
theorem lfC_Pg_15 : Cond.fieldLink Rk5 15 (Tk5 3).1 (Tk5 3).2.1 (Tk5 3).2.2.1 ∈ lw_g := mg2 122 rfl rfl
theorem gC_Pg_15 (C : Cx z q wC g fr lo) (j : Nat) (hk : wC.2.2.1 j = .inr (5, 6)) (hd : decode q.1 pc = .ok (.getfield 15, 3)) (hq : q.2.2.1 = Rk5) (hp : pc + 3 = pc') (kk : Rt z q wC g out pc' lv (.int (σ j 3) :: st) σ E) : Rt z q wC g out pc lv (.ref (g.1 j) :: st) σ E := q_getI C j 3 (jCo hk) hk (by decide) (nn_5_3 hk) cC_5 ik5 (by rw [hq]; exact lfC_Pg_15) hd hp kk
theorem pC_Pg_15 (C : Cx z q wC g fr lo) (j : Nat) (hk : wC.2.2.1 j = .inr (5, 6)) {v : Int32} (hd : decode q.1 pc = .ok (.putfield 15, 3)) (hq : q.2.2.1 = Rk5) (hp : pc + 3 = pc') (kk : Rt z q wC g out pc' lv st (s2 σ j 3 v) E) : Rt z q wC g out pc lv (.int v :: .ref (g.1 j) :: st) σ E := q_putI (ty := ty5) C j 3 (jCo hk) hk (by decide) (nn_5_3 hk) cC_5 ik5 tk5 nk5 rfl rfl rfl (by rw [hq]; exact lfC_Pg_15) hd hp kk
theorem lfC_Pg_18 : Cond.fieldLink Rk5 18 (Tk5 4).1 (Tk5 4).2.1 (Tk5 4).2.2.1 ∈ lw_g := mg2 124 rfl rfl
theorem gC_Pg_18 (C : Cx z q wC g fr lo) (j : Nat) (hk : wC.2.2.1 j = .inr (5, 6)) (hd : decode q.1 pc = .ok (.getfield 18, 3)) (hq : q.2.2.1 = Rk5) (hp : pc + 3 = pc') (kk : Rt z q wC g out pc' lv (.int (σ j 4) :: st) σ E) : Rt z q wC g out pc lv (.ref (g.1 j) :: st) σ E := q_getI C j 4 (jCo hk) hk (by decide) (nn_5_4 hk) cC_5 ik5 (by rw [hq]; exact lfC_Pg_18) hd hp kk
theorem pC_Pg_18 (C : Cx z q wC g fr lo) (j : Nat) (hk : wC.2.2.1 j = .inr (5, 6)) {v : Int32} (hd : decode q.1 pc = .ok (.putfield 18, 3)) (hq : q.2.2.1 = Rk5) (hp : pc + 3 = pc') (kk : Rt z q wC g out pc' lv st (s2 σ j 4 v) E) : Rt z q wC g out pc lv (.int v :: .ref (g.1 j) :: st) σ E := q_putI (ty := ty5) C j 4 (jCo hk) hk (by decide) (nn_5_4 hk) cC_5 ik5 tk5 nk5 rfl rfl rfl (by rw [hq]; exact lfC_Pg_18) hd hp kk
theorem lfC_Pg_21 : Cond.fieldLink Rk5 21 (Tk5 5).1 (Tk5 5).2.1 (Tk5 5).2.2.1 ∈ lw_g := mg2 126 rfl rfl
theorem gC_Pg_21 (C : Cx z q wC g fr lo) (j : Nat) (hk : wC.2.2.1 j = .inr (5, 6)) (hd : decode q.1 pc = .ok (.getfield 21, 3)) (hq : q.2.2.1 = Rk5) (hp : pc + 3 = pc') (kk : Rt z q wC g out pc' lv (.int (σ j 5) :: st) σ E) : Rt z q wC g out pc lv (.ref (g.1 j) :: st) σ E := q_getI C j 5 (jCo hk) hk (by decide) (nn_5_5 hk) cC_5 ik5 (by rw [hq]; exact lfC_Pg_21) hd hp kk
theorem pC_Pg_21 (C : Cx z q wC g fr lo) (j : Nat) (hk : wC.2.2.1 j = .inr (5, 6)) {v : Int32} (hd : decode q.1 pc = .ok (.putfield 21, 3)) (hq : q.2.2.1 = Rk5) (hp : pc + 3 = pc') (kk : Rt z q wC g out pc' lv st (s2 σ j 5 v) E) : Rt z q wC g out pc lv (.int v :: .ref (g.1 j) :: st) σ E := q_putI (ty := ty5) C j 5 (jCo hk) hk (by decide) (nn_5_5 hk) cC_5 ik5 tk5 nk5 rfl rfl rfl (by rw [hq]; exact lfC_Pg_21) hd hp kk
theorem lfC_Pg_24 : Cond.fieldLink Rk5 24 (Tk5 0).1 (Tk5 0).2.1 (Tk5 0).2.2.1 ∈ lw_g := mg2 118 rfl rfl
theorem gC_Pg_24 (C : Cx z q wC g fr lo) (j r : Nat) (hk : wC.2.2.1 j = .inr (5, 6)) (hr : wC.2.2.2 j 0 = some r) (hd : decode q.1 pc = .ok (.getfield 24, 3)) (hq : q.2.2.1 = Rk5) (hp : pc + 3 = pc') (kk : Rt z q wC g out pc' lv (.ref (g.1 r) :: st) σ E) : Rt z q wC g out pc lv (.ref (g.1 j) :: st) σ E := q_getR C j 0 (jCo hk) hk (by decide) hr cC_5 ik5 (by rw [hq]; exact lfC_Pg_24) hd hp kk
theorem lfC_Pg_28 : Cond.fieldLink Rk5 28 (Tk5 1).1 (Tk5 1).2.1 (Tk5 1).2.2.1 ∈ lw_g := mg2 119 rfl rfl
theorem gC_Pg_28 (C : Cx z q wC g fr lo) (j r : Nat) (hk : wC.2.2.1 j = .inr (5, 6)) (hr : wC.2.2.2 j 1 = some r) (hd : decode q.1 pc = .ok (.getfield 28, 3)) (hq : q.2.2.1 = Rk5) (hp : pc + 3 = pc') (kk : Rt z q wC g out pc' lv (.ref (g.1 r) :: st) σ E) : Rt z q wC g out pc lv (.ref (g.1 j) :: st) σ E := q_getR C j 1 (jCo hk) hk (by decide) hr cC_5 ik5 (by rw [hq]; exact lfC_Pg_28) hd hp kk
theorem lfC_Pg_32 : Cond.fieldLink Rk5 32 (Tk1 1).1 (Tk1 1).2.1 (Tk1 1).2.2.1 ∈ lw_g := mg2 67 rfl rfl
theorem gC_Pg_32 (C : Cx z q wC g fr lo) (j r : Nat) (hk : wC.2.2.1 j = .inr (1, 6)) (hr : wC.2.2.2 j 1 = some r) (hd : decode q.1 pc = .ok (.getfield 32, 3)) (hq : q.2.2.1 = Rk5) (hp : pc + 3 = pc') (kk : Rt z q wC g out pc' lv (.ref (g.1 r) :: st) σ E) : Rt z q wC g out pc lv (.ref (g.1 j) :: st) σ E := q_getR C j 1 (jCo hk) hk (by decide) hr cC_1 ik1 (by rw [hq]; exact lfC_Pg_32) hd hp kk
theorem lfC_Pg_38 : Cond.fieldLink Rk5 38 (Tk3 2).1 (Tk3 2).2.1 (Tk3 2).2.2.1 ∈ lw_g := mg1 171 rfl rfl
theorem gC_Pg_38 (C : Cx z q wC g fr lo) (j : Nat) (hk : wC.2.2.1 j = .inr (3, 4)) (hd : decode q.1 pc = .ok (.getfield 38, 3)) (hq : q.2.2.1 = Rk5) (hp : pc + 3 = pc') (kk : Rt z q wC g out pc' lv (.int (σ j 2) :: st) σ E) : Rt z q wC g out pc lv (.ref (g.1 j) :: st) σ E := q_getI C j 2 (jCo hk) hk (by decide) (nn_3_2 hk) cC_3 ik3 (by rw [hq]; exact lfC_Pg_38) hd hp kk
theorem pC_Pg_38 (C : Cx z q wC g fr lo) (j : Nat) (hk : wC.2.2.1 j = .inr (3, 4)) {v : Int32} (hd : decode q.1 pc = .ok (.putfield 38, 3)) (hq : q.2.2.1 = Rk5) (hp : pc + 3 = pc') (kk : Rt z q wC g out pc' lv st (s2 σ j 2 v) E) : Rt z q wC g out pc lv (.int v :: .ref (g.1 j) :: st) σ E := q_putI (ty := ty3) C j 2 (jCo hk) hk (by decide) (nn_3_2 hk) cC_3 ik3 tk3 nk3 rfl rfl rfl (by rw [hq]; exact lfC_Pg_38) hd hp kk
theorem lfC_Pg_68 : Cond.fieldLink Rk5 68 (Tk3 1).1 (Tk3 1).2.1 (Tk3 1).2.2.1 ∈ lw_g := mg1 168 rfl rfl
theorem gC_Pg_68 (C : Cx z q wC g fr lo) (j : Nat) (hk : wC.2.2.1 j = .inr (3, 4)) (hd : decode q.1 pc = .ok (.getfield 68, 3)) (hq : q.2.2.1 = Rk5) (hp : pc + 3 = pc') (kk : Rt z q wC g out pc' lv (.int (σ j 1) :: st) σ E) : Rt z q wC g out pc lv (.ref (g.1 j) :: st) σ E := q_getI C j 1 (jCo hk) hk (by decide) (nn_3_1 hk) cC_3 ik3 (by rw [hq]; exact lfC_Pg_68) hd hp kk
theorem lfC_Pg_71 : Cond.fieldLink Rk5 71 (Tk1 3).1 (Tk1 3).2.1 (Tk1 3).2.2.1 ∈ lw_g := mg2 71 rfl rfl
theorem gC_Pg_71 (C : Cx z q wC g fr lo) (j r : Nat) (hk : wC.2.2.1 j = .inr (1, 6)) (hr : wC.2.2.2 j 3 = some r) (hd : decode q.1 pc = .ok (.getfield 71, 3)) (hq : q.2.2.1 = Rk5) (hp : pc + 3 = pc') (kk : Rt z q wC g out pc' lv (.ref (g.1 r) :: st) σ E) : Rt z q wC g out pc lv (.ref (g.1 j) :: st) σ E := q_getR C j 3 (jCo hk) hk (by decide) hr cC_1 ik1 (by rw [hq]; exact lfC_Pg_71) hd hp kk
theorem lfC_Pg_75 : Cond.fieldLink Rk5 75 (Tk2 4).1 (Tk2 4).2.1 (Tk2 4).2.2.1 ∈ lw_g := mg2 16 rfl rfl
theorem gC_Pg_75 (C : Cx z q wC g fr lo) (j r : Nat) (hk : wC.2.2.1 j = .inr (2, 11)) (hr : wC.2.2.2 j 4 = some r) (hd : decode q.1 pc = .ok (.getfield 75, 3)) (hq : q.2.2.1 = Rk5) (hp : pc + 3 = pc') (kk : Rt z q wC g out pc' lv (.ref (g.1 r) :: st) σ E) : Rt z q wC g out pc lv (.ref (g.1 j) :: st) σ E := q_getR C j 4 (jCo hk) hk (by decide) hr cC_2 ik2 (by rw [hq]; exact lfC_Pg_75) hd hp kk
theorem lfC_Pg_80 : Cond.fieldLink Rk5 80 (Tk2 5).1 (Tk2 5).2.1 (Tk2 5).2.2.1 ∈ lw_g := mg2 19 rfl rfl
theorem gC_Pg_80 (C : Cx z q wC g fr lo) (j : Nat) (hk : wC.2.2.1 j = .inr (2, 11)) (hd : decode q.1 pc = .ok (.getfield 80, 3)) (hq : q.2.2.1 = Rk5) (hp : pc + 3 = pc') (kk : Rt z q wC g out pc' lv (.int (σ j 5) :: st) σ E) : Rt z q wC g out pc lv (.ref (g.1 j) :: st) σ E := q_getI C j 5 (jCo hk) hk (by decide) (nn_2_5 hk) cC_2 ik2 (by rw [hq]; exact lfC_Pg_80) hd hp kk
theorem lfC_Pg_97 : Cond.fieldLink Rk5 97 (Tk3 0).1 (Tk3 0).2.1 (Tk3 0).2.2.1 ∈ lw_g := mg1 161 rfl rfl
theorem gC_Pg_97 (C : Cx z q wC g fr lo) (j r : Nat) (hk : wC.2.2.1 j = .inr (3, 4)) (hr : wC.2.2.2 j 0 = some r) (hd : decode q.1 pc = .ok (.getfield 97, 3)) (hq : q.2.2.1 = Rk5) (hp : pc + 3 = pc') (kk : Rt z q wC g out pc' lv (.ref (g.1 r) :: st) σ E) : Rt z q wC g out pc lv (.ref (g.1 j) :: st) σ E := q_getR C j 0 (jCo hk) hk (by decide) hr cC_3 ik3 (by rw [hq]; exact lfC_Pg_97) hd hp kk
theorem lfC_Rx_9 : Cond.fieldLink Rk6 9 (Tk6 1).1 (Tk6 1).2.1 (Tk6 1).2.2.1 ∈ lw_g := mg1 122 rfl rfl
theorem gC_Rx_9 (C : Cx z q wC g fr lo) (j r : Nat) (hk : wC.2.2.1 j = .inr (6, 8)) (hr : wC.2.2.2 j 1 = some r) (hd : decode q.1 pc = .ok (.getfield 9, 3)) (hq : q.2.2.1 = Rk6) (hp : pc + 3 = pc') (kk : Rt z q wC g out pc' lv (.ref (g.1 r) :: st) σ E) : Rt z q wC g out pc lv (.ref (g.1 j) :: st) σ E := q_getR C j 1 (jCo hk) hk (by decide) hr cC_6 ik6 (by rw [hq]; exact lfC_Rx_9) hd hp kk
theorem lfC_Rx_22 : Cond.fieldLink Rk6 22 (Tk6 2).1 (Tk6 2).2.1 (Tk6 2).2.2.1 ∈ lw_g := mg1 123 rfl rfl
theorem gC_Rx_22 (C : Cx z q wC g fr lo) (j r : Nat) (hk : wC.2.2.1 j = .inr (6, 8)) (hr : wC.2.2.2 j 2 = some r) (hd : decode q.1 pc = .ok (.getfield 22, 3)) (hq : q.2.2.1 = Rk6) (hp : pc + 3 = pc') (kk : Rt z q wC g out pc' lv (.ref (g.1 r) :: st) σ E) : Rt z q wC g out pc lv (.ref (g.1 j) :: st) σ E := q_getR C j 2 (jCo hk) hk (by decide) hr cC_6 ik6 (by rw [hq]; exact lfC_Rx_22) hd hp kk
theorem lfC_Rx_26 : Cond.fieldLink Rk6 26 (Tk6 3).1 (Tk6 3).2.1 (Tk6 3).2.2.1 ∈ lw_g := mg1 125 rfl rfl
theorem gC_Rx_26 (C : Cx z q wC g fr lo) (j : Nat) (hk : wC.2.2.1 j = .inr (6, 8)) (hd : decode q.1 pc = .ok (.getfield 26, 3)) (hq : q.2.2.1 = Rk6) (hp : pc + 3 = pc') (kk : Rt z q wC g out pc' lv (.int (σ j 3) :: st) σ E) : Rt z q wC g out pc lv (.ref (g.1 j) :: st) σ E := q_getI C j 3 (jCo hk) hk (by decide) (nn_6_3 hk) cC_6 ik6 (by rw [hq]; exact lfC_Rx_26) hd hp kk
theorem pC_Rx_26 (C : Cx z q wC g fr lo) (j : Nat) (hk : wC.2.2.1 j = .inr (6, 8)) {v : Int32} (hd : decode q.1 pc = .ok (.putfield 26, 3)) (hq : q.2.2.1 = Rk6) (hp : pc + 3 = pc') (kk : Rt z q wC g out pc' lv st (s2 σ j 3 v) E) : Rt z q wC g out pc lv (.int v :: .ref (g.1 j) :: st) σ E := q_putI (ty := ty6) C j 3 (jCo hk) hk (by decide) (nn_6_3 hk) cC_6 ik6 tk6 nk6 rfl rfl rfl (by rw [hq]; exact lfC_Rx_26) hd hp kk
theorem lfC_Rx_30 : Cond.fieldLink Rk6 30 (Tk6 4).1 (Tk6 4).2.1 (Tk6 4).2.2.1 ∈ lw_g := mg1 127 rfl rfl
theorem gC_Rx_30 (C : Cx z q wC g fr lo) (j : Nat) (hk : wC.2.2.1 j = .inr (6, 8)) (hd : decode q.1 pc = .ok (.getfield 30, 3)) (hq : q.2.2.1 = Rk6) (hp : pc + 3 = pc') (kk : Rt z q wC g out pc' lv (.int (σ j 4) :: st) σ E) : Rt z q wC g out pc lv (.ref (g.1 j) :: st) σ E := q_getI C j 4 (jCo hk) hk (by decide) (nn_6_4 hk) cC_6 ik6 (by rw [hq]; exact lfC_Rx_30) hd hp kk
theorem pC_Rx_30 (C : Cx z q wC g fr lo) (j : Nat) (hk : wC.2.2.1 j = .inr (6, 8)) {v : Int32} (hd : decode q.1 pc = .ok (.putfield 30, 3)) (hq : q.2.2.1 = Rk6) (hp : pc + 3 = pc') (kk : Rt z q wC g out pc' lv st (s2 σ j 4 v) E) : Rt z q wC g out pc lv (.int v :: .ref (g.1 j) :: st) σ E := q_putI (ty := ty6) C j 4 (jCo hk) hk (by decide) (nn_6_4 hk) cC_6 ik6 tk6 nk6 rfl rfl rfl (by rw [hq]; exact lfC_Rx_30) hd hp kk
theorem lfC_Rx_33 : Cond.fieldLink Rk6 33 (Tk6 5).1 (Tk6 5).2.1 (Tk6 5).2.2.1 ∈ lw_g := mg1 129 rfl rfl
theorem nn_6_5 {j : Nat} (h : wC.2.2.1 j = .inr (6, 8)) : wC.2.2.2 j 5 = none := (by decide +kernel : ∀ j, j < 53 → wC.2.2.1 j = .inr (6, 8) → wC.2.2.2 j 5 = none) j (jCo h) h
theorem gC_Rx_33 (C : Cx z q wC g fr lo) (j : Nat) (hk : wC.2.2.1 j = .inr (6, 8)) (hd : decode q.1 pc = .ok (.getfield 33, 3)) (hq : q.2.2.1 = Rk6) (hp : pc + 3 = pc') (kk : Rt z q wC g out pc' lv (.int (σ j 5) :: st) σ E) : Rt z q wC g out pc lv (.ref (g.1 j) :: st) σ E := q_getI C j 5 (jCo hk) hk (by decide) (nn_6_5 hk) cC_6 ik6 (by rw [hq]; exact lfC_Rx_33) hd hp kk
theorem pC_Rx_33 (C : Cx z q wC g fr lo) (j : Nat) (hk : wC.2.2.1 j = .inr (6, 8)) {v : Int32} (hd : decode q.1 pc = .ok (.putfield 33, 3)) (hq : q.2.2.1 = Rk6) (hp : pc + 3 = pc') (kk : Rt z q wC g out pc' lv st (s2 σ j 5 v) E) : Rt z q wC g out pc lv (.int v :: .ref (g.1 j) :: st) σ E := q_putI (ty := ty6) C j 5 (jCo hk) hk (by decide) (nn_6_5 hk) cC_6 ik6 tk6 nk6 rfl rfl rfl (by rw [hq]; exact lfC_Rx_33) hd hp kk
theorem lfC_Rx_36 : Cond.fieldLink Rk6 36 (Tk6 6).1 (Tk6 6).2.1 (Tk6 6).2.2.1 ∈ lw_g := mg1 130 rfl rfl
theorem nn_6_6 {j : Nat} (h : wC.2.2.1 j = .inr (6, 8)) : wC.2.2.2 j 6 = none := (by decide +kernel : ∀ j, j < 53 → wC.2.2.1 j = .inr (6, 8) → wC.2.2.2 j 6 = none) j (jCo h) h
theorem gC_Rx_36 (C : Cx z q wC g fr lo) (j : Nat) (hk : wC.2.2.1 j = .inr (6, 8)) (hd : decode q.1 pc = .ok (.getfield 36, 3)) (hq : q.2.2.1 = Rk6) (hp : pc + 3 = pc') (kk : Rt z q wC g out pc' lv (.int (σ j 6) :: st) σ E) : Rt z q wC g out pc lv (.ref (g.1 j) :: st) σ E := q_getI C j 6 (jCo hk) hk (by decide) (nn_6_6 hk) cC_6 ik6 (by rw [hq]; exact lfC_Rx_36) hd hp kk
theorem pC_Rx_36 (C : Cx z q wC g fr lo) (j : Nat) (hk : wC.2.2.1 j = .inr (6, 8)) {v : Int32} (hd : decode q.1 pc = .ok (.putfield 36, 3)) (hq : q.2.2.1 = Rk6) (hp : pc + 3 = pc') (kk : Rt z q wC g out pc' lv st (s2 σ j 6 v) E) : Rt z q wC g out pc lv (.int v :: .ref (g.1 j) :: st) σ E := q_putI (ty := ty6) C j 6 (jCo hk) hk (by decide) (nn_6_6 hk) cC_6 ik6 tk6 nk6 rfl rfl rfl (by rw [hq]; exact lfC_Rx_36) hd hp kk
theorem lfC_Rx_39 : Cond.fieldLink Rk6 39 (Tk6 7).1 (Tk6 7).2.1 (Tk6 7).2.2.1 ∈ lw_g := mg1 131 rfl rfl
theorem nn_6_7 {j : Nat} (h : wC.2.2.1 j = .inr (6, 8)) : wC.2.2.2 j 7 = none := (by decide +kernel : ∀ j, j < 53 → wC.2.2.1 j = .inr (6, 8) → wC.2.2.2 j 7 = none) j (jCo h) h
theorem gC_Rx_39 (C : Cx z q wC g fr lo) (j : Nat) (hk : wC.2.2.1 j = .inr (6, 8)) (hd : decode q.1 pc = .ok (.getfield 39, 3)) (hq : q.2.2.1 = Rk6) (hp : pc + 3 = pc') (kk : Rt z q wC g out pc' lv (.int (σ j 7) :: st) σ E) : Rt z q wC g out pc lv (.ref (g.1 j) :: st) σ E := q_getI C j 7 (jCo hk) hk (by decide) (nn_6_7 hk) cC_6 ik6 (by rw [hq]; exact lfC_Rx_39) hd hp kk
theorem pC_Rx_39 (C : Cx z q wC g fr lo) (j : Nat) (hk : wC.2.2.1 j = .inr (6, 8)) {v : Int32} (hd : decode q.1 pc = .ok (.putfield 39, 3)) (hq : q.2.2.1 = Rk6) (hp : pc + 3 = pc') (kk : Rt z q wC g out pc' lv st (s2 σ j 7 v) E) : Rt z q wC g out pc lv (.int v :: .ref (g.1 j) :: st) σ E := q_putI (ty := ty6) C j 7 (jCo hk) hk (by decide) (nn_6_7 hk) cC_6 ik6 tk6 nk6 rfl rfl rfl (by rw [hq]; exact lfC_Rx_39) hd hp kk
theorem lfC_Rx_42 : Cond.fieldLink Rk6 42 (Tk6 0).1 (Tk6 0).2.1 (Tk6 0).2.2.1 ∈ lw_g := mg1 121 rfl rfl
theorem gC_Rx_42 (C : Cx z q wC g fr lo) (j r : Nat) (hk : wC.2.2.1 j = .inr (6, 8)) (hr : wC.2.2.2 j 0 = some r) (hd : decode q.1 pc = .ok (.getfield 42, 3)) (hq : q.2.2.1 = Rk6) (hp : pc + 3 = pc') (kk : Rt z q wC g out pc' lv (.ref (g.1 r) :: st) σ E) : Rt z q wC g out pc lv (.ref (g.1 j) :: st) σ E := q_getR C j 0 (jCo hk) hk (by decide) hr cC_6 ik6 (by rw [hq]; exact lfC_Rx_42) hd hp kk
theorem lfC_Rx_95 : Cond.fieldLink Rk6 95 (Tk7 1).1 (Tk7 1).2.1 (Tk7 1).2.2.1 ∈ lw_g := mg1 63 rfl rfl
theorem gC_Rx_95 (C : Cx z q wC g fr lo) (j : Nat) (hk : wC.2.2.1 j = .inr (7, 11)) (hd : decode q.1 pc = .ok (.getfield 95, 3)) (hq : q.2.2.1 = Rk6) (hp : pc + 3 = pc') (kk : Rt z q wC g out pc' lv (.int (σ j 1) :: st) σ E) : Rt z q wC g out pc lv (.ref (g.1 j) :: st) σ E := q_getI C j 1 (jCo hk) hk (by decide) (nn_7_1 hk) cC_7 ik7 (by rw [hq]; exact lfC_Rx_95) hd hp kk
theorem lfC_Rx_104 : Cond.fieldLink Rk6 104 (Tk7 0).1 (Tk7 0).2.1 (Tk7 0).2.2.1 ∈ lw_g := mg1 60 rfl rfl
theorem gC_Rx_104 (C : Cx z q wC g fr lo) (j r : Nat) (hk : wC.2.2.1 j = .inr (7, 11)) (hr : wC.2.2.2 j 0 = some r) (hd : decode q.1 pc = .ok (.getfield 104, 3)) (hq : q.2.2.1 = Rk6) (hp : pc + 3 = pc') (kk : Rt z q wC g out pc' lv (.ref (g.1 r) :: st) σ E) : Rt z q wC g out pc lv (.ref (g.1 j) :: st) σ E := q_getR C j 0 (jCo hk) hk (by decide) hr cC_7 ik7 (by rw [hq]; exact lfC_Rx_104) hd hp kk
theorem lfC_Sg_24 : Cond.fieldLink Rk7 24 (Tk7 2).1 (Tk7 2).2.1 (Tk7 2).2.2.1 ∈ lw_g := mg1 64 rfl rfl
theorem gC_Sg_24 (C : Cx z q wC g fr lo) (j : Nat) (hk : wC.2.2.1 j = .inr (7, 11)) (hd : decode q.1 pc = .ok (.getfield 24, 3)) (hq : q.2.2.1 = Rk7) (hp : pc + 3 = pc') (kk : Rt z q wC g out pc' lv (.int (σ j 2) :: st) σ E) : Rt z q wC g out pc lv (.ref (g.1 j) :: st) σ E := q_getI C j 2 (jCo hk) hk (by decide) (nn_7_2 hk) cC_7 ik7 (by rw [hq]; exact lfC_Sg_24) hd hp kk
theorem lfC_Sg_27 : Cond.fieldLink Rk7 27 (Tk7 3).1 (Tk7 3).2.1 (Tk7 3).2.2.1 ∈ lw_g := mg1 66 rfl rfl
theorem gC_Sg_27 (C : Cx z q wC g fr lo) (j : Nat) (hk : wC.2.2.1 j = .inr (7, 11)) (hd : decode q.1 pc = .ok (.getfield 27, 3)) (hq : q.2.2.1 = Rk7) (hp : pc + 3 = pc') (kk : Rt z q wC g out pc' lv (.int (σ j 3) :: st) σ E) : Rt z q wC g out pc lv (.ref (g.1 j) :: st) σ E := q_getI C j 3 (jCo hk) hk (by decide) (nn_7_3 hk) cC_7 ik7 (by rw [hq]; exact lfC_Sg_27) hd hp kk
theorem lfC_Sg_33 : Cond.fieldLink Rk7 33 (Tk7 5).1 (Tk7 5).2.1 (Tk7 5).2.2.1 ∈ lw_g := mg1 71 rfl rfl
theorem gC_Sg_33 (C : Cx z q wC g fr lo) (j : Nat) (hk : wC.2.2.1 j = .inr (7, 11)) (hd : decode q.1 pc = .ok (.getfield 33, 3)) (hq : q.2.2.1 = Rk7) (hp : pc + 3 = pc') (kk : Rt z q wC g out pc' lv (.int (σ j 5) :: st) σ E) : Rt z q wC g out pc lv (.ref (g.1 j) :: st) σ E := q_getI C j 5 (jCo hk) hk (by decide) (nn_7_5 hk) cC_7 ik7 (by rw [hq]; exact lfC_Sg_33) hd hp kk
theorem lfC_Tb_16 : Cond.fieldLink Rk8 16 (Tk8 0).1 (Tk8 0).2.1 (Tk8 0).2.2.1 ∈ lw_g := mg1 47 rfl rfl
theorem nn_8_0 {j : Nat} (h : wC.2.2.1 j = .inr (8, 3)) : wC.2.2.2 j 0 = none := (by decide +kernel : ∀ j, j < 53 → wC.2.2.1 j = .inr (8, 3) → wC.2.2.2 j 0 = none) j (jCo h) h
theorem gC_Tb_16 (C : Cx z q wC g fr lo) (j : Nat) (hk : wC.2.2.1 j = .inr (8, 3)) (hd : decode q.1 pc = .ok (.getfield 16, 3)) (hq : q.2.2.1 = Rk8) (hp : pc + 3 = pc') (kk : Rt z q wC g out pc' lv (.int (σ j 0) :: st) σ E) : Rt z q wC g out pc lv (.ref (g.1 j) :: st) σ E := q_getI C j 0 (jCo hk) hk (by decide) (nn_8_0 hk) cC_8 ik8 (by rw [hq]; exact lfC_Tb_16) hd hp kk
theorem lfC_Tb_22 : Cond.fieldLink Rk8 22 (Tk8 1).1 (Tk8 1).2.1 (Tk8 1).2.2.1 ∈ lw_g := mg1 48 rfl rfl
theorem nn_8_1 {j : Nat} (h : wC.2.2.1 j = .inr (8, 3)) : wC.2.2.2 j 1 = none := (by decide +kernel : ∀ j, j < 53 → wC.2.2.1 j = .inr (8, 3) → wC.2.2.2 j 1 = none) j (jCo h) h
theorem gC_Tb_22 (C : Cx z q wC g fr lo) (j : Nat) (hk : wC.2.2.1 j = .inr (8, 3)) (hd : decode q.1 pc = .ok (.getfield 22, 3)) (hq : q.2.2.1 = Rk8) (hp : pc + 3 = pc') (kk : Rt z q wC g out pc' lv (.int (σ j 1) :: st) σ E) : Rt z q wC g out pc lv (.ref (g.1 j) :: st) σ E := q_getI C j 1 (jCo hk) hk (by decide) (nn_8_1 hk) cC_8 ik8 (by rw [hq]; exact lfC_Tb_22) hd hp kk
theorem lfC_Tb_25 : Cond.fieldLink Rk8 25 (Tk8 2).1 (Tk8 2).2.1 (Tk8 2).2.2.1 ∈ lw_g := mg1 49 rfl rfl
theorem gC_Tb_25 (C : Cx z q wC g fr lo) (j r : Nat) (hk : wC.2.2.1 j = .inr (8, 3)) (hr : wC.2.2.2 j 2 = some r) (hd : decode q.1 pc = .ok (.getfield 25, 3)) (hq : q.2.2.1 = Rk8) (hp : pc + 3 = pc') (kk : Rt z q wC g out pc' lv (.ref (g.1 r) :: st) σ E) : Rt z q wC g out pc lv (.ref (g.1 j) :: st) σ E := q_getR C j 2 (jCo hk) hk (by decide) hr cC_8 ik8 (by rw [hq]; exact lfC_Tb_25) hd hp kk
theorem lfC_Tk_9 : Cond.fieldLink Rk9 9 (Tk9 4).1 (Tk9 4).2.1 (Tk9 4).2.2.1 ∈ lw_g := mg1 209 rfl rfl
theorem gC_Tk_9 (C : Cx z q wC g fr lo) (j : Nat) (hk : wC.2.2.1 j = .inr (9, 12)) (hd : decode q.1 pc = .ok (.getfield 9, 3)) (hq : q.2.2.1 = Rk9) (hp : pc + 3 = pc') (kk : Rt z q wC g out pc' lv (.int (σ j 4) :: st) σ E) : Rt z q wC g out pc lv (.ref (g.1 j) :: st) σ E := q_getI C j 4 (jCo hk) hk (by decide) (nn_9_4 hk) cC_9 ik9 (by rw [hq]; exact lfC_Tk_9) hd hp kk
theorem pC_Tk_9 (C : Cx z q wC g fr lo) (j : Nat) (hk : wC.2.2.1 j = .inr (9, 12)) {v : Int32} (hd : decode q.1 pc = .ok (.putfield 9, 3)) (hq : q.2.2.1 = Rk9) (hp : pc + 3 = pc') (kk : Rt z q wC g out pc' lv st (s2 σ j 4 v) E) : Rt z q wC g out pc lv (.int v :: .ref (g.1 j) :: st) σ E := q_putI (ty := ty9) C j 4 (jCo hk) hk (by decide) (nn_9_4 hk) cC_9 ik9 tk9 nk9 rfl rfl rfl (by rw [hq]; exact lfC_Tk_9) hd hp kk
theorem lfC_Tk_15 : Cond.fieldLink Rk9 15 (Tk9 5).1 (Tk9 5).2.1 (Tk9 5).2.2.1 ∈ lw_g := mg1 211 rfl rfl
theorem nn_9_5 {j : Nat} (h : wC.2.2.1 j = .inr (9, 12)) : wC.2.2.2 j 5 = none := (by decide +kernel : ∀ j, j < 53 → wC.2.2.1 j = .inr (9, 12) → wC.2.2.2 j 5 = none) j (jCo h) h
theorem gC_Tk_15 (C : Cx z q wC g fr lo) (j : Nat) (hk : wC.2.2.1 j = .inr (9, 12)) (hd : decode q.1 pc = .ok (.getfield 15, 3)) (hq : q.2.2.1 = Rk9) (hp : pc + 3 = pc') (kk : Rt z q wC g out pc' lv (.int (σ j 5) :: st) σ E) : Rt z q wC g out pc lv (.ref (g.1 j) :: st) σ E := q_getI C j 5 (jCo hk) hk (by decide) (nn_9_5 hk) cC_9 ik9 (by rw [hq]; exact lfC_Tk_15) hd hp kk
theorem pC_Tk_15 (C : Cx z q wC g fr lo) (j : Nat) (hk : wC.2.2.1 j = .inr (9, 12)) {v : Int32} (hd : decode q.1 pc = .ok (.putfield 15, 3)) (hq : q.2.2.1 = Rk9) (hp : pc + 3 = pc') (kk : Rt z q wC g out pc' lv st (s2 σ j 5 v) E) : Rt z q wC g out pc lv (.int v :: .ref (g.1 j) :: st) σ E := q_putI (ty := ty9) C j 5 (jCo hk) hk (by decide) (nn_9_5 hk) cC_9 ik9 tk9 nk9 rfl rfl rfl (by rw [hq]; exact lfC_Tk_15) hd hp kk
theorem lfC_Tk_18 : Cond.fieldLink Rk9 18 (Tk9 6).1 (Tk9 6).2.1 (Tk9 6).2.2.1 ∈ lw_g := mg1 212 rfl rfl
theorem nn_9_6 {j : Nat} (h : wC.2.2.1 j = .inr (9, 12)) : wC.2.2.2 j 6 = none := (by decide +kernel : ∀ j, j < 53 → wC.2.2.1 j = .inr (9, 12) → wC.2.2.2 j 6 = none) j (jCo h) h
theorem gC_Tk_18 (C : Cx z q wC g fr lo) (j : Nat) (hk : wC.2.2.1 j = .inr (9, 12)) (hd : decode q.1 pc = .ok (.getfield 18, 3)) (hq : q.2.2.1 = Rk9) (hp : pc + 3 = pc') (kk : Rt z q wC g out pc' lv (.int (σ j 6) :: st) σ E) : Rt z q wC g out pc lv (.ref (g.1 j) :: st) σ E := q_getI C j 6 (jCo hk) hk (by decide) (nn_9_6 hk) cC_9 ik9 (by rw [hq]; exact lfC_Tk_18) hd hp kk
theorem pC_Tk_18 (C : Cx z q wC g fr lo) (j : Nat) (hk : wC.2.2.1 j = .inr (9, 12)) {v : Int32} (hd : decode q.1 pc = .ok (.putfield 18, 3)) (hq : q.2.2.1 = Rk9) (hp : pc + 3 = pc') (kk : Rt z q wC g out pc' lv st (s2 σ j 6 v) E) : Rt z q wC g out pc lv (.int v :: .ref (g.1 j) :: st) σ E := q_putI (ty := ty9) C j 6 (jCo hk) hk (by decide) (nn_9_6 hk) cC_9 ik9 tk9 nk9 rfl rfl rfl (by rw [hq]; exact lfC_Tk_18) hd hp kk
theorem lfC_Tk_21 : Cond.fieldLink Rk9 21 (Tk9 7).1 (Tk9 7).2.1 (Tk9 7).2.2.1 ∈ lw_g := mg1 213 rfl rfl
theorem nn_9_7 {j : Nat} (h : wC.2.2.1 j = .inr (9, 12)) : wC.2.2.2 j 7 = none := (by decide +kernel : ∀ j, j < 53 → wC.2.2.1 j = .inr (9, 12) → wC.2.2.2 j 7 = none) j (jCo h) h
theorem gC_Tk_21 (C : Cx z q wC g fr lo) (j : Nat) (hk : wC.2.2.1 j = .inr (9, 12)) (hd : decode q.1 pc = .ok (.getfield 21, 3)) (hq : q.2.2.1 = Rk9) (hp : pc + 3 = pc') (kk : Rt z q wC g out pc' lv (.int (σ j 7) :: st) σ E) : Rt z q wC g out pc lv (.ref (g.1 j) :: st) σ E := q_getI C j 7 (jCo hk) hk (by decide) (nn_9_7 hk) cC_9 ik9 (by rw [hq]; exact lfC_Tk_21) hd hp kk
theorem pC_Tk_21 (C : Cx z q wC g fr lo) (j : Nat) (hk : wC.2.2.1 j = .inr (9, 12)) {v : Int32} (hd : decode q.1 pc = .ok (.putfield 21, 3)) (hq : q.2.2.1 = Rk9) (hp : pc + 3 = pc') (kk : Rt z q wC g out pc' lv st (s2 σ j 7 v) E) : Rt z q wC g out pc lv (.int v :: .ref (g.1 j) :: st) σ E := q_putI (ty := ty9) C j 7 (jCo hk) hk (by decide) (nn_9_7 hk) cC_9 ik9 tk9 nk9 rfl rfl rfl (by rw [hq]; exact lfC_Tk_21) hd hp kk
theorem lfC_Tk_24 : Cond.fieldLink Rk9 24 (Tk9 8).1 (Tk9 8).2.1 (Tk9 8).2.2.1 ∈ lw_g := mg1 214 rfl rfl
theorem nn_9_8 {j : Nat} (h : wC.2.2.1 j = .inr (9, 12)) : wC.2.2.2 j 8 = none := (by decide +kernel : ∀ j, j < 53 → wC.2.2.1 j = .inr (9, 12) → wC.2.2.2 j 8 = none) j (jCo h) h
theorem gC_Tk_24 (C : Cx z q wC g fr lo) (j : Nat) (hk : wC.2.2.1 j = .inr (9, 12)) (hd : decode q.1 pc = .ok (.getfield 24, 3)) (hq : q.2.2.1 = Rk9) (hp : pc + 3 = pc') (kk : Rt z q wC g out pc' lv (.int (σ j 8) :: st) σ E) : Rt z q wC g out pc lv (.ref (g.1 j) :: st) σ E := q_getI C j 8 (jCo hk) hk (by decide) (nn_9_8 hk) cC_9 ik9 (by rw [hq]; exact lfC_Tk_24) hd hp kk
theorem pC_Tk_24 (C : Cx z q wC g fr lo) (j : Nat) (hk : wC.2.2.1 j = .inr (9, 12)) {v : Int32} (hd : decode q.1 pc = .ok (.putfield 24, 3)) (hq : q.2.2.1 = Rk9) (hp : pc + 3 = pc') (kk : Rt z q wC g out pc' lv st (s2 σ j 8 v) E) : Rt z q wC g out pc lv (.int v :: .ref (g.1 j) :: st) σ E := q_putI (ty := ty9) C j 8 (jCo hk) hk (by decide) (nn_9_8 hk) cC_9 ik9 tk9 nk9 rfl rfl rfl (by rw [hq]; exact lfC_Tk_24) hd hp kk
theorem lfC_Tk_27 : Cond.fieldLink Rk9 27 (Tk9 9).1 (Tk9 9).2.1 (Tk9 9).2.2.1 ∈ lw_g := mg1 215 rfl rfl
theorem nn_9_9 {j : Nat} (h : wC.2.2.1 j = .inr (9, 12)) : wC.2.2.2 j 9 = none := (by decide +kernel : ∀ j, j < 53 → wC.2.2.1 j = .inr (9, 12) → wC.2.2.2 j 9 = none) j (jCo h) h
theorem gC_Tk_27 (C : Cx z q wC g fr lo) (j : Nat) (hk : wC.2.2.1 j = .inr (9, 12)) (hd : decode q.1 pc = .ok (.getfield 27, 3)) (hq : q.2.2.1 = Rk9) (hp : pc + 3 = pc') (kk : Rt z q wC g out pc' lv (.int (σ j 9) :: st) σ E) : Rt z q wC g out pc lv (.ref (g.1 j) :: st) σ E := q_getI C j 9 (jCo hk) hk (by decide) (nn_9_9 hk) cC_9 ik9 (by rw [hq]; exact lfC_Tk_27) hd hp kk
theorem pC_Tk_27 (C : Cx z q wC g fr lo) (j : Nat) (hk : wC.2.2.1 j = .inr (9, 12)) {v : Int32} (hd : decode q.1 pc = .ok (.putfield 27, 3)) (hq : q.2.2.1 = Rk9) (hp : pc + 3 = pc') (kk : Rt z q wC g out pc' lv st (s2 σ j 9 v) E) : Rt z q wC g out pc lv (.int v :: .ref (g.1 j) :: st) σ E := q_putI (ty := ty9) C j 9 (jCo hk) hk (by decide) (nn_9_9 hk) cC_9 ik9 tk9 nk9 rfl rfl rfl (by rw [hq]; exact lfC_Tk_27) hd hp kk
theorem lfC_Tk_30 : Cond.fieldLink Rk9 30 (Tk9 10).1 (Tk9 10).2.1 (Tk9 10).2.2.1 ∈ lw_g := mg1 216 rfl rfl
theorem nn_9_10 {j : Nat} (h : wC.2.2.1 j = .inr (9, 12)) : wC.2.2.2 j 10 = none := (by decide +kernel : ∀ j, j < 53 → wC.2.2.1 j = .inr (9, 12) → wC.2.2.2 j 10 = none) j (jCo h) h
theorem gC_Tk_30 (C : Cx z q wC g fr lo) (j : Nat) (hk : wC.2.2.1 j = .inr (9, 12)) (hd : decode q.1 pc = .ok (.getfield 30, 3)) (hq : q.2.2.1 = Rk9) (hp : pc + 3 = pc') (kk : Rt z q wC g out pc' lv (.int (σ j 10) :: st) σ E) : Rt z q wC g out pc lv (.ref (g.1 j) :: st) σ E := q_getI C j 10 (jCo hk) hk (by decide) (nn_9_10 hk) cC_9 ik9 (by rw [hq]; exact lfC_Tk_30) hd hp kk
theorem pC_Tk_30 (C : Cx z q wC g fr lo) (j : Nat) (hk : wC.2.2.1 j = .inr (9, 12)) {v : Int32} (hd : decode q.1 pc = .ok (.putfield 30, 3)) (hb : v &&& 1 = v) (hq : q.2.2.1 = Rk9) (hp : pc + 3 = pc') (kk : Rt z q wC g out pc' lv st (s2 σ j 10 v) E) : Rt z q wC g out pc lv (.int v :: .ref (g.1 j) :: st) σ E := q_putI (ty := ty9) C j 10 (jCo hk) hk (by decide) (nn_9_10 hk) cC_9 ik9 tk9 nk9 rfl (by show Value.int (v &&& 1) = .int v; rw [hb]) (fitsb hb) (by rw [hq]; exact lfC_Tk_30) hd hp kk
theorem lfC_Tk_34 : Cond.fieldLink Rk9 34 (Tk9 11).1 (Tk9 11).2.1 (Tk9 11).2.2.1 ∈ lw_g := mg1 217 rfl rfl
theorem nn_9_11 {j : Nat} (h : wC.2.2.1 j = .inr (9, 12)) : wC.2.2.2 j 11 = none := (by decide +kernel : ∀ j, j < 53 → wC.2.2.1 j = .inr (9, 12) → wC.2.2.2 j 11 = none) j (jCo h) h
theorem gC_Tk_34 (C : Cx z q wC g fr lo) (j : Nat) (hk : wC.2.2.1 j = .inr (9, 12)) (hd : decode q.1 pc = .ok (.getfield 34, 3)) (hq : q.2.2.1 = Rk9) (hp : pc + 3 = pc') (kk : Rt z q wC g out pc' lv (.int (σ j 11) :: st) σ E) : Rt z q wC g out pc lv (.ref (g.1 j) :: st) σ E := q_getI C j 11 (jCo hk) hk (by decide) (nn_9_11 hk) cC_9 ik9 (by rw [hq]; exact lfC_Tk_34) hd hp kk
theorem pC_Tk_34 (C : Cx z q wC g fr lo) (j : Nat) (hk : wC.2.2.1 j = .inr (9, 12)) {v : Int32} (hd : decode q.1 pc = .ok (.putfield 34, 3)) (hq : q.2.2.1 = Rk9) (hp : pc + 3 = pc') (kk : Rt z q wC g out pc' lv st (s2 σ j 11 v) E) : Rt z q wC g out pc lv (.int v :: .ref (g.1 j) :: st) σ E := q_putI (ty := ty9) C j 11 (jCo hk) hk (by decide) (nn_9_11 hk) cC_9 ik9 tk9 nk9 rfl rfl rfl (by rw [hq]; exact lfC_Tk_34) hd hp kk
theorem lfC_Tk_37 : Cond.fieldLink Rk9 37 (Tk9 0).1 (Tk9 0).2.1 (Tk9 0).2.2.1 ∈ lw_g := mg1 202 rfl rfl
theorem gC_Tk_37 (C : Cx z q wC g fr lo) (j r : Nat) (hk : wC.2.2.1 j = .inr (9, 12)) (hr : wC.2.2.2 j 0 = some r) (hd : decode q.1 pc = .ok (.getfield 37, 3)) (hq : q.2.2.1 = Rk9) (hp : pc + 3 = pc') (kk : Rt z q wC g out pc' lv (.ref (g.1 r) :: st) σ E) : Rt z q wC g out pc lv (.ref (g.1 j) :: st) σ E := q_getR C j 0 (jCo hk) hk (by decide) hr cC_9 ik9 (by rw [hq]; exact lfC_Tk_37) hd hp kk
theorem lfC_Tk_41 : Cond.fieldLink Rk9 41 (Tk9 1).1 (Tk9 1).2.1 (Tk9 1).2.2.1 ∈ lw_g := mg1 203 rfl rfl
theorem gC_Tk_41 (C : Cx z q wC g fr lo) (j r : Nat) (hk : wC.2.2.1 j = .inr (9, 12)) (hr : wC.2.2.2 j 1 = some r) (hd : decode q.1 pc = .ok (.getfield 41, 3)) (hq : q.2.2.1 = Rk9) (hp : pc + 3 = pc') (kk : Rt z q wC g out pc' lv (.ref (g.1 r) :: st) σ E) : Rt z q wC g out pc lv (.ref (g.1 j) :: st) σ E := q_getR C j 1 (jCo hk) hk (by decide) hr cC_9 ik9 (by rw [hq]; exact lfC_Tk_41) hd hp kk
theorem lfC_Tk_45 : Cond.fieldLink Rk9 45 (Tk9 2).1 (Tk9 2).2.1 (Tk9 2).2.2.1 ∈ lw_g := mg1 205 rfl rfl
theorem gC_Tk_45 (C : Cx z q wC g fr lo) (j r : Nat) (hk : wC.2.2.1 j = .inr (9, 12)) (hr : wC.2.2.2 j 2 = some r) (hd : decode q.1 pc = .ok (.getfield 45, 3)) (hq : q.2.2.1 = Rk9) (hp : pc + 3 = pc') (kk : Rt z q wC g out pc' lv (.ref (g.1 r) :: st) σ E) : Rt z q wC g out pc lv (.ref (g.1 j) :: st) σ E := q_getR C j 2 (jCo hk) hk (by decide) hr cC_9 ik9 (by rw [hq]; exact lfC_Tk_45) hd hp kk
theorem lfC_Tk_54 : Cond.fieldLink Rk9 54 (Tk9 3).1 (Tk9 3).2.1 (Tk9 3).2.2.1 ∈ lw_g := mg1 207 rfl rfl
theorem gC_Tk_54 (C : Cx z q wC g fr lo) (j r : Nat) (hk : wC.2.2.1 j = .inr (9, 12)) (hr : wC.2.2.2 j 3 = some r) (hd : decode q.1 pc = .ok (.getfield 54, 3)) (hq : q.2.2.1 = Rk9) (hp : pc + 3 = pc') (kk : Rt z q wC g out pc' lv (.ref (g.1 r) :: st) σ E) : Rt z q wC g out pc lv (.ref (g.1 j) :: st) σ E := q_getR C j 3 (jCo hk) hk (by decide) hr cC_9 ik9 (by rw [hq]; exact lfC_Tk_54) hd hp kk
theorem lfC_Tk_60 : Cond.fieldLink Rk9 60 (Tk7 9).1 (Tk7 9).2.1 (Tk7 9).2.2.1 ∈ lw_g := mg1 84 rfl rfl
theorem gC_Tk_60 (C : Cx z q wC g fr lo) (j : Nat) (hk : wC.2.2.1 j = .inr (7, 11)) (hd : decode q.1 pc = .ok (.getfield 60, 3)) (hq : q.2.2.1 = Rk9) (hp : pc + 3 = pc') (kk : Rt z q wC g out pc' lv (.int (σ j 9) :: st) σ E) : Rt z q wC g out pc lv (.ref (g.1 j) :: st) σ E := q_getI C j 9 (jCo hk) hk (by decide) (nn_7_9 hk) cC_7 ik7 (by rw [hq]; exact lfC_Tk_60) hd hp kk
theorem lfC_Tk_98 : Cond.fieldLink Rk9 98 (Tk3 0).1 (Tk3 0).2.1 (Tk3 0).2.2.1 ∈ lw_g := mg1 159 rfl rfl
theorem gC_Tk_98 (C : Cx z q wC g fr lo) (j r : Nat) (hk : wC.2.2.1 j = .inr (3, 4)) (hr : wC.2.2.2 j 0 = some r) (hd : decode q.1 pc = .ok (.getfield 98, 3)) (hq : q.2.2.1 = Rk9) (hp : pc + 3 = pc') (kk : Rt z q wC g out pc' lv (.ref (g.1 r) :: st) σ E) : Rt z q wC g out pc lv (.ref (g.1 j) :: st) σ E := q_getR C j 0 (jCo hk) hk (by decide) hr cC_3 ik3 (by rw [hq]; exact lfC_Tk_98) hd hp kk
theorem lfC_Tk_132 : Cond.fieldLink Rk9 132 (Tk7 6).1 (Tk7 6).2.1 (Tk7 6).2.2.1 ∈ lw_g := mg1 76 rfl rfl
theorem gC_Tk_132 (C : Cx z q wC g fr lo) (j : Nat) (hk : wC.2.2.1 j = .inr (7, 11)) (hd : decode q.1 pc = .ok (.getfield 132, 3)) (hq : q.2.2.1 = Rk9) (hp : pc + 3 = pc') (kk : Rt z q wC g out pc' lv (.int (σ j 6) :: st) σ E) : Rt z q wC g out pc lv (.ref (g.1 j) :: st) σ E := q_getI C j 6 (jCo hk) hk (by decide) (nn_7_6 hk) cC_7 ik7 (by rw [hq]; exact lfC_Tk_132) hd hp kk
end CF
section CV
variable {ρ : Type} {z : Zx} {q q' : Mq} {w : Wq} {g : Ge} {out : ρ → Option Value × St} {pc pc' : Nat} {lv : List (Nat × Value)} {st : List Value} {σ : St} {fr lo fr' lo' : Nat} {y : MethodName} {n i : Nat}
theorem q_callSu (C : Cx z q w g fr lo) (F : Mf y q' n true) (hw : Cond.methodLink q.2.2.1 i y ∈ lw_g) (hd : decode q.1 pc = .ok (.invokestatic i, 3)) (av rest : List Value) (hst : st = av.reverse ++ rest) (hn : av.length = n) (hW : (rest.map fun v => v.category).sum ≤ 8) (hR : Nat.ble (fr' + 1) fr = true ∧ Nat.ble (8 + (q'.2.1 + 11) + lo') lo = true) {o : Option (Unit)} {k : Unit → Option ρ}
    (hM : ∀ x : Unit, o = some x → Ct z.1.2.1 w g y q' fr' lo' av σ (none, σ)) (hp : pc + 3 = pc')
    (kk : ∀ x : Unit, o = some x → Rt z q w g out pc' lv (rest) (σ) (k x)) : Rt z q w g out pc lv st σ (o.bind k) :=
  q_callS (out' := fun x : Unit => (none, σ)) C F hw hd av rest hst hn hW hR hM hp kk
theorem q_callVn (C : Cx z q w g fr lo) (F : Mf y q' n false) (hw : Cond.methodLink q.2.2.1 i y ∈ lw_g) (hd : decode q.1 pc = .ok (.invokevirtual i, 3)) (j : Nat) (hj : j < w.2.1) {b : Nat × Nat} (hb : w.2.2.1 j = .inr b) {T : u_T} (hc : w.1.1[b.1]? = some (y.cls, T, b.2)) (av rest : List Value) (hst : st = av.reverse ++ .ref (g.1 j) :: rest) (hn : av.length = n) (hW : (rest.map fun v => v.category).sum ≤ 8) (hR : Nat.ble (fr' + 1) fr = true ∧ Nat.ble (8 + (q'.2.1 + 11) + lo') lo = true) {o : Option (Nat)} {k : Nat → Option ρ}
    (hM : ∀ x : Nat, o = some x → Ct z.1.2.1 w g y q' fr' lo' (.ref (g.1 j) :: av) σ (some (.ref (g.1 x)), σ)) (hp : pc + 3 = pc')
    (kk : ∀ x : Nat, o = some x → Rt z q w g out pc' lv (.ref (g.1 x) :: rest) (σ) (k x)) : Rt z q w g out pc lv st σ (o.bind k) :=
  q_callV (out' := fun x : Nat => (some (.ref (g.1 x)), σ)) C F hw hd j hj hb hc av rest hst hn hW hR hM hp kk
theorem q_callVnw (C : Cx z q w g fr lo) (F : Mf y q' n false) (hw : Cond.methodLink q.2.2.1 i y ∈ lw_g) (hd : decode q.1 pc = .ok (.invokevirtual i, 3)) (j : Nat) (hj : j < w.2.1) {b : Nat × Nat} (hb : w.2.2.1 j = .inr b) {T : u_T} (hc : w.1.1[b.1]? = some (y.cls, T, b.2)) (av rest : List Value) (hst : st = av.reverse ++ .ref (g.1 j) :: rest) (hn : av.length = n) (hW : (rest.map fun v => v.category).sum ≤ 8) (hR : Nat.ble (fr' + 1) fr = true ∧ Nat.ble (8 + (q'.2.1 + 11) + lo') lo = true) {o : Option (Nat × St)} {k : Nat × St → Option ρ}
    (hM : ∀ x : Nat × St, o = some x → Ct z.1.2.1 w g y q' fr' lo' (.ref (g.1 j) :: av) σ (some (.ref (g.1 x.1)), x.2)) (hp : pc + 3 = pc')
    (kk : ∀ x : Nat × St, o = some x → Rt z q w g out pc' lv (.ref (g.1 x.1) :: rest) (x.2) (k x)) : Rt z q w g out pc lv st σ (o.bind k) :=
  q_callV (out' := fun x : Nat × St => (some (.ref (g.1 x.1)), x.2)) C F hw hd j hj hb hc av rest hst hn hW hR hM hp kk
theorem q_callSNr (C : Cx z q w g fr lo) (F : Mf y q' n true) (hw : va_Nw (.methodLinkNest q.2.2.1 i y "FlightLegs") z.1.2.2.2.2.1) (hd : decode q.1 pc = .ok (.invokestatic i, 3)) (av rest : List Value) (hst : st = av.reverse ++ rest) (hn : av.length = n) (hW : (rest.map fun v => v.category).sum ≤ 8) (hR : Nat.ble (fr' + 1) fr = true ∧ Nat.ble (8 + (q'.2.1 + 11) + lo') lo = true) {o : Option (Int32)} {k : Int32 → Option ρ}
    (hM : ∀ x : Int32, o = some x → Ct z.1.2.1 w g y q' fr' lo' av σ (some (.int x), σ)) (hp : pc + 3 = pc')
    (kk : ∀ x : Int32, o = some x → Rt z q w g out pc' lv (.int x :: rest) (σ) (k x)) : Rt z q w g out pc lv st σ (o.bind k) :=
  q_callSN (out' := fun x : Int32 => (some (.int x), σ)) C F hw hd av rest hst hn hW hR hM hp kk
theorem q_callVNv (C : Cx z q w g fr lo) (F : Mf y q' n false) (hw : va_Nw (.methodLinkNest q.2.2.1 i y "FlightLegs") z.1.2.2.2.2.1) (hd : decode q.1 pc = .ok (.invokevirtual i, 3)) (j : Nat) (hj : j < w.2.1) {b : Nat × Nat} (hb : w.2.2.1 j = .inr b) {T : u_T} (hc : w.1.1[b.1]? = some (y.cls, T, b.2)) (av rest : List Value) (hst : st = av.reverse ++ .ref (g.1 j) :: rest) (hn : av.length = n) (hW : (rest.map fun v => v.category).sum ≤ 8) (hR : Nat.ble (fr' + 1) fr = true ∧ Nat.ble (8 + (q'.2.1 + 11) + lo') lo = true) {o : Option (St)} {k : St → Option ρ}
    (hM : ∀ x : St, o = some x → Ct z.1.2.1 w g y q' fr' lo' (.ref (g.1 j) :: av) σ (none, x)) (hp : pc + 3 = pc')
    (kk : ∀ x : St, o = some x → Rt z q w g out pc' lv (rest) (x) (k x)) : Rt z q w g out pc lv st σ (o.bind k) :=
  q_callVN (out' := fun x : St => (none, x)) C F hw hd j hj hb hc av rest hst hn hW hR hM hp kk
theorem q_callVSr (C : Cx z q w g fr lo) (hf : w.1.2 = true) (F : Mf y q' n false) (hy : y.cls = "java/lang/String") (hw : Cond.methodLink q.2.2.1 i y ∈ lw_g) (hd : decode q.1 pc = .ok (.invokevirtual i, 3)) (av rest : List Value) (hst : st = av.reverse ++ .ref (g.2.2.2.1 2) :: rest) (hn : av.length = n) (hW : (rest.map fun v => v.category).sum ≤ 8) (hR : Nat.ble (fr' + 1) fr = true ∧ Nat.ble (8 + (q'.2.1 + 11) + lo') lo = true) {o : Option (Int32)} {k : Int32 → Option ρ}
    (hM : ∀ x : Int32, o = some x → Ct z.1.2.1 w g y q' fr' lo' (.ref (g.2.2.2.1 2) :: av) σ (some (.int x), σ)) (hp : pc + 3 = pc')
    (kk : ∀ x : Int32, o = some x → Rt z q w g out pc' lv (.int x :: rest) (σ) (k x)) : Rt z q w g out pc lv st σ (o.bind k) :=
  q_callVS (out' := fun x : Int32 => (some (.int x), σ)) C hf F hy hw hd av rest hst hn hW hR hM hp kk
end CV
theorem linx0 : Cond.initialized Rx0 ∈ lw_g := mg1 19 rfl rfl
theorem lnex0 : Rx0 ≠ "java/lang/invoke/MethodHandle" ∧ Rx0 ≠ "java/lang/invoke/VarHandle" ∧ plainName Rx0 = true := ⟨by decide +kernel, by decide +kernel, by decide +kernel⟩
theorem linx1 : Cond.initialized Rx1 ∈ lw_g := mg1 18 rfl rfl
theorem lnex1 : Rx1 ≠ "java/lang/invoke/MethodHandle" ∧ Rx1 ≠ "java/lang/invoke/VarHandle" ∧ plainName Rx1 = true := ⟨by decide +kernel, by decide +kernel, by decide +kernel⟩
theorem linx2 : Cond.initialized Rx2 ∈ lw_g := mg1 14 rfl rfl
theorem lnex2 : Rx2 ≠ "java/lang/invoke/MethodHandle" ∧ Rx2 ≠ "java/lang/invoke/VarHandle" ∧ plainName Rx2 = true := ⟨by decide +kernel, by decide +kernel, by decide +kernel⟩
theorem linx3 : Cond.initialized Rx3 ∈ lw_g := mg1 15 rfl rfl
theorem lnex3 : Rx3 ≠ "java/lang/invoke/MethodHandle" ∧ Rx3 ≠ "java/lang/invoke/VarHandle" ∧ plainName Rx3 = true := ⟨by decide +kernel, by decide +kernel, by decide +kernel⟩
theorem linx4 : Cond.initialized Rx4 ∈ lw_g := mg1 16 rfl rfl
theorem lnex4 : Rx4 ≠ "java/lang/invoke/MethodHandle" ∧ Rx4 ≠ "java/lang/invoke/VarHandle" ∧ plainName Rx4 = true := ⟨by decide +kernel, by decide +kernel, by decide +kernel⟩
def yC_Cm_course : MethodName := ⟨Rx0, "course", "(I)I"⟩
def qC_Cm_course : Mq := (prog_2_method_2_code, 1, Rx0, some .int)
theorem FC_Cm_course : Mf yC_Cm_course qC_Cm_course 1 true := ⟨mg3 210 rfl rfl, linx0, ⟨lnex0.1, lnex0.2.1, by decide +kernel⟩, lnex0.2.2, mg3 209 rfl rfl⟩
def yC_Cm_east : MethodName := ⟨Rx0, "east", "(I)I"⟩
def qC_Cm_east : Mq := (prog_2_method_3_code, 1, Rx0, some .int)
theorem FC_Cm_east : Mf yC_Cm_east qC_Cm_east 1 true := ⟨mg3 156 rfl rfl, linx0, ⟨lnex0.1, lnex0.2.1, by decide +kernel⟩, lnex0.2.2, mg3 155 rfl rfl⟩
def yC_Cm_north : MethodName := ⟨Rx0, "north", "(I)I"⟩
def qC_Cm_north : Mq := (prog_2_method_4_code, 1, Rx0, some .int)
theorem FC_Cm_north : Mf yC_Cm_north qC_Cm_north 1 true := ⟨mg3 165 rfl rfl, linx0, ⟨lnex0.1, lnex0.2.1, by decide +kernel⟩, lnex0.2.2, mg3 164 rfl rfl⟩
def yC_Cm_pointX : MethodName := ⟨Rx0, "pointX", "(III)I"⟩
def qC_Cm_pointX : Mq := (prog_2_method_5_code, 3, Rx0, some .int)
theorem FC_Cm_pointX : Mf yC_Cm_pointX qC_Cm_pointX 3 true := ⟨mg3 153 rfl rfl, linx0, ⟨lnex0.1, lnex0.2.1, by decide +kernel⟩, lnex0.2.2, mg3 152 rfl rfl⟩
def yC_Cm_pointY : MethodName := ⟨Rx0, "pointY", "(III)I"⟩
def qC_Cm_pointY : Mq := (prog_2_method_6_code, 3, Rx0, some .int)
theorem FC_Cm_pointY : Mf yC_Cm_pointY qC_Cm_pointY 3 true := ⟨mg3 162 rfl rfl, linx0, ⟨lnex0.1, lnex0.2.1, by decide +kernel⟩, lnex0.2.2, mg3 161 rfl rfl⟩
def yC_Cm_root : MethodName := ⟨Rx0, "root", "(J)I"⟩
def qC_Cm_root : Mq := (prog_2_method_8_code, 8, Rx0, some .int)
theorem FC_Cm_root : Mf yC_Cm_root qC_Cm_root 1 true := ⟨mg3 145 rfl rfl, linx0, ⟨lnex0.1, lnex0.2.1, by decide +kernel⟩, lnex0.2.2, mg3 144 rfl rfl⟩
def yC_Cm_distance : MethodName := ⟨Rx0, "distance", "(IIII)I"⟩
def qC_Cm_distance : Mq := (prog_2_method_7_code, 8, Rx0, some .int)
theorem FC_Cm_distance : Mf yC_Cm_distance qC_Cm_distance 4 true := ⟨mg3 142 rfl rfl, linx0, ⟨lnex0.1, lnex0.2.1, by decide +kernel⟩, lnex0.2.2, mg3 141 rfl rfl⟩
def yC_Cm_courseBetween : MethodName := ⟨Rx0, "courseBetween", "(IIII)I"⟩
def qC_Cm_courseBetween : Mq := (prog_2_method_9_code, 14, Rx0, some .int)
theorem FC_Cm_courseBetween : Mf yC_Cm_courseBetween qC_Cm_courseBetween 4 true := ⟨mg3 172 rfl rfl, linx0, ⟨lnex0.1, lnex0.2.1, by decide +kernel⟩, lnex0.2.2, mg3 171 rfl rfl⟩
def yC_Cm_before : MethodName := ⟨Rx0, "before", "(IIII)I"⟩
def qC_Cm_before : Mq := (prog_2_method_10_code, 4, Rx0, some .int)
theorem FC_Cm_before : Mf yC_Cm_before qC_Cm_before 4 true := ⟨mg4 53 rfl rfl, linx0, ⟨lnex0.1, lnex0.2.1, by decide +kernel⟩, lnex0.2.2, mg4 52 rfl rfl⟩
def yC_Cm_entry : MethodName := ⟨Rx0, "entry", "(IIZ)I"⟩
def qC_Cm_entry : Mq := (prog_2_method_11_code, 4, Rx0, some .int)
theorem FC_Cm_entry : Mf yC_Cm_entry qC_Cm_entry 3 true := ⟨mg3 207 rfl rfl, linx0, ⟨lnex0.1, lnex0.2.1, by decide +kernel⟩, lnex0.2.2, mg3 206 rfl rfl⟩
def yC_Cm_turnRadiusAt : MethodName := ⟨Rx0, "turnRadiusAt", "(I)I"⟩
def qC_Cm_turnRadiusAt : Mq := (prog_2_method_12_code, 1, Rx0, some .int)
theorem FC_Cm_turnRadiusAt : Mf yC_Cm_turnRadiusAt qC_Cm_turnRadiusAt 1 true := ⟨mg3 234 rfl rfl, linx0, ⟨lnex0.1, lnex0.2.1, by decide +kernel⟩, lnex0.2.2, mg3 233 rfl rfl⟩
def yC_Cm_arcLength : MethodName := ⟨Rx0, "arcLength", "(II)I"⟩
def qC_Cm_arcLength : Mq := (prog_2_method_13_code, 2, Rx0, some .int)
theorem FC_Cm_arcLength : Mf yC_Cm_arcLength qC_Cm_arcLength 2 true := ⟨mg4 38 rfl rfl, linx0, ⟨lnex0.1, lnex0.2.1, by decide +kernel⟩, lnex0.2.2, mg4 37 rfl rfl⟩
def yC_Tb_put : MethodName := ⟨Rk8, "put", "(III)V"⟩
def qC_Tb_put : Mq := (prog_11_method_3_code, 4, Rk8, none)
theorem FC_Tb_put : Mf yC_Tb_put qC_Tb_put 3 false := ⟨mg3 38 rfl rfl, lin8, ⟨lne8.1, lne8.2.1, by decide +kernel⟩, lne8.2.2, ⟨mg3 36 rfl rfl, mg3 37 rfl rfl⟩⟩
def yC_Tb_copyRows : MethodName := ⟨Rk8, "copyRows", "(LFlightLegs$Table;III)V"⟩
def qC_Tb_copyRows : Mq := (prog_11_method_5_code, 5, Rk8, none)
theorem FC_Tb_copyRows : Mf yC_Tb_copyRows qC_Tb_copyRows 4 false := ⟨mg4 160 rfl rfl, lin8, ⟨lne8.1, lne8.2.1, by decide +kernel⟩, lne8.2.2, ⟨mg4 158 rfl rfl, mg4 159 rfl rfl⟩⟩
def yC_Hi_record : MethodName := ⟨Rk0, "record", "(ZLFlightLegs$Plan;)V"⟩
def qC_Hi_record : Mq := (prog_3_method_2_code, 3, Rk0, none)
theorem FC_Hi_record : Mf yC_Hi_record qC_Hi_record 2 false := ⟨mg4 154 rfl rfl, lin0, ⟨lne0.1, lne0.2.1, by decide +kernel⟩, lne0.2.2, ⟨mg4 152 rfl rfl, mg4 153 rfl rfl⟩⟩
def yC_Tb_get : MethodName := ⟨Rk8, "get", "(II)I"⟩
def qC_Tb_get : Mq := (prog_11_method_2_code, 3, Rk8, some .int)
theorem FC_Tb_get : Mf yC_Tb_get qC_Tb_get 2 false := ⟨mg3 48 rfl rfl, lin8, ⟨lne8.1, lne8.2.1, by decide +kernel⟩, lne8.2.2, ⟨mg3 46 rfl rfl, mg3 47 rfl rfl⟩⟩
def yC_Hi_restore : MethodName := ⟨Rk0, "restore", "(LFlightLegs$Plan;)Z"⟩
def qC_Hi_restore : Mq := (prog_3_method_3_code, 2, Rk0, some .boolean)
theorem FC_Hi_restore : Mf yC_Hi_restore qC_Hi_restore 1 false := ⟨mg5 37 rfl rfl, lin0, ⟨lne0.1, lne0.2.1, by decide +kernel⟩, lne0.2.2, ⟨mg5 35 rfl rfl, mg5 36 rfl rfl⟩⟩
def yC_Ar_fill : MethodName := ⟨Rx1, "fill", "([II)V"⟩
def qC_Ar_fill : Mq := (prog_20_method_103_code, 4, Rx1, none)
theorem FC_Ar_fill : Mf yC_Ar_fill qC_Ar_fill 2 true := ⟨mg3 107 rfl rfl, linx1, ⟨lnex1.1, lnex1.2.1, by decide +kernel⟩, lnex1.2.2, mg3 106 rfl rfl⟩
def yC_Tb_clear : MethodName := ⟨Rk8, "clear", "()V"⟩
def qC_Tb_clear : Mq := (prog_11_method_4_code, 1, Rk8, none)
theorem FC_Tb_clear : Mf yC_Tb_clear qC_Tb_clear 0 false := ⟨mg3 104 rfl rfl, lin8, ⟨lne8.1, lne8.2.1, by decide +kernel⟩, lne8.2.2, ⟨mg3 102 rfl rfl, mg3 103 rfl rfl⟩⟩
def yC_Tk_clear : MethodName := ⟨Rk9, "clear", "()V"⟩
def qC_Tk_clear : Mq := (prog_12_method_2_code, 1, Rk9, none)
theorem FC_Tk_clear : Mf yC_Tk_clear qC_Tk_clear 0 false := ⟨mg3 100 rfl rfl, lin9, ⟨lne9.1, lne9.2.1, by decide +kernel⟩, lne9.2.2, ⟨mg3 98 rfl rfl, mg3 99 rfl rfl⟩⟩
def yC_Pl_kind : MethodName := ⟨Rk3, "kind", "(I)I"⟩
def qC_Pl_kind : Mq := (prog_6_method_4_code, 2, Rk3, some .int)
theorem FC_Pl_kind : Mf yC_Pl_kind qC_Pl_kind 1 false := ⟨mg3 117 rfl rfl, lin3, ⟨lne3.1, lne3.2.1, by decide +kernel⟩, lne3.2.2, ⟨mg3 115 rfl rfl, mg3 116 rfl rfl⟩⟩
def yC_Tk_startsAnew : MethodName := ⟨Rk9, "startsAnew", "(I)Z"⟩
def qC_Tk_startsAnew : Mq := (prog_12_method_4_code, 3, Rk9, some .boolean)
theorem FC_Tk_startsAnew : Mf yC_Tk_startsAnew qC_Tk_startsAnew 1 false := ⟨mg3 122 rfl rfl, lin9, ⟨lne9.1, lne9.2.1, by decide +kernel⟩, lne9.2.2, ⟨mg3 121 rfl rfl, mg0 14 rfl rfl⟩⟩
def yC_Tk_endHere : MethodName := ⟨Rk9, "endHere", "(I)V"⟩
def qC_Tk_endHere : Mq := (prog_12_method_6_code, 2, Rk9, none)
theorem FC_Tk_endHere : Mf yC_Tk_endHere qC_Tk_endHere 1 false := ⟨mg3 131 rfl rfl, lin9, ⟨lne9.1, lne9.2.1, by decide +kernel⟩, lne9.2.2, ⟨mg3 130 rfl rfl, mg0 16 rfl rfl⟩⟩
def yC_Tk_comeFrom : MethodName := ⟨Rk9, "comeFrom", "(III)V"⟩
def qC_Tk_comeFrom : Mq := (prog_12_method_7_code, 4, Rk9, none)
theorem FC_Tk_comeFrom : Mf yC_Tk_comeFrom qC_Tk_comeFrom 3 false := ⟨mg3 135 rfl rfl, lin9, ⟨lne9.1, lne9.2.1, by decide +kernel⟩, lne9.2.2, ⟨mg3 134 rfl rfl, mg0 17 rfl rfl⟩⟩
def yC_Tk_beginAnew : MethodName := ⟨Rk9, "beginAnew", "(I)V"⟩
def qC_Tk_beginAnew : Mq := (prog_12_method_5_code, 3, Rk9, none)
theorem FC_Tk_beginAnew : Mf yC_Tk_beginAnew qC_Tk_beginAnew 1 false := ⟨mg3 127 rfl rfl, lin9, ⟨lne9.1, lne9.2.1, by decide +kernel⟩, lne9.2.2, ⟨mg3 126 rfl rfl, mg0 15 rfl rfl⟩⟩
def yC_Tk_addSegment : MethodName := ⟨Rk9, "addSegment", "(IIIII)V"⟩
def qC_Tk_addSegment : Mq := (prog_12_method_14_code, 6, Rk9, none)
theorem FC_Tk_addSegment : Mf yC_Tk_addSegment qC_Tk_addSegment 5 false := ⟨mg3 150 rfl rfl, lin9, ⟨lne9.1, lne9.2.1, by decide +kernel⟩, lne9.2.2, ⟨mg3 149 rfl rfl, mg0 19 rfl rfl⟩⟩
def yC_Tk_runTo : MethodName := ⟨Rk9, "runTo", "(III)V"⟩
def qC_Tk_runTo : Mq := (prog_12_method_13_code, 5, Rk9, none)
theorem FC_Tk_runTo : Mf yC_Tk_runTo qC_Tk_runTo 3 false := ⟨mg3 169 rfl rfl, lin9, ⟨lne9.1, lne9.2.1, by decide +kernel⟩, lne9.2.2, ⟨mg3 168 rfl rfl, mg0 20 rfl rfl⟩⟩
def yC_Tk_followCourseToFix : MethodName := ⟨Rk9, "followCourseToFix", "(I)V"⟩
def qC_Tk_followCourseToFix : Mq := (prog_12_method_8_code, 5, Rk9, none)
theorem FC_Tk_followCourseToFix : Mf yC_Tk_followCourseToFix qC_Tk_followCourseToFix 1 false := ⟨mg3 139 rfl rfl, lin9, ⟨lne9.1, lne9.2.1, by decide +kernel⟩, lne9.2.2, ⟨mg3 138 rfl rfl, mg0 18 rfl rfl⟩⟩
def yC_Sg_lengthFor : MethodName := ⟨Rk7, "lengthFor", "(II)I"⟩
def qC_Sg_lengthFor : Mq := (prog_10_method_4_code, 2, Rk7, some .int)
theorem FC_Sg_lengthFor : Mf yC_Sg_lengthFor qC_Sg_lengthFor 2 true := ⟨mg3 179 rfl rfl, lin7, ⟨lne7.1, lne7.2.1, by decide +kernel⟩, lne7.2.2, mg3 178 rfl rfl⟩
def yC_Tk_runOn : MethodName := ⟨Rk9, "runOn", "(II)V"⟩
def qC_Tk_runOn : Mq := (prog_12_method_12_code, 4, Rk9, none)
theorem FC_Tk_runOn : Mf yC_Tk_runOn qC_Tk_runOn 2 false := ⟨mg3 184 rfl rfl, lin9, ⟨lne9.1, lne9.2.1, by decide +kernel⟩, lne9.2.2, ⟨mg3 183 rfl rfl, mg0 22 rfl rfl⟩⟩
def yC_Tk_climbOnCourse : MethodName := ⟨Rk9, "climbOnCourse", "(I)V"⟩
def qC_Tk_climbOnCourse : Mq := (prog_12_method_9_code, 3, Rk9, none)
theorem FC_Tk_climbOnCourse : Mf yC_Tk_climbOnCourse qC_Tk_climbOnCourse 1 false := ⟨mg3 176 rfl rfl, lin9, ⟨lne9.1, lne9.2.1, by decide +kernel⟩, lne9.2.2, ⟨mg3 175 rfl rfl, mg0 21 rfl rfl⟩⟩
def yC_Pl_hasLeg : MethodName := ⟨Rk3, "hasLeg", "(I)Z"⟩
def qC_Pl_hasLeg : Mq := (prog_6_method_3_code, 2, Rk3, some .boolean)
theorem FC_Pl_hasLeg : Mf yC_Pl_hasLeg qC_Pl_hasLeg 1 false := ⟨mg3 196 rfl rfl, lin3, ⟨lne3.1, lne3.2.1, by decide +kernel⟩, lne3.2.2, ⟨mg3 194 rfl rfl, mg3 195 rfl rfl⟩⟩
def yC_Tk_interception : MethodName := ⟨Rk9, "interception", "(I)I"⟩
def qC_Tk_interception : Mq := (prog_12_method_11_code, 23, Rk9, some .int)
theorem FC_Tk_interception : Mf yC_Tk_interception qC_Tk_interception 1 false := ⟨mg3 192 rfl rfl, lin9, ⟨lne9.1, lne9.2.1, by decide +kernel⟩, lne9.2.2, ⟨mg3 191 rfl rfl, mg0 24 rfl rfl⟩⟩
def yC_Tk_followToInterception : MethodName := ⟨Rk9, "followToInterception", "(I)V"⟩
def qC_Tk_followToInterception : Mq := (prog_12_method_10_code, 3, Rk9, none)
theorem FC_Tk_followToInterception : Mf yC_Tk_followToInterception qC_Tk_followToInterception 1 false := ⟨mg3 188 rfl rfl, lin9, ⟨lne9.1, lne9.2.1, by decide +kernel⟩, lne9.2.2, ⟨mg3 187 rfl rfl, mg0 23 rfl rfl⟩⟩
def yC_Tk_hold : MethodName := ⟨Rk9, "hold", "(I)V"⟩
def qC_Tk_hold : Mq := (prog_12_method_15_code, 4, Rk9, none)
theorem FC_Tk_hold : Mf yC_Tk_hold qC_Tk_hold 1 false := ⟨mg3 204 rfl rfl, lin9, ⟨lne9.1, lne9.2.1, by decide +kernel⟩, lne9.2.2, ⟨mg3 203 rfl rfl, mg0 25 rfl rfl⟩⟩
def yC_Tk_layLeg : MethodName := ⟨Rk9, "layLeg", "(I)V"⟩
def qC_Tk_layLeg : Mq := (prog_12_method_3_code, 3, Rk9, none)
theorem FC_Tk_layLeg : Mf yC_Tk_layLeg qC_Tk_layLeg 1 false := ⟨mg3 111 rfl rfl, lin9, ⟨lne9.1, lne9.2.1, by decide +kernel⟩, lne9.2.2, ⟨mg3 109 rfl rfl, mg3 110 rfl rfl⟩⟩
def yC_Sg_airSpeed : MethodName := ⟨Rk7, "airSpeed", "(I)I"⟩
def qC_Sg_airSpeed : Mq := (prog_10_method_2_code, 2, Rk7, some .int)
theorem FC_Sg_airSpeed : Mf yC_Sg_airSpeed qC_Sg_airSpeed 1 false := ⟨mg3 229 rfl rfl, lin7, ⟨lne7.1, lne7.2.1, by decide +kernel⟩, lne7.2.2, ⟨mg3 227 rfl rfl, mg3 228 rfl rfl⟩⟩
def yC_Sg_groundSpeed : MethodName := ⟨Rk7, "groundSpeed", "(II)I"⟩
def qC_Sg_groundSpeed : Mq := (prog_10_method_3_code, 4, Rk7, some .int)
theorem FC_Sg_groundSpeed : Mf yC_Sg_groundSpeed qC_Sg_groundSpeed 2 false := ⟨mg3 223 rfl rfl, lin7, ⟨lne7.1, lne7.2.1, by decide +kernel⟩, lne7.2.2, ⟨mg3 221 rfl rfl, mg3 222 rfl rfl⟩⟩
def yC_Tk_fastest : MethodName := ⟨Rk9, "fastest", "(I)I"⟩
def qC_Tk_fastest : Mq := (prog_12_method_18_code, 4, Rk9, some .int)
theorem FC_Tk_fastest : Mf yC_Tk_fastest qC_Tk_fastest 1 false := ⟨mg3 219 rfl rfl, lin9, ⟨lne9.1, lne9.2.1, by decide +kernel⟩, lne9.2.2, ⟨mg3 218 rfl rfl, mg0 27 rfl rfl⟩⟩
def yC_Tk_leadOf : MethodName := ⟨Rk9, "leadOf", "(II)I"⟩
def qC_Tk_leadOf : Mq := (prog_12_method_17_code, 2, Rk9, some .int)
theorem FC_Tk_leadOf : Mf yC_Tk_leadOf qC_Tk_leadOf 2 true := ⟨mg3 238 rfl rfl, lin9, ⟨lne9.1, lne9.2.1, by decide +kernel⟩, lne9.2.2, mg3 237 rfl rfl⟩
def yC_Tk_mustBeFlownOver : MethodName := ⟨Rk9, "mustBeFlownOver", "(I)Z"⟩
def qC_Tk_mustBeFlownOver : Mq := (prog_12_method_19_code, 3, Rk9, some .boolean)
theorem FC_Tk_mustBeFlownOver : Mf yC_Tk_mustBeFlownOver qC_Tk_mustBeFlownOver 1 false := ⟨mg4 4 rfl rfl, lin9, ⟨lne9.1, lne9.2.1, by decide +kernel⟩, lne9.2.2, ⟨mg4 3 rfl rfl, mg0 28 rfl rfl⟩⟩
def yC_Tk_tellLegOfTurn : MethodName := ⟨Rk9, "tellLegOfTurn", "(I)V"⟩
def qC_Tk_tellLegOfTurn : Mq := (prog_12_method_20_code, 3, Rk9, none)
theorem FC_Tk_tellLegOfTurn : Mf yC_Tk_tellLegOfTurn qC_Tk_tellLegOfTurn 1 false := ⟨mg4 8 rfl rfl, lin9, ⟨lne9.1, lne9.2.1, by decide +kernel⟩, lne9.2.2, ⟨mg4 7 rfl rfl, mg0 29 rfl rfl⟩⟩
def yC_Tk_turnInto : MethodName := ⟨Rk9, "turnInto", "(I)V"⟩
def qC_Tk_turnInto : Mq := (prog_12_method_16_code, 9, Rk9, none)
theorem FC_Tk_turnInto : Mf yC_Tk_turnInto qC_Tk_turnInto 1 false := ⟨mg3 214 rfl rfl, lin9, ⟨lne9.1, lne9.2.1, by decide +kernel⟩, lne9.2.2, ⟨mg3 213 rfl rfl, mg0 26 rfl rfl⟩⟩
def yC_Pc_clear : MethodName := ⟨Rk2, "clear", "()V"⟩
def qC_Pc_clear : Mq := (prog_5_method_2_code, 1, Rk2, none)
theorem FC_Pc_clear : Mf yC_Pc_clear qC_Pc_clear 0 false := ⟨mg4 12 rfl rfl, lin2, ⟨lne2.1, lne2.2.1, by decide +kernel⟩, lne2.2.2, ⟨mg4 10 rfl rfl, mg4 11 rfl rfl⟩⟩
def yC_Pc_beginLeg : MethodName := ⟨Rk2, "beginLeg", "(I)V"⟩
def qC_Pc_beginLeg : Mq := (prog_5_method_3_code, 2, Rk2, none)
theorem FC_Pc_beginLeg : Mf yC_Pc_beginLeg qC_Pc_beginLeg 1 false := ⟨mg4 16 rfl rfl, lin2, ⟨lne2.1, lne2.2.1, by decide +kernel⟩, lne2.2.2, ⟨mg4 14 rfl rfl, mg4 15 rfl rfl⟩⟩
def yC_Pc_addPiece : MethodName := ⟨Rk2, "addPiece", "(IIIIII)V"⟩
def qC_Pc_addPiece : Mq := (prog_5_method_6_code, 7, Rk2, none)
theorem FC_Pc_addPiece : Mf yC_Pc_addPiece qC_Pc_addPiece 6 false := ⟨mg4 42 rfl rfl, lin2, ⟨lne2.1, lne2.2.1, by decide +kernel⟩, lne2.2.2, ⟨mg4 41 rfl rfl, mg0 32 rfl rfl⟩⟩
def yC_Pc_drawArc : MethodName := ⟨Rk2, "drawArc", "(III)V"⟩
def qC_Pc_drawArc : Mq := (prog_5_method_7_code, 6, Rk2, none)
theorem FC_Pc_drawArc : Mf yC_Pc_drawArc qC_Pc_drawArc 3 false := ⟨mg4 32 rfl rfl, lin2, ⟨lne2.1, lne2.2.1, by decide +kernel⟩, lne2.2.2, ⟨mg4 31 rfl rfl, mg0 31 rfl rfl⟩⟩
def yC_Pc_drawArcOver : MethodName := ⟨Rk2, "drawArcOver", "(I)V"⟩
def qC_Pc_drawArcOver : Mq := (prog_5_method_11_code, 8, Rk2, none)
theorem FC_Pc_drawArcOver : Mf yC_Pc_drawArcOver qC_Pc_drawArcOver 1 false := ⟨mg4 26 rfl rfl, lin2, ⟨lne2.1, lne2.2.1, by decide +kernel⟩, lne2.2.2, ⟨mg4 25 rfl rfl, mg0 30 rfl rfl⟩⟩
def yC_Pc_drawDirect : MethodName := ⟨Rk2, "drawDirect", "(I)V"⟩
def qC_Pc_drawDirect : Mq := (prog_5_method_12_code, 9, Rk2, none)
theorem FC_Pc_drawDirect : Mf yC_Pc_drawDirect qC_Pc_drawDirect 1 false := ⟨mg4 48 rfl rfl, lin2, ⟨lne2.1, lne2.2.1, by decide +kernel⟩, lne2.2.2, ⟨mg4 47 rfl rfl, mg0 33 rfl rfl⟩⟩
def yC_Pc_lengthToRegain : MethodName := ⟨Rk2, "lengthToRegain", "(I)I"⟩
def qC_Pc_lengthToRegain : Mq := (prog_5_method_14_code, 9, Rk2, some .int)
theorem FC_Pc_lengthToRegain : Mf yC_Pc_lengthToRegain qC_Pc_lengthToRegain 1 false := ⟨mg4 61 rfl rfl, lin2, ⟨lne2.1, lne2.2.1, by decide +kernel⟩, lne2.2.2, ⟨mg4 60 rfl rfl, mg0 35 rfl rfl⟩⟩
def yC_Pc_onSegmentX : MethodName := ⟨Rk2, "onSegmentX", "(II)I"⟩
def qC_Pc_onSegmentX : Mq := (prog_5_method_9_code, 4, Rk2, some .int)
theorem FC_Pc_onSegmentX : Mf yC_Pc_onSegmentX qC_Pc_onSegmentX 2 false := ⟨mg4 67 rfl rfl, lin2, ⟨lne2.1, lne2.2.1, by decide +kernel⟩, lne2.2.2, ⟨mg4 66 rfl rfl, mg0 36 rfl rfl⟩⟩
def yC_Pc_onSegmentY : MethodName := ⟨Rk2, "onSegmentY", "(II)I"⟩
def qC_Pc_onSegmentY : Mq := (prog_5_method_10_code, 4, Rk2, some .int)
theorem FC_Pc_onSegmentY : Mf yC_Pc_onSegmentY qC_Pc_onSegmentY 2 false := ⟨mg4 71 rfl rfl, lin2, ⟨lne2.1, lne2.2.1, by decide +kernel⟩, lne2.2.2, ⟨mg4 70 rfl rfl, mg0 37 rfl rfl⟩⟩
def yC_Pc_drawRest : MethodName := ⟨Rk2, "drawRest", "(II)V"⟩
def qC_Pc_drawRest : Mq := (prog_5_method_8_code, 8, Rk2, none)
theorem FC_Pc_drawRest : Mf yC_Pc_drawRest qC_Pc_drawRest 2 false := ⟨mg4 75 rfl rfl, lin2, ⟨lne2.1, lne2.2.1, by decide +kernel⟩, lne2.2.2, ⟨mg4 74 rfl rfl, mg0 38 rfl rfl⟩⟩
def yC_Pc_drawRegaining : MethodName := ⟨Rk2, "drawRegaining", "(I)V"⟩
def qC_Pc_drawRegaining : Mq := (prog_5_method_13_code, 7, Rk2, none)
theorem FC_Pc_drawRegaining : Mf yC_Pc_drawRegaining qC_Pc_drawRegaining 1 false := ⟨mg4 57 rfl rfl, lin2, ⟨lne2.1, lne2.2.1, by decide +kernel⟩, lne2.2.2, ⟨mg4 56 rfl rfl, mg0 34 rfl rfl⟩⟩
def yC_Pc_drawSegment : MethodName := ⟨Rk2, "drawSegment", "(I)V"⟩
def qC_Pc_drawSegment : Mq := (prog_5_method_4_code, 4, Rk2, none)
theorem FC_Pc_drawSegment : Mf yC_Pc_drawSegment qC_Pc_drawSegment 1 false := ⟨mg4 22 rfl rfl, lin2, ⟨lne2.1, lne2.2.1, by decide +kernel⟩, lne2.2.2, ⟨mg4 20 rfl rfl, mg4 21 rfl rfl⟩⟩
def yC_Pc_drawPattern : MethodName := ⟨Rk2, "drawPattern", "(I)V"⟩
def qC_Pc_drawPattern : Mq := (prog_5_method_15_code, 10, Rk2, none)
theorem FC_Pc_drawPattern : Mf yC_Pc_drawPattern qC_Pc_drawPattern 1 false := ⟨mg4 83 rfl rfl, lin2, ⟨lne2.1, lne2.2.1, by decide +kernel⟩, lne2.2.2, ⟨mg4 82 rfl rfl, mg0 39 rfl rfl⟩⟩
def yC_Pc_addToLeg : MethodName := ⟨Rk2, "addToLeg", "(II)V"⟩
def qC_Pc_addToLeg : Mq := (prog_5_method_16_code, 8, Rk2, none)
theorem FC_Pc_addToLeg : Mf yC_Pc_addToLeg qC_Pc_addToLeg 2 false := ⟨mg4 89 rfl rfl, lin2, ⟨lne2.1, lne2.2.1, by decide +kernel⟩, lne2.2.2, ⟨mg4 88 rfl rfl, mg0 40 rfl rfl⟩⟩
def yC_Pc_endLeg : MethodName := ⟨Rk2, "endLeg", "(I)V"⟩
def qC_Pc_endLeg : Mq := (prog_5_method_5_code, 3, Rk2, none)
theorem FC_Pc_endLeg : Mf yC_Pc_endLeg qC_Pc_endLeg 1 false := ⟨mg4 79 rfl rfl, lin2, ⟨lne2.1, lne2.2.1, by decide +kernel⟩, lne2.2.2, ⟨mg4 77 rfl rfl, mg4 78 rfl rfl⟩⟩
def yC_Sg_changeOver : MethodName := ⟨Rk7, "changeOver", "(II)I"⟩
def qC_Sg_changeOver : Mq := (prog_10_method_5_code, 2, Rk7, some .int)
theorem FC_Sg_changeOver : Mf yC_Sg_changeOver qC_Sg_changeOver 2 true := ⟨mg4 102 rfl rfl, lin7, ⟨lne7.1, lne7.2.1, by decide +kernel⟩, lne7.2.2, mg4 101 rfl rfl⟩
def yC_Pf_heightBefore : MethodName := ⟨Rk4, "heightBefore", "(II)I"⟩
def qC_Pf_heightBefore : Mq := (prog_7_method_3_code, 3, Rk4, some .int)
theorem FC_Pf_heightBefore : Mf yC_Pf_heightBefore qC_Pf_heightBefore 2 false := ⟨mg4 107 rfl rfl, lin4, ⟨lne4.1, lne4.2.1, by decide +kernel⟩, lne4.2.2, ⟨mg4 106 rfl rfl, mg0 42 rfl rfl⟩⟩
def yC_Pf_climb : MethodName := ⟨Rk4, "climb", "(I)V"⟩
def qC_Pf_climb : Mq := (prog_7_method_4_code, 5, Rk4, none)
theorem FC_Pf_climb : Mf yC_Pf_climb qC_Pf_climb 1 false := ⟨mg4 98 rfl rfl, lin4, ⟨lne4.1, lne4.2.1, by decide +kernel⟩, lne4.2.2, ⟨mg4 97 rfl rfl, mg0 41 rfl rfl⟩⟩
def yC_Pf_descend : MethodName := ⟨Rk4, "descend", "(I)V"⟩
def qC_Pf_descend : Mq := (prog_7_method_5_code, 6, Rk4, none)
theorem FC_Pf_descend : Mf yC_Pf_descend qC_Pf_descend 1 false := ⟨mg4 113 rfl rfl, lin4, ⟨lne4.1, lne4.2.1, by decide +kernel⟩, lne4.2.2, ⟨mg4 112 rfl rfl, mg0 43 rfl rfl⟩⟩
def yC_Pf_violationOf : MethodName := ⟨Rk4, "violationOf", "(I)I"⟩
def qC_Pf_violationOf : Mq := (prog_7_method_6_code, 7, Rk4, some .int)
theorem FC_Pf_violationOf : Mf yC_Pf_violationOf qC_Pf_violationOf 1 false := ⟨mg4 118 rfl rfl, lin4, ⟨lne4.1, lne4.2.1, by decide +kernel⟩, lne4.2.2, ⟨mg4 117 rfl rfl, mg0 44 rfl rfl⟩⟩
def yC_Pf_calculate : MethodName := ⟨Rk4, "calculate", "()V"⟩
def qC_Pf_calculate : Mq := (prog_7_method_2_code, 2, Rk4, none)
theorem FC_Pf_calculate : Mf yC_Pf_calculate qC_Pf_calculate 0 false := ⟨mg4 94 rfl rfl, lin4, ⟨lne4.1, lne4.2.1, by decide +kernel⟩, lne4.2.2, ⟨mg4 92 rfl rfl, mg4 93 rfl rfl⟩⟩
def yC_Pa_refresh : MethodName := ⟨Rk1, "refresh", "()V"⟩
def qC_Pa_refresh : Mq := (prog_4_method_2_code, 3, Rk1, none)
theorem FC_Pa_refresh : Mf yC_Pa_refresh qC_Pa_refresh 0 false := ⟨mg3 96 rfl rfl, lin1, ⟨lne1.1, lne1.2.1, by decide +kernel⟩, lne1.2.2, ⟨mg3 94 rfl rfl, mg3 95 rfl rfl⟩⟩
def yC_Pa_gapBefore : MethodName := ⟨Rk1, "gapBefore", "(I)Z"⟩
def qC_Pa_gapBefore : Mq := (prog_4_method_3_code, 2, Rk1, some .boolean)
theorem FC_Pa_gapBefore : Mf yC_Pa_gapBefore qC_Pa_gapBefore 1 false := ⟨mg4 223 rfl rfl, lin1, ⟨lne1.1, lne1.2.1, by decide +kernel⟩, lne1.2.2, ⟨mg4 221 rfl rfl, mg4 222 rfl rfl⟩⟩
def yC_Pa_gaps : MethodName := ⟨Rk1, "gaps", "()I"⟩
def qC_Pa_gaps : Mq := (prog_4_method_4_code, 3, Rk1, some .int)
theorem FC_Pa_gaps : Mf yC_Pa_gaps qC_Pa_gaps 0 false := ⟨mg4 219 rfl rfl, lin1, ⟨lne1.1, lne1.2.1, by decide +kernel⟩, lne1.2.2, ⟨mg4 217 rfl rfl, mg4 218 rfl rfl⟩⟩
def yC_Pa_violations : MethodName := ⟨Rk1, "violations", "()I"⟩
def qC_Pa_violations : Mq := (prog_4_method_5_code, 3, Rk1, some .int)
theorem FC_Pa_violations : Mf yC_Pa_violations qC_Pa_violations 0 false := ⟨mg4 231 rfl rfl, lin1, ⟨lne1.1, lne1.2.1, by decide +kernel⟩, lne1.2.2, ⟨mg4 229 rfl rfl, mg4 230 rfl rfl⟩⟩
def yC_Pa_lengthOf : MethodName := ⟨Rk1, "lengthOf", "(II)I"⟩
def qC_Pa_lengthOf : Mq := (prog_4_method_6_code, 5, Rk1, some .int)
theorem FC_Pa_lengthOf : Mf yC_Pa_lengthOf qC_Pa_lengthOf 2 false := ⟨mg5 106 rfl rfl, lin1, ⟨lne1.1, lne1.2.1, by decide +kernel⟩, lne1.2.2, ⟨mg5 104 rfl rfl, mg5 105 rfl rfl⟩⟩
def yC_Pa_time : MethodName := ⟨Rk1, "time", "()I"⟩
def qC_Pa_time : Mq := (prog_4_method_7_code, 3, Rk1, some .int)
theorem FC_Pa_time : Mf yC_Pa_time qC_Pa_time 0 false := ⟨mg6 44 rfl rfl, lin1, ⟨lne1.1, lne1.2.1, by decide +kernel⟩, lne1.2.2, ⟨mg6 42 rfl rfl, mg6 43 rfl rfl⟩⟩
def yC_Pf_lastHighestLeg : MethodName := ⟨Rk4, "lastHighestLeg", "()I"⟩
def qC_Pf_lastHighestLeg : Mq := (prog_7_method_8_code, 3, Rk4, some .int)
theorem FC_Pf_lastHighestLeg : Mf yC_Pf_lastHighestLeg qC_Pf_lastHighestLeg 0 false := ⟨mg6 20 rfl rfl, lin4, ⟨lne4.1, lne4.2.1, by decide +kernel⟩, lne4.2.2, ⟨mg6 18 rfl rfl, mg6 19 rfl rfl⟩⟩
def yC_Pf_descentLength : MethodName := ⟨Rk4, "descentLength", "(I)I"⟩
def qC_Pf_descentLength : Mq := (prog_7_method_9_code, 3, Rk4, some .int)
theorem FC_Pf_descentLength : Mf yC_Pf_descentLength qC_Pf_descentLength 1 false := ⟨mg6 25 rfl rfl, lin4, ⟨lne4.1, lne4.2.1, by decide +kernel⟩, lne4.2.2, ⟨mg6 23 rfl rfl, mg6 24 rfl rfl⟩⟩
def yC_Pa_topOfDescentLength : MethodName := ⟨Rk1, "topOfDescentLength", "()I"⟩
def qC_Pa_topOfDescentLength : Mq := (prog_4_method_8_code, 3, Rk1, some .int)
theorem FC_Pa_topOfDescentLength : Mf yC_Pa_topOfDescentLength qC_Pa_topOfDescentLength 0 false := ⟨mg6 16 rfl rfl, lin1, ⟨lne1.1, lne1.2.1, by decide +kernel⟩, lne1.2.2, ⟨mg6 14 rfl rfl, mg6 15 rfl rfl⟩⟩
def yC_Pl_putPlainLeg : MethodName := ⟨Rk3, "putPlainLeg", "(LFlightLegs$Table;II)V"⟩
def qC_Pl_putPlainLeg : Mq := (prog_6_method_2_code, 4, Rk3, none)
theorem FC_Pl_putPlainLeg : Mf yC_Pl_putPlainLeg qC_Pl_putPlainLeg 3 true := ⟨mg3 34 rfl rfl, lin3, ⟨lne3.1, lne3.2.1, by decide +kernel⟩, lne3.2.2, mg3 33 rfl rfl⟩
def yC_Pl_copyFrom : MethodName := ⟨Rk3, "copyFrom", "(LFlightLegs$Plan;)V"⟩
def qC_Pl_copyFrom : Mq := (prog_6_method_5_code, 2, Rk3, none)
theorem FC_Pl_copyFrom : Mf yC_Pl_copyFrom qC_Pl_copyFrom 1 false := ⟨mg4 167 rfl rfl, lin3, ⟨lne3.1, lne3.2.1, by decide +kernel⟩, lne3.2.2, ⟨mg4 165 rfl rfl, mg4 166 rfl rfl⟩⟩
def yC_Pl_restart : MethodName := ⟨Rk3, "restart", "()V"⟩
def qC_Pl_restart : Mq := (prog_6_method_11_code, 1, Rk3, none)
theorem FC_Pl_restart : Mf yC_Pl_restart qC_Pl_restart 0 false := ⟨mg4 176 rfl rfl, lin3, ⟨lne3.1, lne3.2.1, by decide +kernel⟩, lne3.2.2, ⟨mg4 175 rfl rfl, mg0 46 rfl rfl⟩⟩
def yC_Pl_replaceAll : MethodName := ⟨Rk3, "replaceAll", "(LFlightLegs$Table;I)V"⟩
def qC_Pl_replaceAll : Mq := (prog_6_method_6_code, 3, Rk3, none)
theorem FC_Pl_replaceAll : Mf yC_Pl_replaceAll qC_Pl_replaceAll 2 false := ⟨mg4 172 rfl rfl, lin3, ⟨lne3.1, lne3.2.1, by decide +kernel⟩, lne3.2.2, ⟨mg4 170 rfl rfl, mg4 171 rfl rfl⟩⟩
def yC_Pl_legsUpToFix : MethodName := ⟨Rk3, "legsUpToFix", "(II)I"⟩
def qC_Pl_legsUpToFix : Mq := (prog_6_method_7_code, 4, Rk3, some .int)
theorem FC_Pl_legsUpToFix : Mf yC_Pl_legsUpToFix qC_Pl_legsUpToFix 2 false := ⟨mg4 190 rfl rfl, lin3, ⟨lne3.1, lne3.2.1, by decide +kernel⟩, lne3.2.2, ⟨mg4 188 rfl rfl, mg4 189 rfl rfl⟩⟩
def yC_Pl_splice : MethodName := ⟨Rk3, "splice", "(IILFlightLegs$Table;I)V"⟩
def qC_Pl_splice : Mq := (prog_6_method_8_code, 5, Rk3, none)
theorem FC_Pl_splice : Mf yC_Pl_splice qC_Pl_splice 4 false := ⟨mg4 194 rfl rfl, lin3, ⟨lne3.1, lne3.2.1, by decide +kernel⟩, lne3.2.2, ⟨mg4 192 rfl rfl, mg4 193 rfl rfl⟩⟩
def yC_Pl_removeLeg : MethodName := ⟨Rk3, "removeLeg", "(I)V"⟩
def qC_Pl_removeLeg : Mq := (prog_6_method_9_code, 2, Rk3, none)
theorem FC_Pl_removeLeg : Mf yC_Pl_removeLeg qC_Pl_removeLeg 1 false := ⟨mg4 203 rfl rfl, lin3, ⟨lne3.1, lne3.2.1, by decide +kernel⟩, lne3.2.2, ⟨mg4 201 rfl rfl, mg4 202 rfl rfl⟩⟩
def yC_Pl_goDirect : MethodName := ⟨Rk3, "goDirect", "(IIII)V"⟩
def qC_Pl_goDirect : Mq := (prog_6_method_10_code, 5, Rk3, none)
theorem FC_Pl_goDirect : Mf yC_Pl_goDirect qC_Pl_goDirect 4 false := ⟨mg5 27 rfl rfl, lin3, ⟨lne3.1, lne3.2.1, by decide +kernel⟩, lne3.2.2, ⟨mg5 25 rfl rfl, mg5 26 rfl rfl⟩⟩
def yC_Pf_heightOn : MethodName := ⟨Rk4, "heightOn", "(II)I"⟩
def qC_Pf_heightOn : Mq := (prog_7_method_7_code, 6, Rk4, some .int)
theorem FC_Pf_heightOn : Mf yC_Pf_heightOn qC_Pf_heightOn 2 false := ⟨mg6 4 rfl rfl, lin4, ⟨lne4.1, lne4.2.1, by decide +kernel⟩, lne4.2.2, ⟨mg6 2 rfl rfl, mg6 3 rfl rfl⟩⟩
def yC_Pg_restOfLeg : MethodName := ⟨Rk5, "restOfLeg", "()I"⟩
def qC_Pg_restOfLeg : Mq := (prog_8_method_2_code, 1, Rk5, some .int)
theorem FC_Pg_restOfLeg : Mf yC_Pg_restOfLeg qC_Pg_restOfLeg 0 false := ⟨mg5 63 rfl rfl, lin5, ⟨lne5.1, lne5.2.1, by decide +kernel⟩, lne5.2.2, ⟨mg5 62 rfl rfl, mg0 54 rfl rfl⟩⟩
def yC_Pg_cutToLeg : MethodName := ⟨Rk5, "cutToLeg", "()V"⟩
def qC_Pg_cutToLeg : Mq := (prog_8_method_3_code, 1, Rk5, none)
theorem FC_Pg_cutToLeg : Mf yC_Pg_cutToLeg qC_Pg_cutToLeg 0 false := ⟨mg4 123 rfl rfl, lin5, ⟨lne5.1, lne5.2.1, by decide +kernel⟩, lne5.2.2, ⟨mg4 121 rfl rfl, mg4 122 rfl rfl⟩⟩
def yC_Pg_beginNextLeg : MethodName := ⟨Rk5, "beginNextLeg", "()V"⟩
def qC_Pg_beginNextLeg : Mq := (prog_8_method_4_code, 1, Rk5, none)
theorem FC_Pg_beginNextLeg : Mf yC_Pg_beginNextLeg qC_Pg_beginNextLeg 0 false := ⟨mg5 69 rfl rfl, lin5, ⟨lne5.1, lne5.2.1, by decide +kernel⟩, lne5.2.2, ⟨mg5 67 rfl rfl, mg5 68 rfl rfl⟩⟩
def yC_Pg_waitsAtGap : MethodName := ⟨Rk5, "waitsAtGap", "()Z"⟩
def qC_Pg_waitsAtGap : Mq := (prog_8_method_5_code, 1, Rk5, some .boolean)
theorem FC_Pg_waitsAtGap : Mf yC_Pg_waitsAtGap qC_Pg_waitsAtGap 0 false := ⟨mg5 77 rfl rfl, lin5, ⟨lne5.1, lne5.2.1, by decide +kernel⟩, lne5.2.2, ⟨mg5 75 rfl rfl, mg5 76 rfl rfl⟩⟩
def yC_Pg_advance : MethodName := ⟨Rk5, "advance", "(I)I"⟩
def qC_Pg_advance : Mq := (prog_8_method_6_code, 5, Rk5, some .int)
theorem FC_Pg_advance : Mf yC_Pg_advance qC_Pg_advance 1 false := ⟨mg5 59 rfl rfl, lin5, ⟨lne5.1, lne5.2.1, by decide +kernel⟩, lne5.2.2, ⟨mg5 57 rfl rfl, mg5 58 rfl rfl⟩⟩
def yC_Pg_locateAtEnd : MethodName := ⟨Rk5, "locateAtEnd", "()Z"⟩
def qC_Pg_locateAtEnd : Mq := (prog_8_method_10_code, 3, Rk5, some .boolean)
theorem FC_Pg_locateAtEnd : Mf yC_Pg_locateAtEnd qC_Pg_locateAtEnd 0 false := ⟨mg5 15 rfl rfl, lin5, ⟨lne5.1, lne5.2.1, by decide +kernel⟩, lne5.2.2, ⟨mg5 14 rfl rfl, mg0 51 rfl rfl⟩⟩
def yC_Pg_between : MethodName := ⟨Rk5, "between", "(IIII)I"⟩
def qC_Pg_between : Mq := (prog_8_method_9_code, 4, Rk5, some .int)
theorem FC_Pg_between : Mf yC_Pg_between qC_Pg_between 4 true := ⟨mg5 23 rfl rfl, lin5, ⟨lne5.1, lne5.2.1, by decide +kernel⟩, lne5.2.2, mg5 22 rfl rfl⟩
def yC_Pg_locateOn : MethodName := ⟨Rk5, "locateOn", "(II)Z"⟩
def qC_Pg_locateOn : Mq := (prog_8_method_8_code, 5, Rk5, some .boolean)
theorem FC_Pg_locateOn : Mf yC_Pg_locateOn qC_Pg_locateOn 2 false := ⟨mg5 20 rfl rfl, lin5, ⟨lne5.1, lne5.2.1, by decide +kernel⟩, lne5.2.2, ⟨mg5 19 rfl rfl, mg0 52 rfl rfl⟩⟩
def yC_Pg_locate : MethodName := ⟨Rk5, "locate", "()Z"⟩
def qC_Pg_locate : Mq := (prog_8_method_7_code, 5, Rk5, some .boolean)
theorem FC_Pg_locate : Mf yC_Pg_locate qC_Pg_locate 0 false := ⟨mg5 11 rfl rfl, lin5, ⟨lne5.1, lne5.2.1, by decide +kernel⟩, lne5.2.2, ⟨mg5 9 rfl rfl, mg5 10 rfl rfl⟩⟩
def yC_Rx_append : MethodName := ⟨Rk6, "append", "(I)Z"⟩
def qC_Rx_append : Mq := (prog_9_method_2_code, 2, Rk6, some .boolean)
theorem FC_Rx_append : Mf yC_Rx_append qC_Rx_append 1 false := ⟨mg2 186 rfl rfl, lin6, ⟨lne6.1, lne6.2.1, by decide +kernel⟩, lne6.2.2, ⟨mg2 184 rfl rfl, mg2 185 rfl rfl⟩⟩
def yC_Rx_byteAt : MethodName := ⟨Rk6, "byteAt", "(I)I"⟩
def qC_Rx_byteAt : Mq := (prog_9_method_4_code, 2, Rk6, some .int)
theorem FC_Rx_byteAt : Mf yC_Rx_byteAt qC_Rx_byteAt 1 false := ⟨mg2 207 rfl rfl, lin6, ⟨lne6.1, lne6.2.1, by decide +kernel⟩, lne6.2.2, ⟨mg2 206 rfl rfl, mg0 1 rfl rfl⟩⟩
def yC_Rx_classOf : MethodName := ⟨Rk6, "classOf", "(I)I"⟩
def qC_Rx_classOf : Mq := (prog_9_method_5_code, 1, Rk6, some .int)
theorem FC_Rx_classOf : Mf yC_Rx_classOf qC_Rx_classOf 1 true := ⟨mg2 210 rfl rfl, lin6, ⟨lne6.1, lne6.2.1, by decide +kernel⟩, lne6.2.2, mg2 209 rfl rfl⟩
def yC_Rx_nextToken : MethodName := ⟨Rk6, "nextToken", "()V"⟩
def qC_Rx_nextToken : Mq := (prog_9_method_6_code, 1, Rk6, none)
theorem FC_Rx_nextToken : Mf yC_Rx_nextToken qC_Rx_nextToken 0 false := ⟨mg2 203 rfl rfl, lin6, ⟨lne6.1, lne6.2.1, by decide +kernel⟩, lne6.2.2, ⟨mg2 202 rfl rfl, mg0 0 rfl rfl⟩⟩
def yC_Rx_tokenLength : MethodName := ⟨Rk6, "tokenLength", "()I"⟩
def qC_Rx_tokenLength : Mq := (prog_9_method_7_code, 1, Rk6, some .int)
theorem FC_Rx_tokenLength : Mf yC_Rx_tokenLength qC_Rx_tokenLength 0 false := ⟨mg2 222 rfl rfl, lin6, ⟨lne6.1, lne6.2.1, by decide +kernel⟩, lne6.2.2, ⟨mg2 221 rfl rfl, mg0 4 rfl rfl⟩⟩
def yC_Sn_coder : MethodName := ⟨Rx2, "coder", "()B"⟩
def qC_Sn_coder : Mq := (prog_16_method_152_code, 1, Rx2, some .byte)
theorem FC_Sn_coder : Mf yC_Sn_coder qC_Sn_coder 0 false := ⟨mg2 231 rfl rfl, linx2, ⟨lnex2.1, lnex2.2.1, by decide +kernel⟩, lnex2.2.2, ⟨mg2 229 rfl rfl, mg2 230 rfl rfl⟩⟩
def yC_Sn_length : MethodName := ⟨Rx2, "length", "()I"⟩
def qC_Sn_length : Mq := (prog_16_method_54_code, 1, Rx2, some .int)
theorem FC_Sn_length : Mf yC_Sn_length qC_Sn_length 0 false := ⟨mg2 227 rfl rfl, linx2, ⟨lnex2.1, lnex2.2.1, by decide +kernel⟩, lnex2.2.2, ⟨mg2 225 rfl rfl, mg2 226 rfl rfl⟩⟩
def yC_Sn_isLatin1 : MethodName := ⟨Rx2, "isLatin1", "()Z"⟩
def qC_Sn_isLatin1 : Mq := (prog_16_method_154_code, 1, Rx2, some .boolean)
theorem FC_Sn_isLatin1 : Mf yC_Sn_isLatin1 qC_Sn_isLatin1 0 false := ⟨mg3 1 rfl rfl, linx2, ⟨lnex2.1, lnex2.2.1, by decide +kernel⟩, lnex2.2.2, ⟨mg2 239 rfl rfl, mg3 0 rfl rfl⟩⟩
def yC_Pr_checkIndex : MethodName := ⟨Rx4, "checkIndex", "(IILjava/util/function/BiFunction;)I"⟩
def qC_Pr_checkIndex : Mq := (prog_21_method_11_code, 3, Rx4, some .int)
theorem FC_Pr_checkIndex : Mf yC_Pr_checkIndex qC_Pr_checkIndex 3 true := ⟨mg3 12 rfl rfl, linx4, ⟨lnex4.1, lnex4.2.1, by decide +kernel⟩, lnex4.2.2, mg3 11 rfl rfl⟩
def yC_Sn_checkIndex : MethodName := ⟨Rx2, "checkIndex", "(II)V"⟩
def qC_Sn_checkIndex : Mq := (prog_16_method_155_code, 2, Rx2, none)
theorem FC_Sn_checkIndex : Mf yC_Sn_checkIndex qC_Sn_checkIndex 2 true := ⟨mg3 7 rfl rfl, linx2, ⟨lnex2.1, lnex2.2.1, by decide +kernel⟩, lnex2.2.2, mg3 6 rfl rfl⟩
def yC_SL_charAt : MethodName := ⟨Rx3, "charAt", "([BI)C"⟩
def qC_SL_charAt : Mq := (prog_17_method_2_code, 2, Rx3, some .char)
theorem FC_SL_charAt : Mf yC_SL_charAt qC_SL_charAt 2 true := ⟨mg3 4 rfl rfl, linx3, ⟨lnex3.1, lnex3.2.1, by decide +kernel⟩, lnex3.2.2, mg3 3 rfl rfl⟩
def yC_Sn_charAt : MethodName := ⟨Rx2, "charAt", "(I)C"⟩
def qC_Sn_charAt : Mq := (prog_16_method_56_code, 2, Rx2, some .char)
theorem FC_Sn_charAt : Mf yC_Sn_charAt qC_Sn_charAt 1 false := ⟨mg2 237 rfl rfl, linx2, ⟨lnex2.1, lnex2.2.1, by decide +kernel⟩, lnex2.2.2, ⟨mg2 235 rfl rfl, mg2 236 rfl rfl⟩⟩
def yC_Rx_kindNamed : MethodName := ⟨Rk6, "kindNamed", "()I"⟩
def qC_Rx_kindNamed : Mq := (prog_9_method_9_code, 2, Rk6, some .int)
theorem FC_Rx_kindNamed : Mf yC_Rx_kindNamed qC_Rx_kindNamed 0 false := ⟨mg2 218 rfl rfl, lin6, ⟨lne6.1, lne6.2.1, by decide +kernel⟩, lne6.2.2, ⟨mg2 217 rfl rfl, mg0 3 rfl rfl⟩⟩
def yC_Rx_readFix : MethodName := ⟨Rk6, "readFix", "(I)Z"⟩
def qC_Rx_readFix : Mq := (prog_9_method_10_code, 3, Rk6, some .boolean)
theorem FC_Rx_readFix : Mf yC_Rx_readFix qC_Rx_readFix 1 false := ⟨mg3 43 rfl rfl, lin6, ⟨lne6.1, lne6.2.1, by decide +kernel⟩, lne6.2.2, ⟨mg3 42 rfl rfl, mg0 5 rfl rfl⟩⟩
def yC_FL_within : MethodName := ⟨Rk10, "within", "(III)Z"⟩
def qC_FL_within : Mq := (prog_1_method_62_code, 3, Rk10, some .boolean)
theorem FC_FL_within : Mf yC_FL_within qC_FL_within 3 true := ⟨mg2 181 rfl rfl, lin10, ⟨lne10.1, lne10.2.1, by decide +kernel⟩, lne10.2.2, mg2 180 rfl rfl⟩
def yC_Rx_readNumber : MethodName := ⟨Rk6, "readNumber", "(IIII)Z"⟩
def qC_Rx_readNumber : Mq := (prog_9_method_13_code, 7, Rk6, some .boolean)
theorem FC_Rx_readNumber : Mf yC_Rx_readNumber qC_Rx_readNumber 4 false := ⟨mg3 52 rfl rfl, lin6, ⟨lne6.1, lne6.2.1, by decide +kernel⟩, lne6.2.2, ⟨mg3 51 rfl rfl, mg0 6 rfl rfl⟩⟩
def yC_Rx_readSide : MethodName := ⟨Rk6, "readSide", "(I)Z"⟩
def qC_Rx_readSide : Mq := (prog_9_method_12_code, 3, Rk6, some .boolean)
theorem FC_Rx_readSide : Mf yC_Rx_readSide qC_Rx_readSide 1 false := ⟨mg3 61 rfl rfl, lin6, ⟨lne6.1, lne6.2.1, by decide +kernel⟩, lne6.2.2, ⟨mg3 60 rfl rfl, mg0 8 rfl rfl⟩⟩
def yC_Rx_readPattern : MethodName := ⟨Rk6, "readPattern", "(I)Z"⟩
def qC_Rx_readPattern : Mq := (prog_9_method_11_code, 2, Rk6, some .boolean)
theorem FC_Rx_readPattern : Mf yC_Rx_readPattern qC_Rx_readPattern 1 false := ⟨mg3 57 rfl rfl, lin6, ⟨lne6.1, lne6.2.1, by decide +kernel⟩, lne6.2.2, ⟨mg3 56 rfl rfl, mg0 7 rfl rfl⟩⟩
def yC_Rx_readKind : MethodName := ⟨Rk6, "readKind", "(I)Z"⟩
def qC_Rx_readKind : Mq := (prog_9_method_8_code, 3, Rk6, some .boolean)
theorem FC_Rx_readKind : Mf yC_Rx_readKind qC_Rx_readKind 1 false := ⟨mg2 214 rfl rfl, lin6, ⟨lne6.1, lne6.2.1, by decide +kernel⟩, lne6.2.2, ⟨mg2 213 rfl rfl, mg0 2 rfl rfl⟩⟩
def yC_Rx_atLegEnd : MethodName := ⟨Rk6, "atLegEnd", "()Z"⟩
def qC_Rx_atLegEnd : Mq := (prog_9_method_14_code, 1, Rk6, some .boolean)
theorem FC_Rx_atLegEnd : Mf yC_Rx_atLegEnd qC_Rx_atLegEnd 0 false := ⟨mg3 69 rfl rfl, lin6, ⟨lne6.1, lne6.2.1, by decide +kernel⟩, lne6.2.2, ⟨mg3 68 rfl rfl, mg0 10 rfl rfl⟩⟩
def yC_Rx_readWindow : MethodName := ⟨Rk6, "readWindow", "(II)Z"⟩
def qC_Rx_readWindow : Mq := (prog_9_method_17_code, 4, Rk6, some .boolean)
theorem FC_Rx_readWindow : Mf yC_Rx_readWindow qC_Rx_readWindow 2 false := ⟨mg3 77 rfl rfl, lin6, ⟨lne6.1, lne6.2.1, by decide +kernel⟩, lne6.2.2, ⟨mg3 76 rfl rfl, mg0 12 rfl rfl⟩⟩
def yC_Rx_readAttribute : MethodName := ⟨Rk6, "readAttribute", "(I)Z"⟩
def qC_Rx_readAttribute : Mq := (prog_9_method_16_code, 3, Rk6, some .boolean)
theorem FC_Rx_readAttribute : Mf yC_Rx_readAttribute qC_Rx_readAttribute 1 false := ⟨mg3 73 rfl rfl, lin6, ⟨lne6.1, lne6.2.1, by decide +kernel⟩, lne6.2.2, ⟨mg3 72 rfl rfl, mg0 11 rfl rfl⟩⟩
def yC_Rx_readAttributes : MethodName := ⟨Rk6, "readAttributes", "(I)Z"⟩
def qC_Rx_readAttributes : Mq := (prog_9_method_15_code, 3, Rk6, some .boolean)
theorem FC_Rx_readAttributes : Mf yC_Rx_readAttributes qC_Rx_readAttributes 1 false := ⟨mg3 65 rfl rfl, lin6, ⟨lne6.1, lne6.2.1, by decide +kernel⟩, lne6.2.2, ⟨mg3 64 rfl rfl, mg0 9 rfl rfl⟩⟩
def yC_Rx_parse : MethodName := ⟨Rk6, "parse", "()I"⟩
def qC_Rx_parse : Mq := (prog_9_method_3_code, 2, Rk6, some .int)
theorem FC_Rx_parse : Mf yC_Rx_parse qC_Rx_parse 0 false := ⟨mg2 199 rfl rfl, lin6, ⟨lne6.1, lne6.2.1, by decide +kernel⟩, lne6.2.2, ⟨mg2 197 rfl rfl, mg2 198 rfl rfl⟩⟩
def yC_FL_type : MethodName := ⟨Rk10, "type", "(I)I"⟩
def qC_FL_type : Mq := (prog_1_method_2_code, 2, Rk10, some .int)
theorem FC_FL_type : Mf yC_FL_type qC_FL_type 1 false := ⟨mg2 178 rfl rfl, lin10, ⟨lne10.1, lne10.2.1, by decide +kernel⟩, lne10.2.2, ⟨mg2 176 rfl rfl, mg2 177 rfl rfl⟩⟩
def yC_FL_clearText : MethodName := ⟨Rk10, "clearText", "()I"⟩
def qC_FL_clearText : Mq := (prog_1_method_3_code, 2, Rk10, some .int)
theorem FC_FL_clearText : Mf yC_FL_clearText qC_FL_clearText 0 false := ⟨mg2 191 rfl rfl, lin10, ⟨lne10.1, lne10.2.1, by decide +kernel⟩, lne10.2.2, ⟨mg2 189 rfl rfl, mg2 190 rfl rfl⟩⟩
def yC_FL_textFault : MethodName := ⟨Rk10, "textFault", "()I"⟩
def qC_FL_textFault : Mq := (prog_1_method_4_code, 1, Rk10, some .int)
theorem FC_FL_textFault : Mf yC_FL_textFault qC_FL_textFault 0 false := ⟨mg2 195 rfl rfl, lin10, ⟨lne10.1, lne10.2.1, by decide +kernel⟩, lne10.2.2, ⟨mg2 193 rfl rfl, mg2 194 rfl rfl⟩⟩
def yC_FL_addFix : MethodName := ⟨Rk10, "addFix", "(II)I"⟩
def qC_FL_addFix : Mq := (prog_1_method_5_code, 4, Rk10, some .int)
theorem FC_FL_addFix : Mf yC_FL_addFix qC_FL_addFix 2 false := ⟨mg3 83 rfl rfl, lin10, ⟨lne10.1, lne10.2.1, by decide +kernel⟩, lne10.2.2, ⟨mg3 81 rfl rfl, mg3 82 rfl rfl⟩⟩
def yC_FL_afterSetting : MethodName := ⟨Rk10, "afterSetting", "()V"⟩
def qC_FL_afterSetting : Mq := (prog_1_method_75_code, 1, Rk10, none)
theorem FC_FL_afterSetting : Mf yC_FL_afterSetting qC_FL_afterSetting 0 false := ⟨mg3 92 rfl rfl, lin10, ⟨lne10.1, lne10.2.1, by decide +kernel⟩, lne10.2.2, ⟨mg3 91 rfl rfl, mg0 13 rfl rfl⟩⟩
def yC_FL_setWind : MethodName := ⟨Rk10, "setWind", "(II)I"⟩
def qC_FL_setWind : Mq := (prog_1_method_6_code, 3, Rk10, some .int)
theorem FC_FL_setWind : Mf yC_FL_setWind qC_FL_setWind 2 false := ⟨mg3 88 rfl rfl, lin10, ⟨lne10.1, lne10.2.1, by decide +kernel⟩, lne10.2.2, ⟨mg3 86 rfl rfl, mg3 87 rfl rfl⟩⟩
def yC_FL_setCruise : MethodName := ⟨Rk10, "setCruise", "(II)I"⟩
def qC_FL_setCruise : Mq := (prog_1_method_7_code, 4, Rk10, some .int)
theorem FC_FL_setCruise : Mf yC_FL_setCruise qC_FL_setCruise 2 false := ⟨mg4 129 rfl rfl, lin10, ⟨lne10.1, lne10.2.1, by decide +kernel⟩, lne10.2.2, ⟨mg4 127 rfl rfl, mg4 128 rfl rfl⟩⟩
def yC_FL_isGradient : MethodName := ⟨Rk10, "isGradient", "(I)Z"⟩
def qC_FL_isGradient : Mq := (prog_1_method_63_code, 1, Rk10, some .boolean)
theorem FC_FL_isGradient : Mf yC_FL_isGradient qC_FL_isGradient 1 true := ⟨mg4 136 rfl rfl, lin10, ⟨lne10.1, lne10.2.1, by decide +kernel⟩, lne10.2.2, mg4 135 rfl rfl⟩
def yC_FL_setGradients : MethodName := ⟨Rk10, "setGradients", "(III)I"⟩
def qC_FL_setGradients : Mq := (prog_1_method_8_code, 5, Rk10, some .int)
theorem FC_FL_setGradients : Mf yC_FL_setGradients qC_FL_setGradients 3 false := ⟨mg4 133 rfl rfl, lin10, ⟨lne10.1, lne10.2.1, by decide +kernel⟩, lne10.2.2, ⟨mg4 131 rfl rfl, mg4 132 rfl rfl⟩⟩
def yC_FL_setEnds : MethodName := ⟨Rk10, "setEnds", "(II)I"⟩
def qC_FL_setEnds : Mq := (prog_1_method_9_code, 4, Rk10, some .int)
theorem FC_FL_setEnds : Mf yC_FL_setEnds qC_FL_setEnds 2 false := ⟨mg4 140 rfl rfl, lin10, ⟨lne10.1, lne10.2.1, by decide +kernel⟩, lne10.2.2, ⟨mg4 138 rfl rfl, mg4 139 rfl rfl⟩⟩
def yC_FL_beginEdit : MethodName := ⟨Rk10, "beginEdit", "()V"⟩
def qC_FL_beginEdit : Mq := (prog_1_method_73_code, 1, Rk10, none)
theorem FC_FL_beginEdit : Mf yC_FL_beginEdit qC_FL_beginEdit 0 false := ⟨mg4 150 rfl rfl, lin10, ⟨lne10.1, lne10.2.1, by decide +kernel⟩, lne10.2.2, ⟨mg4 149 rfl rfl, mg0 45 rfl rfl⟩⟩
def yC_FL_load : MethodName := ⟨Rk10, "load", "()I"⟩
def qC_FL_load : Mq := (prog_1_method_10_code, 1, Rk10, some .int)
theorem FC_FL_load : Mf yC_FL_load qC_FL_load 0 false := ⟨mg4 144 rfl rfl, lin10, ⟨lne10.1, lne10.2.1, by decide +kernel⟩, lne10.2.2, ⟨mg4 142 rfl rfl, mg4 143 rfl rfl⟩⟩
def yC_FL_planToEdit : MethodName := ⟨Rk10, "planToEdit", "()LFlightLegs$Plan;"⟩
def qC_FL_planToEdit : Mq := (prog_1_method_72_code, 1, Rk10, some (.object "FlightLegs$Plan"))
theorem FC_FL_planToEdit : Mf yC_FL_planToEdit qC_FL_planToEdit 0 false := ⟨mg4 184 rfl rfl, lin10, ⟨lne10.1, lne10.2.1, by decide +kernel⟩, lne10.2.2, ⟨mg4 183 rfl rfl, mg0 47 rfl rfl⟩⟩
def yC_FL_insert : MethodName := ⟨Rk10, "insert", "(I)I"⟩
def qC_FL_insert : Mq := (prog_1_method_11_code, 5, Rk10, some .int)
theorem FC_FL_insert : Mf yC_FL_insert qC_FL_insert 1 false := ⟨mg4 180 rfl rfl, lin10, ⟨lne10.1, lne10.2.1, by decide +kernel⟩, lne10.2.2, ⟨mg4 178 rfl rfl, mg4 179 rfl rfl⟩⟩
def yC_FL_delete : MethodName := ⟨Rk10, "delete", "(I)I"⟩
def qC_FL_delete : Mq := (prog_1_method_12_code, 3, Rk10, some .int)
theorem FC_FL_delete : Mf yC_FL_delete qC_FL_delete 1 false := ⟨mg4 198 rfl rfl, lin10, ⟨lne10.1, lne10.2.1, by decide +kernel⟩, lne10.2.2, ⟨mg4 196 rfl rfl, mg4 197 rfl rfl⟩⟩
def yC_FL_pathOf : MethodName := ⟨Rk10, "pathOf", "(I)LFlightLegs$Path;"⟩
def qC_FL_pathOf : Mq := (prog_1_method_67_code, 2, Rk10, some (.object "FlightLegs$Path"))
theorem FC_FL_pathOf : Mf yC_FL_pathOf qC_FL_pathOf 1 false := ⟨mg4 215 rfl rfl, lin10, ⟨lne10.1, lne10.2.1, by decide +kernel⟩, lne10.2.2, ⟨mg4 214 rfl rfl, mg0 49 rfl rfl⟩⟩
def yC_FL_freshPathOf : MethodName := ⟨Rk10, "freshPathOf", "(I)LFlightLegs$Path;"⟩
def qC_FL_freshPathOf : Mq := (prog_1_method_68_code, 3, Rk10, some (.object "FlightLegs$Path"))
theorem FC_FL_freshPathOf : Mf yC_FL_freshPathOf qC_FL_freshPathOf 1 false := ⟨mg4 211 rfl rfl, lin10, ⟨lne10.1, lne10.2.1, by decide +kernel⟩, lne10.2.2, ⟨mg4 210 rfl rfl, mg0 48 rfl rfl⟩⟩
def yC_FL_closeGap : MethodName := ⟨Rk10, "closeGap", "(I)I"⟩
def qC_FL_closeGap : Mq := (prog_1_method_13_code, 3, Rk10, some .int)
theorem FC_FL_closeGap : Mf yC_FL_closeGap qC_FL_closeGap 1 false := ⟨mg4 207 rfl rfl, lin10, ⟨lne10.1, lne10.2.1, by decide +kernel⟩, lne10.2.2, ⟨mg4 205 rfl rfl, mg4 206 rfl rfl⟩⟩
def yC_FL_setWindow : MethodName := ⟨Rk10, "setWindow", "(III)I"⟩
def qC_FL_setWindow : Mq := (prog_1_method_14_code, 5, Rk10, some .int)
theorem FC_FL_setWindow : Mf yC_FL_setWindow qC_FL_setWindow 3 false := ⟨mg4 227 rfl rfl, lin10, ⟨lne10.1, lne10.2.1, by decide +kernel⟩, lne10.2.2, ⟨mg4 225 rfl rfl, mg4 226 rfl rfl⟩⟩
def yC_FL_setSpeedLimit : MethodName := ⟨Rk10, "setSpeedLimit", "(II)I"⟩
def qC_FL_setSpeedLimit : Mq := (prog_1_method_15_code, 5, Rk10, some .int)
theorem FC_FL_setSpeedLimit : Mf yC_FL_setSpeedLimit qC_FL_setSpeedLimit 2 false := ⟨mg4 235 rfl rfl, lin10, ⟨lne10.1, lne10.2.1, by decide +kernel⟩, lne10.2.2, ⟨mg4 233 rfl rfl, mg4 234 rfl rfl⟩⟩
def yC_FL_setFlyOver : MethodName := ⟨Rk10, "setFlyOver", "(IZ)I"⟩
def qC_FL_setFlyOver : Mq := (prog_1_method_16_code, 5, Rk10, some .int)
theorem FC_FL_setFlyOver : Mf yC_FL_setFlyOver qC_FL_setFlyOver 2 false := ⟨mg4 239 rfl rfl, lin10, ⟨lne10.1, lne10.2.1, by decide +kernel⟩, lne10.2.2, ⟨mg4 237 rfl rfl, mg4 238 rfl rfl⟩⟩
def yC_FL_hasPosition : MethodName := ⟨Rk10, "hasPosition", "()Z"⟩
def qC_FL_hasPosition : Mq := (prog_1_method_76_code, 1, Rk10, some .boolean)
theorem FC_FL_hasPosition : Mf yC_FL_hasPosition qC_FL_hasPosition 0 false := ⟨mg5 7 rfl rfl, lin10, ⟨lne10.1, lne10.2.1, by decide +kernel⟩, lne10.2.2, ⟨mg5 6 rfl rfl, mg0 50 rfl rfl⟩⟩
def yC_FL_directTo : MethodName := ⟨Rk10, "directTo", "(I)I"⟩
def qC_FL_directTo : Mq := (prog_1_method_17_code, 3, Rk10, some .int)
theorem FC_FL_directTo : Mf yC_FL_directTo qC_FL_directTo 1 false := ⟨mg5 3 rfl rfl, lin10, ⟨lne10.1, lne10.2.1, by decide +kernel⟩, lne10.2.2, ⟨mg5 1 rfl rfl, mg5 2 rfl rfl⟩⟩
def yC_FL_undo : MethodName := ⟨Rk10, "undo", "()I"⟩
def qC_FL_undo : Mq := (prog_1_method_18_code, 1, Rk10, some .int)
theorem FC_FL_undo : Mf yC_FL_undo qC_FL_undo 0 false := ⟨mg5 33 rfl rfl, lin10, ⟨lne10.1, lne10.2.1, by decide +kernel⟩, lne10.2.2, ⟨mg5 31 rfl rfl, mg5 32 rfl rfl⟩⟩
def yC_FL_endEditing : MethodName := ⟨Rk10, "endEditing", "()V"⟩
def qC_FL_endEditing : Mq := (prog_1_method_74_code, 1, Rk10, none)
theorem FC_FL_endEditing : Mf yC_FL_endEditing qC_FL_endEditing 0 false := ⟨mg5 47 rfl rfl, lin10, ⟨lne10.1, lne10.2.1, by decide +kernel⟩, lne10.2.2, ⟨mg5 46 rfl rfl, mg0 53 rfl rfl⟩⟩
def yC_FL_execute : MethodName := ⟨Rk10, "execute", "()I"⟩
def qC_FL_execute : Mq := (prog_1_method_19_code, 1, Rk10, some .int)
theorem FC_FL_execute : Mf yC_FL_execute qC_FL_execute 0 false := ⟨mg5 43 rfl rfl, lin10, ⟨lne10.1, lne10.2.1, by decide +kernel⟩, lne10.2.2, ⟨mg5 41 rfl rfl, mg5 42 rfl rfl⟩⟩
def yC_FL_cancel : MethodName := ⟨Rk10, "cancel", "()I"⟩
def qC_FL_cancel : Mq := (prog_1_method_20_code, 1, Rk10, some .int)
theorem FC_FL_cancel : Mf yC_FL_cancel qC_FL_cancel 0 false := ⟨mg5 51 rfl rfl, lin10, ⟨lne10.1, lne10.2.1, by decide +kernel⟩, lne10.2.2, ⟨mg5 49 rfl rfl, mg5 50 rfl rfl⟩⟩
def yC_FL_fly : MethodName := ⟨Rk10, "fly", "(I)I"⟩
def qC_FL_fly : Mq := (prog_1_method_21_code, 2, Rk10, some .int)
theorem FC_FL_fly : Mf yC_FL_fly qC_FL_fly 1 false := ⟨mg5 55 rfl rfl, lin10, ⟨lne10.1, lne10.2.1, by decide +kernel⟩, lne10.2.2, ⟨mg5 53 rfl rfl, mg5 54 rfl rfl⟩⟩
def yC_FL_resume : MethodName := ⟨Rk10, "resume", "()I"⟩
def qC_FL_resume : Mq := (prog_1_method_22_code, 1, Rk10, some .int)
theorem FC_FL_resume : Mf yC_FL_resume qC_FL_resume 0 false := ⟨mg5 73 rfl rfl, lin10, ⟨lne10.1, lne10.2.1, by decide +kernel⟩, lne10.2.2, ⟨mg5 71 rfl rfl, mg5 72 rfl rfl⟩⟩
def yC_FL_currentLeg : MethodName := ⟨Rk10, "currentLeg", "()I"⟩
def qC_FL_currentLeg : Mq := (prog_1_method_23_code, 1, Rk10, some .int)
theorem FC_FL_currentLeg : Mf yC_FL_currentLeg qC_FL_currentLeg 0 false := ⟨mg5 82 rfl rfl, lin10, ⟨lne10.1, lne10.2.1, by decide +kernel⟩, lne10.2.2, ⟨mg5 80 rfl rfl, mg5 81 rfl rfl⟩⟩
def yC_FL_flownLength : MethodName := ⟨Rk10, "flownLength", "()I"⟩
def qC_FL_flownLength : Mq := (prog_1_method_24_code, 1, Rk10, some .int)
theorem FC_FL_flownLength : Mf yC_FL_flownLength qC_FL_flownLength 0 false := ⟨mg5 86 rfl rfl, lin10, ⟨lne10.1, lne10.2.1, by decide +kernel⟩, lne10.2.2, ⟨mg5 84 rfl rfl, mg5 85 rfl rfl⟩⟩
def yC_FL_positionX : MethodName := ⟨Rk10, "positionX", "()I"⟩
def qC_FL_positionX : Mq := (prog_1_method_25_code, 1, Rk10, some .int)
theorem FC_FL_positionX : Mf yC_FL_positionX qC_FL_positionX 0 false := ⟨mg5 90 rfl rfl, lin10, ⟨lne10.1, lne10.2.1, by decide +kernel⟩, lne10.2.2, ⟨mg5 88 rfl rfl, mg5 89 rfl rfl⟩⟩
def yC_FL_positionY : MethodName := ⟨Rk10, "positionY", "()I"⟩
def qC_FL_positionY : Mq := (prog_1_method_26_code, 1, Rk10, some .int)
theorem FC_FL_positionY : Mf yC_FL_positionY qC_FL_positionY 0 false := ⟨mg5 94 rfl rfl, lin10, ⟨lne10.1, lne10.2.1, by decide +kernel⟩, lne10.2.2, ⟨mg5 92 rfl rfl, mg5 93 rfl rfl⟩⟩
def yC_FL_presentCourse : MethodName := ⟨Rk10, "presentCourse", "()I"⟩
def qC_FL_presentCourse : Mq := (prog_1_method_27_code, 1, Rk10, some .int)
theorem FC_FL_presentCourse : Mf yC_FL_presentCourse qC_FL_presentCourse 0 false := ⟨mg5 98 rfl rfl, lin10, ⟨lne10.1, lne10.2.1, by decide +kernel⟩, lne10.2.2, ⟨mg5 96 rfl rfl, mg5 97 rfl rfl⟩⟩
def yC_FL_directSaving : MethodName := ⟨Rk10, "directSaving", "(I)I"⟩
def qC_FL_directSaving : Mq := (prog_1_method_28_code, 3, Rk10, some .int)
theorem FC_FL_directSaving : Mf yC_FL_directSaving qC_FL_directSaving 1 false := ⟨mg5 102 rfl rfl, lin10, ⟨lne10.1, lne10.2.1, by decide +kernel⟩, lne10.2.2, ⟨mg5 100 rfl rfl, mg5 101 rfl rfl⟩⟩
def yC_FL_isPlan : MethodName := ⟨Rk10, "isPlan", "(I)Z"⟩
def qC_FL_isPlan : Mq := (prog_1_method_64_code, 2, Rk10, some .boolean)
theorem FC_FL_isPlan : Mf yC_FL_isPlan qC_FL_isPlan 1 false := ⟨mg5 114 rfl rfl, lin10, ⟨lne10.1, lne10.2.1, by decide +kernel⟩, lne10.2.2, ⟨mg5 113 rfl rfl, mg0 55 rfl rfl⟩⟩
def yC_FL_planOf : MethodName := ⟨Rk10, "planOf", "(I)LFlightLegs$Plan;"⟩
def qC_FL_planOf : Mq := (prog_1_method_66_code, 2, Rk10, some (.object "FlightLegs$Plan"))
theorem FC_FL_planOf : Mf yC_FL_planOf qC_FL_planOf 1 false := ⟨mg5 118 rfl rfl, lin10, ⟨lne10.1, lne10.2.1, by decide +kernel⟩, lne10.2.2, ⟨mg5 117 rfl rfl, mg0 56 rfl rfl⟩⟩
def yC_FL_legCount : MethodName := ⟨Rk10, "legCount", "(I)I"⟩
def qC_FL_legCount : Mq := (prog_1_method_29_code, 2, Rk10, some .int)
theorem FC_FL_legCount : Mf yC_FL_legCount qC_FL_legCount 1 false := ⟨mg5 110 rfl rfl, lin10, ⟨lne10.1, lne10.2.1, by decide +kernel⟩, lne10.2.2, ⟨mg5 108 rfl rfl, mg5 109 rfl rfl⟩⟩
def yC_FL_isLeg : MethodName := ⟨Rk10, "isLeg", "(II)Z"⟩
def qC_FL_isLeg : Mq := (prog_1_method_65_code, 3, Rk10, some .boolean)
theorem FC_FL_isLeg : Mf yC_FL_isLeg qC_FL_isLeg 2 false := ⟨mg5 130 rfl rfl, lin10, ⟨lne10.1, lne10.2.1, by decide +kernel⟩, lne10.2.2, ⟨mg5 129 rfl rfl, mg0 58 rfl rfl⟩⟩
def yC_FL_planValue : MethodName := ⟨Rk10, "planValue", "(III)I"⟩
def qC_FL_planValue : Mq := (prog_1_method_69_code, 4, Rk10, some .int)
theorem FC_FL_planValue : Mf yC_FL_planValue qC_FL_planValue 3 false := ⟨mg5 126 rfl rfl, lin10, ⟨lne10.1, lne10.2.1, by decide +kernel⟩, lne10.2.2, ⟨mg5 125 rfl rfl, mg0 57 rfl rfl⟩⟩
def yC_FL_legKind : MethodName := ⟨Rk10, "legKind", "(II)I"⟩
def qC_FL_legKind : Mq := (prog_1_method_30_code, 3, Rk10, some .int)
theorem FC_FL_legKind : Mf yC_FL_legKind qC_FL_legKind 2 false := ⟨mg5 122 rfl rfl, lin10, ⟨lne10.1, lne10.2.1, by decide +kernel⟩, lne10.2.2, ⟨mg5 120 rfl rfl, mg5 121 rfl rfl⟩⟩
def yC_FL_legFix : MethodName := ⟨Rk10, "legFix", "(II)I"⟩
def qC_FL_legFix : Mq := (prog_1_method_31_code, 3, Rk10, some .int)
theorem FC_FL_legFix : Mf yC_FL_legFix qC_FL_legFix 2 false := ⟨mg5 134 rfl rfl, lin10, ⟨lne10.1, lne10.2.1, by decide +kernel⟩, lne10.2.2, ⟨mg5 132 rfl rfl, mg5 133 rfl rfl⟩⟩
def yC_FL_hasGap : MethodName := ⟨Rk10, "hasGap", "(II)I"⟩
def qC_FL_hasGap : Mq := (prog_1_method_32_code, 3, Rk10, some .int)
theorem FC_FL_hasGap : Mf yC_FL_hasGap qC_FL_hasGap 2 false := ⟨mg5 138 rfl rfl, lin10, ⟨lne10.1, lne10.2.1, by decide +kernel⟩, lne10.2.2, ⟨mg5 136 rfl rfl, mg5 137 rfl rfl⟩⟩
def yC_FL_pathValue : MethodName := ⟨Rk10, "pathValue", "(III)I"⟩
def qC_FL_pathValue : Mq := (prog_1_method_70_code, 5, Rk10, some .int)
theorem FC_FL_pathValue : Mf yC_FL_pathValue qC_FL_pathValue 3 false := ⟨mg5 147 rfl rfl, lin10, ⟨lne10.1, lne10.2.1, by decide +kernel⟩, lne10.2.2, ⟨mg5 146 rfl rfl, mg0 59 rfl rfl⟩⟩
def yC_FL_endX : MethodName := ⟨Rk10, "endX", "(II)I"⟩
def qC_FL_endX : Mq := (prog_1_method_33_code, 3, Rk10, some .int)
theorem FC_FL_endX : Mf yC_FL_endX qC_FL_endX 2 false := ⟨mg5 143 rfl rfl, lin10, ⟨lne10.1, lne10.2.1, by decide +kernel⟩, lne10.2.2, ⟨mg5 141 rfl rfl, mg5 142 rfl rfl⟩⟩
def yC_FL_endY : MethodName := ⟨Rk10, "endY", "(II)I"⟩
def qC_FL_endY : Mq := (prog_1_method_34_code, 3, Rk10, some .int)
theorem FC_FL_endY : Mf yC_FL_endY qC_FL_endY 2 false := ⟨mg5 151 rfl rfl, lin10, ⟨lne10.1, lne10.2.1, by decide +kernel⟩, lne10.2.2, ⟨mg5 149 rfl rfl, mg5 150 rfl rfl⟩⟩
def yC_FL_legCourse : MethodName := ⟨Rk10, "legCourse", "(II)I"⟩
def qC_FL_legCourse : Mq := (prog_1_method_35_code, 3, Rk10, some .int)
theorem FC_FL_legCourse : Mf yC_FL_legCourse qC_FL_legCourse 2 false := ⟨mg5 155 rfl rfl, lin10, ⟨lne10.1, lne10.2.1, by decide +kernel⟩, lne10.2.2, ⟨mg5 153 rfl rfl, mg5 154 rfl rfl⟩⟩
def yC_FL_legLength : MethodName := ⟨Rk10, "legLength", "(II)I"⟩
def qC_FL_legLength : Mq := (prog_1_method_36_code, 3, Rk10, some .int)
theorem FC_FL_legLength : Mf yC_FL_legLength qC_FL_legLength 2 false := ⟨mg5 159 rfl rfl, lin10, ⟨lne10.1, lne10.2.1, by decide +kernel⟩, lne10.2.2, ⟨mg5 157 rfl rfl, mg5 158 rfl rfl⟩⟩
def yC_FL_legTime : MethodName := ⟨Rk10, "legTime", "(II)I"⟩
def qC_FL_legTime : Mq := (prog_1_method_37_code, 3, Rk10, some .int)
theorem FC_FL_legTime : Mf yC_FL_legTime qC_FL_legTime 2 false := ⟨mg5 163 rfl rfl, lin10, ⟨lne10.1, lne10.2.1, by decide +kernel⟩, lne10.2.2, ⟨mg5 161 rfl rfl, mg5 162 rfl rfl⟩⟩
def yC_FL_lengthTo : MethodName := ⟨Rk10, "lengthTo", "(II)I"⟩
def qC_FL_lengthTo : Mq := (prog_1_method_38_code, 3, Rk10, some .int)
theorem FC_FL_lengthTo : Mf yC_FL_lengthTo qC_FL_lengthTo 2 false := ⟨mg5 167 rfl rfl, lin10, ⟨lne10.1, lne10.2.1, by decide +kernel⟩, lne10.2.2, ⟨mg5 165 rfl rfl, mg5 166 rfl rfl⟩⟩
def yC_FL_turnKind : MethodName := ⟨Rk10, "turnKind", "(II)I"⟩
def qC_FL_turnKind : Mq := (prog_1_method_39_code, 3, Rk10, some .int)
theorem FC_FL_turnKind : Mf yC_FL_turnKind qC_FL_turnKind 2 false := ⟨mg5 171 rfl rfl, lin10, ⟨lne10.1, lne10.2.1, by decide +kernel⟩, lne10.2.2, ⟨mg5 169 rfl rfl, mg5 170 rfl rfl⟩⟩
def yC_FL_turnSteps : MethodName := ⟨Rk10, "turnSteps", "(II)I"⟩
def qC_FL_turnSteps : Mq := (prog_1_method_40_code, 3, Rk10, some .int)
theorem FC_FL_turnSteps : Mf yC_FL_turnSteps qC_FL_turnSteps 2 false := ⟨mg5 175 rfl rfl, lin10, ⟨lne10.1, lne10.2.1, by decide +kernel⟩, lne10.2.2, ⟨mg5 173 rfl rfl, mg5 174 rfl rfl⟩⟩
def yC_FL_turnRadius : MethodName := ⟨Rk10, "turnRadius", "(II)I"⟩
def qC_FL_turnRadius : Mq := (prog_1_method_41_code, 3, Rk10, some .int)
theorem FC_FL_turnRadius : Mf yC_FL_turnRadius qC_FL_turnRadius 2 false := ⟨mg5 179 rfl rfl, lin10, ⟨lne10.1, lne10.2.1, by decide +kernel⟩, lne10.2.2, ⟨mg5 177 rfl rfl, mg5 178 rfl rfl⟩⟩
def yC_FL_turnLead : MethodName := ⟨Rk10, "turnLead", "(II)I"⟩
def qC_FL_turnLead : Mq := (prog_1_method_42_code, 3, Rk10, some .int)
theorem FC_FL_turnLead : Mf yC_FL_turnLead qC_FL_turnLead 2 false := ⟨mg5 183 rfl rfl, lin10, ⟨lne10.1, lne10.2.1, by decide +kernel⟩, lne10.2.2, ⟨mg5 181 rfl rfl, mg5 182 rfl rfl⟩⟩
def yC_FL_holdEntry : MethodName := ⟨Rk10, "holdEntry", "(II)I"⟩
def qC_FL_holdEntry : Mq := (prog_1_method_43_code, 3, Rk10, some .int)
theorem FC_FL_holdEntry : Mf yC_FL_holdEntry qC_FL_holdEntry 2 false := ⟨mg5 187 rfl rfl, lin10, ⟨lne10.1, lne10.2.1, by decide +kernel⟩, lne10.2.2, ⟨mg5 185 rfl rfl, mg5 186 rfl rfl⟩⟩
def yC_FL_entryFor : MethodName := ⟨Rk10, "entryFor", "(IIZ)I"⟩
def qC_FL_entryFor : Mq := (prog_1_method_44_code, 4, Rk10, some .int)
theorem FC_FL_entryFor : Mf yC_FL_entryFor qC_FL_entryFor 3 false := ⟨mg5 191 rfl rfl, lin10, ⟨lne10.1, lne10.2.1, by decide +kernel⟩, lne10.2.2, ⟨mg5 189 rfl rfl, mg5 190 rfl rfl⟩⟩
def yC_FL_pieceCount : MethodName := ⟨Rk10, "pieceCount", "(I)I"⟩
def qC_FL_pieceCount : Mq := (prog_1_method_45_code, 2, Rk10, some .int)
theorem FC_FL_pieceCount : Mf yC_FL_pieceCount qC_FL_pieceCount 1 false := ⟨mg5 196 rfl rfl, lin10, ⟨lne10.1, lne10.2.1, by decide +kernel⟩, lne10.2.2, ⟨mg5 194 rfl rfl, mg5 195 rfl rfl⟩⟩
def yC_FL_pieceValue : MethodName := ⟨Rk10, "pieceValue", "(III)I"⟩
def qC_FL_pieceValue : Mq := (prog_1_method_71_code, 5, Rk10, some .int)
theorem FC_FL_pieceValue : Mf yC_FL_pieceValue qC_FL_pieceValue 3 false := ⟨mg5 204 rfl rfl, lin10, ⟨lne10.1, lne10.2.1, by decide +kernel⟩, lne10.2.2, ⟨mg5 203 rfl rfl, mg0 60 rfl rfl⟩⟩
def yC_FL_pieceLeg : MethodName := ⟨Rk10, "pieceLeg", "(II)I"⟩
def qC_FL_pieceLeg : Mq := (prog_1_method_46_code, 3, Rk10, some .int)
theorem FC_FL_pieceLeg : Mf yC_FL_pieceLeg qC_FL_pieceLeg 2 false := ⟨mg5 200 rfl rfl, lin10, ⟨lne10.1, lne10.2.1, by decide +kernel⟩, lne10.2.2, ⟨mg5 198 rfl rfl, mg5 199 rfl rfl⟩⟩
def yC_FL_pieceKind : MethodName := ⟨Rk10, "pieceKind", "(II)I"⟩
def qC_FL_pieceKind : Mq := (prog_1_method_47_code, 3, Rk10, some .int)
theorem FC_FL_pieceKind : Mf yC_FL_pieceKind qC_FL_pieceKind 2 false := ⟨mg5 208 rfl rfl, lin10, ⟨lne10.1, lne10.2.1, by decide +kernel⟩, lne10.2.2, ⟨mg5 206 rfl rfl, mg5 207 rfl rfl⟩⟩
def yC_FL_pieceLength : MethodName := ⟨Rk10, "pieceLength", "(II)I"⟩
def qC_FL_pieceLength : Mq := (prog_1_method_48_code, 3, Rk10, some .int)
theorem FC_FL_pieceLength : Mf yC_FL_pieceLength qC_FL_pieceLength 2 false := ⟨mg5 212 rfl rfl, lin10, ⟨lne10.1, lne10.2.1, by decide +kernel⟩, lne10.2.2, ⟨mg5 210 rfl rfl, mg5 211 rfl rfl⟩⟩
def yC_FL_pieceCourse : MethodName := ⟨Rk10, "pieceCourse", "(II)I"⟩
def qC_FL_pieceCourse : Mq := (prog_1_method_49_code, 3, Rk10, some .int)
theorem FC_FL_pieceCourse : Mf yC_FL_pieceCourse qC_FL_pieceCourse 2 false := ⟨mg5 216 rfl rfl, lin10, ⟨lne10.1, lne10.2.1, by decide +kernel⟩, lne10.2.2, ⟨mg5 214 rfl rfl, mg5 215 rfl rfl⟩⟩
def yC_FL_pieceX : MethodName := ⟨Rk10, "pieceX", "(II)I"⟩
def qC_FL_pieceX : Mq := (prog_1_method_50_code, 3, Rk10, some .int)
theorem FC_FL_pieceX : Mf yC_FL_pieceX qC_FL_pieceX 2 false := ⟨mg5 220 rfl rfl, lin10, ⟨lne10.1, lne10.2.1, by decide +kernel⟩, lne10.2.2, ⟨mg5 218 rfl rfl, mg5 219 rfl rfl⟩⟩
def yC_FL_pieceY : MethodName := ⟨Rk10, "pieceY", "(II)I"⟩
def qC_FL_pieceY : Mq := (prog_1_method_51_code, 3, Rk10, some .int)
theorem FC_FL_pieceY : Mf yC_FL_pieceY qC_FL_pieceY 2 false := ⟨mg5 224 rfl rfl, lin10, ⟨lne10.1, lne10.2.1, by decide +kernel⟩, lne10.2.2, ⟨mg5 222 rfl rfl, mg5 223 rfl rfl⟩⟩
def yC_FL_climbAltitude : MethodName := ⟨Rk10, "climbAltitude", "(II)I"⟩
def qC_FL_climbAltitude : Mq := (prog_1_method_52_code, 3, Rk10, some .int)
theorem FC_FL_climbAltitude : Mf yC_FL_climbAltitude qC_FL_climbAltitude 2 false := ⟨mg5 228 rfl rfl, lin10, ⟨lne10.1, lne10.2.1, by decide +kernel⟩, lne10.2.2, ⟨mg5 226 rfl rfl, mg5 227 rfl rfl⟩⟩
def yC_FL_descentAltitude : MethodName := ⟨Rk10, "descentAltitude", "(II)I"⟩
def qC_FL_descentAltitude : Mq := (prog_1_method_53_code, 3, Rk10, some .int)
theorem FC_FL_descentAltitude : Mf yC_FL_descentAltitude qC_FL_descentAltitude 2 false := ⟨mg5 232 rfl rfl, lin10, ⟨lne10.1, lne10.2.1, by decide +kernel⟩, lne10.2.2, ⟨mg5 230 rfl rfl, mg5 231 rfl rfl⟩⟩
def yC_FL_altitude : MethodName := ⟨Rk10, "altitude", "(II)I"⟩
def qC_FL_altitude : Mq := (prog_1_method_54_code, 3, Rk10, some .int)
theorem FC_FL_altitude : Mf yC_FL_altitude qC_FL_altitude 2 false := ⟨mg5 236 rfl rfl, lin10, ⟨lne10.1, lne10.2.1, by decide +kernel⟩, lne10.2.2, ⟨mg5 234 rfl rfl, mg5 235 rfl rfl⟩⟩
def yC_FL_altitudeAt : MethodName := ⟨Rk10, "altitudeAt", "(III)I"⟩
def qC_FL_altitudeAt : Mq := (prog_1_method_55_code, 5, Rk10, some .int)
theorem FC_FL_altitudeAt : Mf yC_FL_altitudeAt qC_FL_altitudeAt 3 false := ⟨mg6 0 rfl rfl, lin10, ⟨lne10.1, lne10.2.1, by decide +kernel⟩, lne10.2.2, ⟨mg5 238 rfl rfl, mg5 239 rfl rfl⟩⟩
def yC_FL_violation : MethodName := ⟨Rk10, "violation", "(II)I"⟩
def qC_FL_violation : Mq := (prog_1_method_56_code, 3, Rk10, some .int)
theorem FC_FL_violation : Mf yC_FL_violation qC_FL_violation 2 false := ⟨mg6 8 rfl rfl, lin10, ⟨lne10.1, lne10.2.1, by decide +kernel⟩, lne10.2.2, ⟨mg6 6 rfl rfl, mg6 7 rfl rfl⟩⟩
def yC_FL_topOfDescent : MethodName := ⟨Rk10, "topOfDescent", "(I)I"⟩
def qC_FL_topOfDescent : Mq := (prog_1_method_57_code, 2, Rk10, some .int)
theorem FC_FL_topOfDescent : Mf yC_FL_topOfDescent qC_FL_topOfDescent 1 false := ⟨mg6 12 rfl rfl, lin10, ⟨lne10.1, lne10.2.1, by decide +kernel⟩, lne10.2.2, ⟨mg6 10 rfl rfl, mg6 11 rfl rfl⟩⟩
def yC_FL_gapCount : MethodName := ⟨Rk10, "gapCount", "(I)I"⟩
def qC_FL_gapCount : Mq := (prog_1_method_58_code, 2, Rk10, some .int)
theorem FC_FL_gapCount : Mf yC_FL_gapCount qC_FL_gapCount 1 false := ⟨mg6 32 rfl rfl, lin10, ⟨lne10.1, lne10.2.1, by decide +kernel⟩, lne10.2.2, ⟨mg6 30 rfl rfl, mg6 31 rfl rfl⟩⟩
def yC_FL_totalLength : MethodName := ⟨Rk10, "totalLength", "(I)I"⟩
def qC_FL_totalLength : Mq := (prog_1_method_59_code, 2, Rk10, some .int)
theorem FC_FL_totalLength : Mf yC_FL_totalLength qC_FL_totalLength 1 false := ⟨mg6 36 rfl rfl, lin10, ⟨lne10.1, lne10.2.1, by decide +kernel⟩, lne10.2.2, ⟨mg6 34 rfl rfl, mg6 35 rfl rfl⟩⟩
def yC_FL_totalTime : MethodName := ⟨Rk10, "totalTime", "(I)I"⟩
def qC_FL_totalTime : Mq := (prog_1_method_60_code, 2, Rk10, some .int)
theorem FC_FL_totalTime : Mf yC_FL_totalTime qC_FL_totalTime 1 false := ⟨mg6 40 rfl rfl, lin10, ⟨lne10.1, lne10.2.1, by decide +kernel⟩, lne10.2.2, ⟨mg6 38 rfl rfl, mg6 39 rfl rfl⟩⟩
def yC_FL_violationCount : MethodName := ⟨Rk10, "violationCount", "(I)I"⟩
def qC_FL_violationCount : Mq := (prog_1_method_61_code, 2, Rk10, some .int)
theorem FC_FL_violationCount : Mf yC_FL_violationCount qC_FL_violationCount 1 false := ⟨mg6 48 rfl rfl, lin10, ⟨lne10.1, lne10.2.1, by decide +kernel⟩, lne10.2.2, ⟨mg6 46 rfl rfl, mg6 47 rfl rfl⟩⟩
theorem lmC_FL_75 : Cond.methodLink Rk10 75 yC_FL_within ∈ lw_g := mg2 179 rfl rfl
theorem lmC_FL_80 : Cond.methodLink Rk10 80 yC_Rx_append ∈ lw_g := mg2 183 rfl rfl
theorem lmC_FL_89 : Cond.methodLink Rk10 89 yC_Rx_parse ∈ lw_g := mg2 196 rfl rfl
theorem lmC_FL_100 : Cond.methodLink Rk10 100 yC_Tb_put ∈ lw_g := mg3 84 rfl rfl
theorem lmC_FL_112 : Cond.methodLink Rk10 112 yC_FL_afterSetting ∈ lw_g := mg3 89 rfl rfl
theorem lmC_FL_121 : Cond.methodLink Rk10 121 yC_FL_isGradient ∈ lw_g := mg4 134 rfl rfl
theorem lmC_FL_141 : Cond.methodLink Rk10 141 yC_FL_beginEdit ∈ lw_g := mg4 147 rfl rfl
theorem lmC_FL_150 : Cond.methodLink Rk10 150 yC_Pl_replaceAll ∈ lw_g := mg4 169 rfl rfl
theorem lmC_FL_155 : Cond.methodLink Rk10 155 yC_FL_planToEdit ∈ lw_g := mg4 181 rfl rfl
theorem lmC_FL_163 : Cond.methodLink Rk10 163 yC_Tb_get ∈ lw_g := mg4 186 rfl rfl
theorem lmC_FL_167 : Cond.methodLink Rk10 167 yC_Pl_legsUpToFix ∈ lw_g := mg4 187 rfl rfl
theorem lmC_FL_170 : Cond.methodLink Rk10 170 yC_Pl_splice ∈ lw_g := mg4 191 rfl rfl
theorem lmC_FL_174 : Cond.methodLink Rk10 174 yC_Pl_hasLeg ∈ lw_g := mg4 199 rfl rfl
theorem lmC_FL_177 : Cond.methodLink Rk10 177 yC_Pl_removeLeg ∈ lw_g := mg4 200 rfl rfl
theorem lmC_FL_181 : Cond.methodLink Rk10 181 yC_FL_freshPathOf ∈ lw_g := mg4 208 rfl rfl
theorem lmC_FL_185 : Cond.methodLink Rk10 185 yC_Pa_gaps ∈ lw_g := mg4 216 rfl rfl
theorem lmC_FL_188 : Cond.methodLink Rk10 188 yC_Pa_violations ∈ lw_g := mg4 228 rfl rfl
theorem lmC_FL_191 : Cond.methodLink Rk10 191 yC_FL_hasPosition ∈ lw_g := mg5 4 rfl rfl
theorem lmC_FL_204 : Cond.methodLink Rk10 204 yC_Pl_goDirect ∈ lw_g := mg5 24 rfl rfl
theorem lmC_FL_211 : Cond.methodLink Rk10 211 yC_Hi_restore ∈ lw_g := mg5 34 rfl rfl
theorem lmC_FL_224 : Cond.methodLink Rk10 224 yC_Pl_copyFrom ∈ lw_g := mg4 164 rfl rfl
theorem lmC_FL_228 : Cond.methodLink Rk10 228 yC_FL_endEditing ∈ lw_g := mg5 44 rfl rfl
theorem lmC_FL_231 : Cond.methodLink Rk10 231 yC_Pa_refresh ∈ lw_g := mg3 93 rfl rfl
theorem lmC_FL_234 : Cond.methodLink Rk10 234 yC_Pg_advance ∈ lw_g := mg5 56 rfl rfl
theorem lmC_FL_238 : Cond.methodLink Rk10 238 yC_Pg_waitsAtGap ∈ lw_g := mg5 74 rfl rfl
theorem lmC_FL_241 : Cond.methodLink Rk10 241 yC_Pg_beginNextLeg ∈ lw_g := mg5 78 rfl rfl
theorem lmC_FL_244 : Cond.methodLink Rk10 244 yC_Pa_lengthOf ∈ lw_g := mg5 103 rfl rfl
theorem lmC_FL_248 : Cond.methodLink Rk10 248 yC_FL_isPlan ∈ lw_g := mg5 111 rfl rfl
theorem lmC_FL_251 : Cond.methodLink Rk10 251 yC_FL_planOf ∈ lw_g := mg5 115 rfl rfl
theorem lmC_FL_255 : Cond.methodLink Rk10 255 yC_FL_planValue ∈ lw_g := mg5 123 rfl rfl
theorem lmC_FL_259 : Cond.methodLink Rk10 259 yC_FL_isLeg ∈ lw_g := mg5 127 rfl rfl
theorem lmC_FL_263 : Cond.methodLink Rk10 263 yC_Pa_gapBefore ∈ lw_g := mg5 139 rfl rfl
theorem lmC_FL_266 : Cond.methodLink Rk10 266 yC_FL_pathValue ∈ lw_g := mg5 144 rfl rfl
theorem lmC_FL_269 : Cond.methodLink Rk10 269 yC_Cm_entry ∈ lw_g := mg5 192 rfl rfl
theorem lmC_FL_282 : Cond.methodLink Rk10 282 yC_FL_pieceValue ∈ lw_g := mg5 201 rfl rfl
theorem lmC_FL_289 : Cond.methodLink Rk10 289 yC_Pf_heightOn ∈ lw_g := mg6 1 rfl rfl
theorem lmC_FL_294 : Cond.methodLink Rk10 294 yC_Pa_topOfDescentLength ∈ lw_g := mg6 13 rfl rfl
theorem lmC_FL_297 : Cond.methodLink Rk10 297 yC_Pa_time ∈ lw_g := mg6 41 rfl rfl
theorem lmC_FL_300 : Cond.methodLink Rk10 300 yC_FL_pathOf ∈ lw_g := mg4 212 rfl rfl
theorem lmC_FL_306 : Cond.methodLink Rk10 306 yC_Hi_record ∈ lw_g := mg4 151 rfl rfl
theorem lmC_FL_310 : Cond.methodLink Rk10 310 yC_Pg_cutToLeg ∈ lw_g := mg4 120 rfl rfl
theorem lmC_FL_313 : Cond.methodLink Rk10 313 yC_Pg_locate ∈ lw_g := mg5 8 rfl rfl
theorem lmC_Cm_15 : Cond.methodLink Rx0 15 yC_Cm_east ∈ lw_g := mg3 154 rfl rfl
theorem lmC_Cm_21 : Cond.methodLink Rx0 21 yC_Cm_north ∈ lw_g := mg3 163 rfl rfl
theorem lmC_Cm_24 : Cond.methodLink Rx0 24 yC_Cm_root ∈ lw_g := mg3 143 rfl rfl
theorem lmC_Cm_30 : Cond.methodLink Rx0 30 yC_Cm_course ∈ lw_g := mg3 208 rfl rfl
theorem lmC_Hi_32 : Cond.methodLink Rk0 32 yC_Tb_put ∈ lw_g := mg4 155 rfl rfl
theorem lmC_Hi_53 : Cond.methodLink Rk0 53 yC_Tb_copyRows ∈ lw_g := mg4 157 rfl rfl
theorem lmC_Hi_60 : Cond.methodLink Rk0 60 yC_Tb_get ∈ lw_g := mg5 39 rfl rfl
theorem lmC_Pa_55 : Cond.methodLink Rk1 55 yC_Tk_clear ∈ lw_g := mg3 97 rfl rfl
theorem lmC_Pa_64 : Cond.methodLink Rk1 64 yC_Tk_layLeg ∈ lw_g := mg3 108 rfl rfl
theorem lmC_Pa_72 : Cond.methodLink Rk1 72 yC_Pc_clear ∈ lw_g := mg4 9 rfl rfl
theorem lmC_Pa_73 : Cond.methodLink Rk1 73 yC_Pc_beginLeg ∈ lw_g := mg4 13 rfl rfl
theorem lmC_Pa_79 : Cond.methodLink Rk1 79 yC_Tb_get ∈ lw_g := mg4 18 rfl rfl
theorem lmC_Pa_83 : Cond.methodLink Rk1 83 yC_Pc_drawSegment ∈ lw_g := mg4 19 rfl rfl
theorem lmC_Pa_86 : Cond.methodLink Rk1 86 yC_Pc_endLeg ∈ lw_g := mg4 76 rfl rfl
theorem lmC_Pa_89 : Cond.methodLink Rk1 89 yC_Pf_calculate ∈ lw_g := mg4 91 rfl rfl
theorem lmC_Pa_92 : Cond.methodLink Rk1 92 yC_Pa_gapBefore ∈ lw_g := mg4 220 rfl rfl
theorem lmC_Pa_96 : Cond.methodLink Rk1 96 yC_Pf_lastHighestLeg ∈ lw_g := mg6 17 rfl rfl
theorem lmC_Pa_101 : Cond.methodLink Rk1 101 yC_Pf_descentLength ∈ lw_g := mg6 22 rfl rfl
theorem lmC_Pa_105 : Cond.methodLink Rk1 105 yC_Pa_lengthOf ∈ lw_g := mg6 27 rfl rfl
theorem lmC_Pc_59 : Cond.methodLink Rk2 59 yC_Tb_get ∈ lw_g := mg4 17 rfl rfl
theorem lmC_Pc_63 : Cond.methodLink Rk2 63 yC_Pc_drawArcOver ∈ lw_g := mg4 23 rfl rfl
theorem lmC_Pc_67 : Cond.methodLink Rk2 67 yC_Pl_kind ∈ lw_g := mg4 44 rfl rfl
theorem lmC_Pc_73 : Cond.methodLink Rk2 73 yC_Pc_drawDirect ∈ lw_g := mg4 45 rfl rfl
theorem lmC_Pc_76 : Cond.methodLink Rk2 76 yC_Pc_drawRegaining ∈ lw_g := mg4 54 rfl rfl
theorem lmC_Pc_79 : Cond.methodLink Rk2 79 yC_Pc_onSegmentX ∈ lw_g := mg4 64 rfl rfl
theorem lmC_Pc_82 : Cond.methodLink Rk2 82 yC_Pc_onSegmentY ∈ lw_g := mg4 68 rfl rfl
theorem lmC_Pc_85 : Cond.methodLink Rk2 85 yC_Pc_drawArc ∈ lw_g := mg4 29 rfl rfl
theorem lmC_Pc_89 : Cond.methodLink Rk2 89 yC_Pc_drawRest ∈ lw_g := mg4 72 rfl rfl
theorem lmC_Pc_92 : Cond.methodLink Rk2 92 yC_Pc_drawPattern ∈ lw_g := mg4 80 rfl rfl
theorem lmC_Pc_95 : Cond.methodLink Rk2 95 yC_Pc_addToLeg ∈ lw_g := mg4 86 rfl rfl
theorem lmC_Pc_98 : Cond.methodLink Rk2 98 yC_Tb_put ∈ lw_g := mg4 43 rfl rfl
theorem lmC_Pc_106 : Cond.methodLink Rk2 106 yC_Cm_arcLength ∈ lw_g := mg4 36 rfl rfl
theorem lmC_Pc_111 : Cond.methodLink Rk2 111 yC_Pc_addPiece ∈ lw_g := mg4 39 rfl rfl
theorem lmC_Pc_115 : Cond.methodLink Rk2 115 yC_Cm_before ∈ lw_g := mg4 51 rfl rfl
theorem lmC_Pc_119 : Cond.methodLink Rk2 119 yC_Cm_east ∈ lw_g := mg4 27 rfl rfl
theorem lmC_Pc_122 : Cond.methodLink Rk2 122 yC_Cm_north ∈ lw_g := mg4 28 rfl rfl
theorem lmC_Pc_125 : Cond.methodLink Rk2 125 yC_Cm_distance ∈ lw_g := mg4 49 rfl rfl
theorem lmC_Pc_128 : Cond.methodLink Rk2 128 yC_Cm_courseBetween ∈ lw_g := mg4 50 rfl rfl
theorem lmC_Pc_131 : Cond.methodLink Rk2 131 yC_Pc_lengthToRegain ∈ lw_g := mg4 58 rfl rfl
theorem lmC_Pc_141 : Cond.methodLink Rk2 141 yC_Sg_airSpeed ∈ lw_g := mg4 84 rfl rfl
theorem lmC_Pc_146 : Cond.methodLink Rk2 146 yC_Cm_turnRadiusAt ∈ lw_g := mg4 85 rfl rfl
theorem lmC_Pc_149 : Cond.methodLink Rk2 149 yC_Sg_groundSpeed ∈ lw_g := mg4 90 rfl rfl
theorem lmC_Pl_31 : Cond.methodLink Rk3 31 yC_Tb_put ∈ lw_g := mg3 35 rfl rfl
theorem lmC_Pl_36 : Cond.methodLink Rk3 36 yC_Tb_get ∈ lw_g := mg3 118 rfl rfl
theorem lmC_Pl_40 : Cond.methodLink Rk3 40 yC_Tb_copyRows ∈ lw_g := mg4 168 rfl rfl
theorem lmC_Pl_44 : Cond.methodLink Rk3 44 yC_Pl_restart ∈ lw_g := mg4 173 rfl rfl
theorem lmC_Pl_47 : Cond.methodLink Rk3 47 yC_Pl_putPlainLeg ∈ lw_g := mg5 28 rfl rfl
theorem lmC_Pl_51 : Cond.methodLink Rk3 51 yC_Pl_kind ∈ lw_g := mg5 29 rfl rfl
theorem lmC_Pf_29 : Cond.methodLink Rk4 29 yC_Pf_climb ∈ lw_g := mg4 95 rfl rfl
theorem lmC_Pf_33 : Cond.methodLink Rk4 33 yC_Pf_descend ∈ lw_g := mg4 110 rfl rfl
theorem lmC_Pf_38 : Cond.methodLink Rk4 38 yC_Tb_get ∈ lw_g := mg4 99 rfl rfl
theorem lmC_Pf_49 : Cond.methodLink Rk4 49 yC_Tb_put ∈ lw_g := mg4 109 rfl rfl
theorem lmC_Pf_53 : Cond.methodLink Rk4 53 yC_Pf_violationOf ∈ lw_g := mg4 115 rfl rfl
theorem lmC_Pf_65 : Cond.methodLink Rk4 65 yC_Sg_changeOver ∈ lw_g := mg4 100 rfl rfl
theorem lmC_Pf_68 : Cond.methodLink Rk4 68 yC_Pf_heightBefore ∈ lw_g := mg4 104 rfl rfl
theorem lmC_Pf_89 : Cond.methodLink Rk4 89 yC_Sg_lengthFor ∈ lw_g := mg6 26 rfl rfl
theorem lmC_Pg_43 : Cond.methodLink Rk5 43 yC_Tb_get ∈ lw_g := mg4 124 rfl rfl
theorem lmC_Pg_54 : Cond.methodLink Rk5 54 yC_Pl_hasLeg ∈ lw_g := mg5 64 rfl rfl
theorem lmC_Pg_58 : Cond.methodLink Rk5 58 yC_Pg_restOfLeg ∈ lw_g := mg5 60 rfl rfl
theorem lmC_Pg_62 : Cond.methodLink Rk5 62 yC_Pa_gapBefore ∈ lw_g := mg5 65 rfl rfl
theorem lmC_Pg_65 : Cond.methodLink Rk5 65 yC_Pg_beginNextLeg ∈ lw_g := mg5 66 rfl rfl
theorem lmC_Pg_81 : Cond.methodLink Rk5 81 yC_Pg_locateAtEnd ∈ lw_g := mg5 12 rfl rfl
theorem lmC_Pg_85 : Cond.methodLink Rk5 85 yC_Pg_locateOn ∈ lw_g := mg5 17 rfl rfl
theorem lmC_Pg_89 : Cond.methodLink Rk5 89 yC_Pg_between ∈ lw_g := mg5 21 rfl rfl
theorem lmC_Pg_93 : Cond.methodLink Rk5 93 yC_Pl_kind ∈ lw_g := mg5 16 rfl rfl
theorem lmC_Rx_46 : Cond.methodLink Rk6 46 yC_Rx_nextToken ∈ lw_g := mg2 200 rfl rfl
theorem lmC_Rx_49 : Cond.methodLink Rk6 49 yC_Rx_readKind ∈ lw_g := mg2 211 rfl rfl
theorem lmC_Rx_53 : Cond.methodLink Rk6 53 yC_Rx_readAttributes ∈ lw_g := mg3 62 rfl rfl
theorem lmC_Rx_57 : Cond.methodLink Rk6 57 yC_Rx_byteAt ∈ lw_g := mg2 204 rfl rfl
theorem lmC_Rx_61 : Cond.methodLink Rk6 61 yC_Rx_classOf ∈ lw_g := mg2 208 rfl rfl
theorem lmC_Rx_64 : Cond.methodLink Rk6 64 yC_Rx_kindNamed ∈ lw_g := mg2 215 rfl rfl
theorem lmC_Rx_68 : Cond.methodLink Rk6 68 yC_Pl_putPlainLeg ∈ lw_g := mg3 32 rfl rfl
theorem lmC_Rx_72 : Cond.methodLink Rk6 72 yC_Rx_readFix ∈ lw_g := mg3 40 rfl rfl
theorem lmC_Rx_75 : Cond.methodLink Rk6 75 yC_Rx_readNumber ∈ lw_g := mg3 49 rfl rfl
theorem lmC_Rx_79 : Cond.methodLink Rk6 79 yC_Rx_readPattern ∈ lw_g := mg3 54 rfl rfl
theorem lmC_Rx_82 : Cond.methodLink Rk6 82 yC_Rx_tokenLength ∈ lw_g := mg2 219 rfl rfl
theorem lmC_Rx_87 : Cond.methodLink Rk6 87 yC_Sn_length ∈ lw_g := mg2 224 rfl rfl
theorem lmC_Rx_91 : Cond.methodLink Rk6 91 yC_Sn_charAt ∈ lw_g := mg2 234 rfl rfl
theorem lmC_Rx_100 : Cond.methodLink Rk6 100 yC_Tb_put ∈ lw_g := mg3 44 rfl rfl
theorem lmC_Rx_107 : Cond.methodLink Rk6 107 yC_Tb_get ∈ lw_g := mg3 45 rfl rfl
theorem lmC_Rx_111 : Cond.methodLink Rk6 111 yC_Rx_readSide ∈ lw_g := mg3 58 rfl rfl
theorem lmC_Rx_118 : Cond.methodLink Rk6 118 yC_Rx_atLegEnd ∈ lw_g := mg3 66 rfl rfl
theorem lmC_Rx_122 : Cond.methodLink Rk6 122 yC_Rx_readAttribute ∈ lw_g := mg3 70 rfl rfl
theorem lmC_Rx_125 : Cond.methodLink Rk6 125 yC_Rx_readWindow ∈ lw_g := mg3 74 rfl rfl
theorem lmC_Sg_57 : Cond.methodLink Rk7 57 yC_Cm_east ∈ lw_g := mg3 224 rfl rfl
theorem lmC_Sg_63 : Cond.methodLink Rk7 63 yC_Cm_north ∈ lw_g := mg3 225 rfl rfl
theorem lmC_Sg_66 : Cond.methodLink Rk7 66 yC_Sg_airSpeed ∈ lw_g := mg3 226 rfl rfl
theorem lmC_Tb_29 : Cond.methodLink Rk8 29 yC_Ar_fill ∈ lw_g := mg3 105 rfl rfl
theorem lmC_Tk_57 : Cond.methodLink Rk9 57 yC_Tb_clear ∈ lw_g := mg3 101 rfl rfl
theorem lmC_Tk_68 : Cond.methodLink Rk9 68 yC_Tb_put ∈ lw_g := mg3 113 rfl rfl
theorem lmC_Tk_72 : Cond.methodLink Rk9 72 yC_Pl_kind ∈ lw_g := mg3 114 rfl rfl
theorem lmC_Tk_78 : Cond.methodLink Rk9 78 yC_Tk_startsAnew ∈ lw_g := mg3 119 rfl rfl
theorem lmC_Tk_82 : Cond.methodLink Rk9 82 yC_Tk_beginAnew ∈ lw_g := mg3 124 rfl rfl
theorem lmC_Tk_86 : Cond.methodLink Rk9 86 yC_Tk_followCourseToFix ∈ lw_g := mg3 136 rfl rfl
theorem lmC_Tk_89 : Cond.methodLink Rk9 89 yC_Tk_climbOnCourse ∈ lw_g := mg3 173 rfl rfl
theorem lmC_Tk_92 : Cond.methodLink Rk9 92 yC_Tk_followToInterception ∈ lw_g := mg3 185 rfl rfl
theorem lmC_Tk_95 : Cond.methodLink Rk9 95 yC_Tk_runOn ∈ lw_g := mg3 181 rfl rfl
theorem lmC_Tk_99 : Cond.methodLink Rk9 99 yC_Tb_get ∈ lw_g := mg3 123 rfl rfl
theorem lmC_Tk_103 : Cond.methodLink Rk9 103 yC_Tk_runTo ∈ lw_g := mg3 166 rfl rfl
theorem lmC_Tk_106 : Cond.methodLink Rk9 106 yC_Tk_endHere ∈ lw_g := mg3 128 rfl rfl
theorem lmC_Tk_109 : Cond.methodLink Rk9 109 yC_Tk_hold ∈ lw_g := mg3 201 rfl rfl
theorem lmC_Tk_112 : Cond.methodLink Rk9 112 yC_Tk_comeFrom ∈ lw_g := mg3 132 rfl rfl
theorem lmC_Tk_115 : Cond.methodLink Rk9 115 yC_Cm_distance ∈ lw_g := mg3 140 rfl rfl
theorem lmC_Tk_121 : Cond.methodLink Rk9 121 yC_Tk_addSegment ∈ lw_g := mg3 147 rfl rfl
theorem lmC_Tk_125 : Cond.methodLink Rk9 125 yC_Cm_pointX ∈ lw_g := mg3 151 rfl rfl
theorem lmC_Tk_129 : Cond.methodLink Rk9 129 yC_Cm_pointY ∈ lw_g := mg3 160 rfl rfl
theorem lmC_Tk_135 : Cond.methodLink Rk9 135 yC_Sg_lengthFor ∈ lw_g := mg3 177 rfl rfl
theorem lmC_Tk_143 : Cond.methodLink Rk9 143 yC_Tk_interception ∈ lw_g := mg3 189 rfl rfl
theorem lmC_Tk_146 : Cond.methodLink Rk9 146 yC_Pl_hasLeg ∈ lw_g := mg3 193 rfl rfl
theorem lmC_Tk_149 : Cond.methodLink Rk9 149 yC_Cm_east ∈ lw_g := mg3 197 rfl rfl
theorem lmC_Tk_152 : Cond.methodLink Rk9 152 yC_Cm_north ∈ lw_g := mg3 198 rfl rfl
theorem lmC_Tk_159 : Cond.methodLink Rk9 159 yC_Cm_courseBetween ∈ lw_g := mg3 170 rfl rfl
theorem lmC_Tk_162 : Cond.methodLink Rk9 162 yC_Cm_entry ∈ lw_g := mg3 205 rfl rfl
theorem lmC_Tk_166 : Cond.methodLink Rk9 166 yC_Cm_course ∈ lw_g := mg3 215 rfl rfl
theorem lmC_Tk_169 : Cond.methodLink Rk9 169 yC_Tk_fastest ∈ lw_g := mg3 216 rfl rfl
theorem lmC_Tk_172 : Cond.methodLink Rk9 172 yC_Cm_turnRadiusAt ∈ lw_g := mg3 232 rfl rfl
theorem lmC_Tk_175 : Cond.methodLink Rk9 175 yC_Tk_leadOf ∈ lw_g := mg3 236 rfl rfl
theorem lmC_Tk_178 : Cond.methodLink Rk9 178 yC_Tk_mustBeFlownOver ∈ lw_g := mg4 1 rfl rfl
theorem lmC_Tk_181 : Cond.methodLink Rk9 181 yC_Tk_tellLegOfTurn ∈ lw_g := mg4 5 rfl rfl
theorem lmC_Tk_188 : Cond.methodLink Rk9 188 yC_Sg_groundSpeed ∈ lw_g := mg3 220 rfl rfl
theorem lmC_Sn_335 : Cond.methodLink Rx2 335 yC_Sn_coder ∈ lw_g := mg2 228 rfl rfl
theorem lmC_Sn_492 : Cond.methodLink Rx2 492 yC_Sn_isLatin1 ∈ lw_g := mg2 238 rfl rfl
theorem lmC_Sn_495 : Cond.methodLink Rx2 495 yC_SL_charAt ∈ lw_g := mg3 2 rfl rfl
theorem lmC_Sn_1059 : Cond.methodLink Rx2 1059 yC_Pr_checkIndex ∈ lw_g := mg3 10 rfl rfl
theorem lmC_SL_9 : Cond.methodLink Rx3 9 yC_Sn_checkIndex ∈ lw_g := mg3 5 rfl rfl
