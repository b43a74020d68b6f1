/-! the start: what the statement gives, the two objects made, and the law's loop -/
def lstC (g : Ge) : va_W := [(g.1 0, .inr (10, [.ref (g.1 1), .ref (g.1 4), .ref (g.1 8), .ref (g.1 11), .ref (g.1 14), .ref (g.1 17), .ref (g.1 27), .ref (g.1 37), .ref (g.1 47), .ref (g.1 52), v0])),
  (g.1 1, .inr (7, [.ref (g.1 2), v0, v0, v0, .int 300, .int 400, .int 300, .int 318, .int 500, v0, v0])),
  (g.1 2, .inr (8, [.int 16, .int 2, .ref (g.1 3)])),
  (g.1 3, aI g 32),
  (g.1 4, .inr (6, [.ref (g.1 1), .ref (g.1 5), .ref (g.1 6), v0, v0, v0, v0, v0])),
  (g.1 5, aI g 200),
  (g.1 6, .inr (8, [.int 12, .int 14, .ref (g.1 7)])),
  (g.1 7, aI g 168),
  (g.1 8, .inr (3, [.ref (g.1 9), v0, v0, v0])),
  (g.1 9, .inr (8, [.int 21, .int 14, .ref (g.1 10)])),
  (g.1 10, aI g 294),
  (g.1 11, .inr (3, [.ref (g.1 12), v0, v0, v0])),
  (g.1 12, .inr (8, [.int 21, .int 14, .ref (g.1 13)])),
  (g.1 13, aI g 294),
  (g.1 14, .inr (3, [.ref (g.1 15), v0, v0, v0])),
  (g.1 15, .inr (8, [.int 21, .int 14, .ref (g.1 16)])),
  (g.1 16, aI g 294),
  (g.1 17, .inr (1, [.ref (g.1 8), .ref (g.1 18), .ref (g.1 20), .ref (g.1 23), .ref (g.1 26), .int 1])),
  (g.1 18, .inr (8, [.int 21, .int 16, .ref (g.1 19)])),
  (g.1 19, aI g 336),
  (g.1 21, .inr (8, [.int 42, .int 16, .ref (g.1 22)])),
  (g.1 22, aI g 672),
  (g.1 23, .inr (2, [.ref (g.1 8), .ref (g.1 1), .ref (g.1 18), .ref (g.1 21), .ref (g.1 24), v0, v0, v0, v0, v0, v0])),
  (g.1 20, .inr (9, [.ref (g.1 8), .ref (g.1 1), .ref (g.1 18), .ref (g.1 21), v0, v0, v0, .int (-1), v0, v0, v0, v0])),
  (g.1 24, .inr (8, [.int 126, .int 8, .ref (g.1 25)])),
  (g.1 25, aI g 1008),
  (g.1 26, .inr (4, [.ref (g.1 8), .ref (g.1 1), .ref (g.1 18)])),
  (g.1 27, .inr (1, [.ref (g.1 11), .ref (g.1 28), .ref (g.1 30), .ref (g.1 33), .ref (g.1 36), .int 1])),
  (g.1 28, .inr (8, [.int 21, .int 16, .ref (g.1 29)])),
  (g.1 29, aI g 336),
  (g.1 31, .inr (8, [.int 42, .int 16, .ref (g.1 32)])),
  (g.1 32, aI g 672),
  (g.1 33, .inr (2, [.ref (g.1 11), .ref (g.1 1), .ref (g.1 28), .ref (g.1 31), .ref (g.1 34), v0, v0, v0, v0, v0, v0])),
  (g.1 30, .inr (9, [.ref (g.1 11), .ref (g.1 1), .ref (g.1 28), .ref (g.1 31), v0, v0, v0, .int (-1), v0, v0, v0, v0])),
  (g.1 34, .inr (8, [.int 126, .int 8, .ref (g.1 35)])),
  (g.1 35, aI g 1008),
  (g.1 36, .inr (4, [.ref (g.1 11), .ref (g.1 1), .ref (g.1 28)])),
  (g.1 37, .inr (1, [.ref (g.1 14), .ref (g.1 38), .ref (g.1 40), .ref (g.1 43), .ref (g.1 46), .int 1])),
  (g.1 38, .inr (8, [.int 21, .int 16, .ref (g.1 39)])),
  (g.1 39, aI g 336),
  (g.1 41, .inr (8, [.int 42, .int 16, .ref (g.1 42)])),
  (g.1 42, aI g 672),
  (g.1 43, .inr (2, [.ref (g.1 14), .ref (g.1 1), .ref (g.1 38), .ref (g.1 41), .ref (g.1 44), v0, v0, v0, v0, v0, v0])),
  (g.1 40, .inr (9, [.ref (g.1 14), .ref (g.1 1), .ref (g.1 38), .ref (g.1 41), v0, v0, v0, .int (-1), v0, v0, v0, v0])),
  (g.1 44, .inr (8, [.int 126, .int 8, .ref (g.1 45)])),
  (g.1 45, aI g 1008),
  (g.1 46, .inr (4, [.ref (g.1 14), .ref (g.1 1), .ref (g.1 38)])),
  (g.1 47, .inr (0, [.ref (g.1 48), .ref (g.1 50), v0, v0])),
  (g.1 48, .inr (8, [.int 6, .int 4, .ref (g.1 49)])),
  (g.1 49, aI g 24),
  (g.1 50, .inr (8, [.int 120, .int 14, .ref (g.1 51)])),
  (g.1 51, aI g 1680),
  (g.1 52, .inr (5, [.ref (g.1 8), .ref (g.1 17), v0, v0, v0, v0]))]
def lstM (g : Ge) : va_W := [(g.1 0, .inr (11, [.ref (g.1 1), v0, v0, .ref (g.1 2), v0, .ref (g.1 3), .ref (g.1 4), v0, v0, v0, .int 300, .int 400, .int 300, .int 318, .int 500, v0, v0, .ref (g.1 5), .ref (g.1 6), .ref (g.1 7), .ref (g.1 8), .ref (g.1 9), .ref (g.1 10), .ref (g.1 11), .ref (g.1 12), .ref (g.1 13), .ref (g.1 14), .ref (g.1 15), .ref (g.1 16), .ref (g.1 17), v0, v0, v0, v0, v0, .ref (g.1 18), .ref (g.1 19), .ref (g.1 20), .ref (g.1 21), .ref (g.1 22), .ref (g.1 23), v0, v0, v0, .ref (g.1 24), .ref (g.1 25), .ref (g.1 26), .ref (g.1 27), .ref (g.1 28), .ref (g.1 29), .ref (g.1 30), .ref (g.1 31), .ref (g.1 32), .ref (g.1 33), .ref (g.1 34), .ref (g.1 35), .ref (g.1 36), v0, v0, v0, .ref (g.1 37), .ref (g.1 38), .ref (g.1 39), .ref (g.1 40), v0, v0, v0, .ref (g.1 41), v0, v0, v0, .ref (g.1 42), .ref (g.1 43), v0, v0])),
  (g.1 1, aI g 2673),
  (g.1 2, aZ g 6),
  (g.1 3, aI g 16),
  (g.1 4, aI g 16),
  (g.1 5, .inl (g.2.1.1, 24, .inl (upd (upd (upd (upd (upd (upd (upd (upd (upd (upd (upd (upd (upd (upd (upd (upd (upd (upd (upd (upd (upd (upd (upd (upd (fun _ => 0) 0 0) 1 259) 2 500) 3 707) 4 866) 5 966) 6 1000) 7 966) 8 866) 9 707) 10 500) 11 259) 12 0) 13 (-259)) 14 (-500)) 15 (-707)) 16 (-866)) 17 (-966)) 18 (-1000)) 19 (-966)) 20 (-866)) 21 (-707)) 22 (-500)) 23 (-259)))),
  (g.1 6, .inl (g.2.1.1, 9, .inl (upd (upd (upd (upd (upd (upd (upd (upd (upd (fun _ => 0) 0 0) 1 132) 2 268) 3 414) 4 577) 5 767) 6 1000) 7 1303) 8 1732))),
  (g.1 7, aI g 42),
  (g.1 8, aI g 42),
  (g.1 9, aI g 42),
  (g.1 10, aI g 42),
  (g.1 11, aI g 42),
  (g.1 12, aI g 42),
  (g.1 13, aI g 42),
  (g.1 14, aI g 42),
  (g.1 15, aI g 42),
  (g.1 16, aI g 42),
  (g.1 17, aI g 42),
  (g.1 18, aZ g 21),
  (g.1 19, aZ g 21),
  (g.1 20, aI g 21),
  (g.1 21, aI g 21),
  (g.1 22, aI g 22),
  (g.1 23, aI g 21),
  (g.1 24, aI g 42),
  (g.1 25, aI g 42),
  (g.1 26, aI g 42),
  (g.1 27, aI g 42),
  (g.1 28, aI g 42),
  (g.1 29, aI g 180),
  (g.1 30, aI g 180),
  (g.1 31, aI g 180),
  (g.1 32, aI g 180),
  (g.1 33, aI g 180),
  (g.1 34, aI g 180),
  (g.1 35, aI g 180),
  (g.1 36, aI g 180),
  (g.1 37, aI g 21),
  (g.1 38, aI g 21),
  (g.1 39, aI g 21),
  (g.1 40, aI g 21),
  (g.1 41, aI g 200),
  (g.1 42, .inl (g.2.1.1, 16, .inl (upd (upd (upd (upd (upd (upd (upd (upd (upd (upd (upd (upd (upd (upd (upd (upd (fun _ => 0) 0 73) 1 70) 2 84) 3 70) 4 68) 5 70) 6 67) 7 70) 8 67) 9 65) 10 67) 11 73) 12 86) 13 77) 14 72) 15 70))),
  (g.1 43, aI g 168)]
def c0F : List (Nat → Int32) := [fun k => ([0, 0, 0, 0, 0, 0, 0, 0, 0, 0, 0] : List Int32).getD k 0,
  fun k => ([0, 0, 0, 0, 300, 400, 300, 318, 500, 0, 0] : List Int32).getD k 0,
  fun k => ([16, 2, 0] : List Int32).getD k 0,
  fun _ => 0,
  fun k => ([0, 0, 0, 0, 0, 0, 0, 0] : List Int32).getD k 0,
  fun _ => 0,
  fun k => ([12, 14, 0] : List Int32).getD k 0,
  fun _ => 0,
  fun k => ([0, 0, 0, 0] : List Int32).getD k 0,
  fun k => ([21, 14, 0] : List Int32).getD k 0,
  fun _ => 0,
  fun k => ([0, 0, 0, 0] : List Int32).getD k 0,
  fun k => ([21, 14, 0] : List Int32).getD k 0,
  fun _ => 0,
  fun k => ([0, 0, 0, 0] : List Int32).getD k 0,
  fun k => ([21, 14, 0] : List Int32).getD k 0,
  fun _ => 0,
  fun k => ([0, 0, 0, 0, 0, 1] : List Int32).getD k 0,
  fun k => ([21, 16, 0] : List Int32).getD k 0,
  fun _ => 0,
  fun k => ([0, 0, 0, 0, 0, 0, 0, (-1), 0, 0, 0, 0] : List Int32).getD k 0,
  fun k => ([42, 16, 0] : List Int32).getD k 0,
  fun _ => 0,
  fun k => ([0, 0, 0, 0, 0, 0, 0, 0, 0, 0, 0] : List Int32).getD k 0,
  fun k => ([126, 8, 0] : List Int32).getD k 0,
  fun _ => 0,
  fun k => ([0, 0, 0] : List Int32).getD k 0,
  fun k => ([0, 0, 0, 0, 0, 1] : List Int32).getD k 0,
  fun k => ([21, 16, 0] : List Int32).getD k 0,
  fun _ => 0,
  fun k => ([0, 0, 0, 0, 0, 0, 0, (-1), 0, 0, 0, 0] : List Int32).getD k 0,
  fun k => ([42, 16, 0] : List Int32).getD k 0,
  fun _ => 0,
  fun k => ([0, 0, 0, 0, 0, 0, 0, 0, 0, 0, 0] : List Int32).getD k 0,
  fun k => ([126, 8, 0] : List Int32).getD k 0,
  fun _ => 0,
  fun k => ([0, 0, 0] : List Int32).getD k 0,
  fun k => ([0, 0, 0, 0, 0, 1] : List Int32).getD k 0,
  fun k => ([21, 16, 0] : List Int32).getD k 0,
  fun _ => 0,
  fun k => ([0, 0, 0, 0, 0, 0, 0, (-1), 0, 0, 0, 0] : List Int32).getD k 0,
  fun k => ([42, 16, 0] : List Int32).getD k 0,
  fun _ => 0,
  fun k => ([0, 0, 0, 0, 0, 0, 0, 0, 0, 0, 0] : List Int32).getD k 0,
  fun k => ([126, 8, 0] : List Int32).getD k 0,
  fun _ => 0,
  fun k => ([0, 0, 0] : List Int32).getD k 0,
  fun k => ([0, 0, 0, 0] : List Int32).getD k 0,
  fun k => ([6, 4, 0] : List Int32).getD k 0,
  fun _ => 0,
  fun k => ([120, 14, 0] : List Int32).getD k 0,
  fun _ => 0,
  fun k => ([0, 0, 0, 0, 0, 0] : List Int32).getD k 0]
def c0 : St := fun j => c0F.getD j (fun _ => 0)
def m0F : List (Nat → Int32) := [fun k => ([0, 0, 0, 0, 0, 0, 0, 0, 0, 0, 300, 400, 300, 318, 500, 0, 0, 0, 0, 0, 0, 0, 0, 0, 0, 0, 0, 0, 0, 0, 0, 0, 0, 0, 0, 0, 0, 0, 0, 0, 0, 0, 0, 0, 0, 0, 0, 0, 0, 0, 0, 0, 0, 0, 0, 0, 0, 0, 0, 0, 0, 0, 0, 0, 0, 0, 0, 0, 0, 0, 0, 0, 0, 0, 0] : List Int32).getD k 0,
  fun _ => 0,
  fun _ => 0,
  fun _ => 0,
  fun _ => 0,
  (upd (upd (upd (upd (upd (upd (upd (upd (upd (upd (upd (upd (upd (upd (upd (upd (upd (upd (upd (upd (upd (upd (upd (upd (fun _ => 0) 0 0) 1 259) 2 500) 3 707) 4 866) 5 966) 6 1000) 7 966) 8 866) 9 707) 10 500) 11 259) 12 0) 13 (-259)) 14 (-500)) 15 (-707)) 16 (-866)) 17 (-966)) 18 (-1000)) 19 (-966)) 20 (-866)) 21 (-707)) 22 (-500)) 23 (-259)),
  (upd (upd (upd (upd (upd (upd (upd (upd (upd (fun _ => 0) 0 0) 1 132) 2 268) 3 414) 4 577) 5 767) 6 1000) 7 1303) 8 1732),
  fun _ => 0,
  fun _ => 0,
  fun _ => 0,
  fun _ => 0,
  fun _ => 0,
  fun _ => 0,
  fun _ => 0,
  fun _ => 0,
  fun _ => 0,
  fun _ => 0,
  fun _ => 0,
  fun _ => 0,
  fun _ => 0,
  fun _ => 0,
  fun _ => 0,
  fun _ => 0,
  fun _ => 0,
  fun _ => 0,
  fun _ => 0,
  fun _ => 0,
  fun _ => 0,
  fun _ => 0,
  fun _ => 0,
  fun _ => 0,
  fun _ => 0,
  fun _ => 0,
  fun _ => 0,
  fun _ => 0,
  fun _ => 0,
  fun _ => 0,
  fun _ => 0,
  fun _ => 0,
  fun _ => 0,
  fun _ => 0,
  fun _ => 0,
  (upd (upd (upd (upd (upd (upd (upd (upd (upd (upd (upd (upd (upd (upd (upd (upd (fun _ => 0) 0 73) 1 70) 2 84) 3 70) 4 68) 5 70) 6 67) 7 70) 8 67) 9 65) 10 67) 11 73) 12 86) 13 77) 14 72) 15 70),
  fun _ => 0]
def m0 : St := fun j => m0F.getD j (fun _ => 0)
def prC : List Nat := [0, 1, 2, 3, 4, 5, 6, 7, 8, 9, 10, 11, 12, 13, 14, 15, 16, 17, 18, 19, 23, 20, 21, 22, 24, 25, 26, 27, 28, 29, 33, 30, 31, 32, 34, 35, 36, 37, 38, 39, 43, 40, 41, 42, 44, 45, 46, 47, 48, 49, 50, 51, 52]
def prM : List Nat := [0, 1, 2, 3, 4, 5, 6, 7, 8, 9, 10, 11, 12, 13, 14, 15, 16, 17, 18, 19, 20, 21, 22, 23, 24, 25, 26, 27, 28, 29, 30, 31, 32, 33, 34, 35, 36, 37, 38, 39, 40, 41, 42, 43]
set_option maxHeartbeats 8000000 in
set_option maxRecDepth 100000 in
theorem atC (g : Ge) : ∀ k, k < 53 → (lstC g)[prC.getD k 0]? = some (g.1 k, ent YC g c0 k)
  | 0, _ => rfl
  | 1, _ => rfl
  | 2, _ => rfl
  | 3, _ => rfl
  | 4, _ => rfl
  | 5, _ => rfl
  | 6, _ => rfl
  | 7, _ => rfl
  | 8, _ => rfl
  | 9, _ => rfl
  | 10, _ => rfl
  | 11, _ => rfl
  | 12, _ => rfl
  | 13, _ => rfl
  | 14, _ => rfl
  | 15, _ => rfl
  | 16, _ => rfl
  | 17, _ => rfl
  | 18, _ => rfl
  | 19, _ => rfl
  | 20, _ => rfl
  | 21, _ => rfl
  | 22, _ => rfl
  | 23, _ => rfl
  | 24, _ => rfl
  | 25, _ => rfl
  | 26, _ => rfl
  | 27, _ => rfl
  | 28, _ => rfl
  | 29, _ => rfl
  | 30, _ => rfl
  | 31, _ => rfl
  | 32, _ => rfl
  | 33, _ => rfl
  | 34, _ => rfl
  | 35, _ => rfl
  | 36, _ => rfl
  | 37, _ => rfl
  | 38, _ => rfl
  | 39, _ => rfl
  | 40, _ => rfl
  | 41, _ => rfl
  | 42, _ => rfl
  | 43, _ => rfl
  | 44, _ => rfl
  | 45, _ => rfl
  | 46, _ => rfl
  | 47, _ => rfl
  | 48, _ => rfl
  | 49, _ => rfl
  | 50, _ => rfl
  | 51, _ => rfl
  | 52, _ => rfl
  | k + 53, h => absurd h (by omega)
theorem piC : ∀ i, i < 53 → ∀ j, j < 53 → prC.getD i 0 = prC.getD j 0 → i = j := by decide +kernel
theorem plC : ∀ i, i < 53 → prC.getD i 0 < 53 := by decide +kernel
theorem wlC {g : Ge} {H : Heap} (h : va_P g.2.2.1 clA (lstC g) H) : va_P g.2.2.1 clA (wl YC g c0) H := by
  refine h.by (fun k => prC.getD k 0) (fun k q hk => ?_)
  have l1 := wl_lt hk
  rw [wl_get l1] at hk
  rw [← hk]
  exact atC g k l1
set_option maxHeartbeats 8000000 in
set_option maxRecDepth 100000 in
theorem atM (g : Ge) : ∀ k, k < 44 → (lstM g)[prM.getD k 0]? = some (g.1 k, ent YM g m0 k)
  | 0, _ => rfl
  | 1, _ => rfl
  | 2, _ => rfl
  | 3, _ => rfl
  | 4, _ => rfl
  | 5, _ => rfl
  | 6, _ => rfl
  | 7, _ => rfl
  | 8, _ => rfl
  | 9, _ => rfl
  | 10, _ => rfl
  | 11, _ => rfl
  | 12, _ => rfl
  | 13, _ => rfl
  | 14, _ => rfl
  | 15, _ => rfl
  | 16, _ => rfl
  | 17, _ => rfl
  | 18, _ => rfl
  | 19, _ => rfl
  | 20, _ => rfl
  | 21, _ => rfl
  | 22, _ => rfl
  | 23, _ => rfl
  | 24, _ => rfl
  | 25, _ => rfl
  | 26, _ => rfl
  | 27, _ => rfl
  | 28, _ => rfl
  | 29, _ => rfl
  | 30, _ => rfl
  | 31, _ => rfl
  | 32, _ => rfl
  | 33, _ => rfl
  | 34, _ => rfl
  | 35, _ => rfl
  | 36, _ => rfl
  | 37, _ => rfl
  | 38, _ => rfl
  | 39, _ => rfl
  | 40, _ => rfl
  | 41, _ => rfl
  | 42, _ => rfl
  | 43, _ => rfl
  | k + 44, h => absurd h (by omega)
theorem piM : ∀ i, i < 44 → ∀ j, j < 44 → prM.getD i 0 = prM.getD j 0 → i = j := by decide +kernel
theorem plM : ∀ i, i < 44 → prM.getD i 0 < 44 := by decide +kernel
theorem wlM {g : Ge} {H : Heap} (h : va_P g.2.2.1 clA (lstM g) H) : va_P g.2.2.1 clA (wl YM g m0) H := by
  refine h.by (fun k => prM.getD k 0) (fun k q hk => ?_)
  have l1 := wl_lt hk
  rw [wl_get l1] at hk
  rw [← hk]
  exact atM g k l1
theorem inj_of {A : Nat → Prop} {g g' : Ge} (hD : va_D A (lstC g ++ lstM g')) : injB YC g ∧ injB YM g' ∧ (∀ q, inB YC g q → A q) ∧ (∀ q, inB YM g' q → A q) ∧ ∀ q, inB YC g q → ¬ inB YM g' q := by
  have lC : (lstC g).length = 53 := rfl
  have eC : ∀ i, i < 53 → (lstC g ++ lstM g')[prC.getD i 0]? = some (g.1 i, ent YC g c0 i) := fun i hi => by
    rw [List.getElem?_append_left (by rw [lC]; exact plC i hi)]
    exact atC g i hi
  have eM : ∀ j, j < 44 → (lstC g ++ lstM g')[53 + prM.getD j 0]? = some (g'.1 j, ent YM g' m0 j) := fun j hj => by
    rw [List.getElem?_append_right (by rw [lC]; omega), lC, Nat.add_sub_cancel_left]
    exact atM g' j hj
  refine ⟨fun i j hi hj e => piC i hi j hj (hD.1 _ _ _ _ (eC i hi) (eC j hj) e), fun i j hi hj e => piM i hi j hj (Nat.add_left_cancel (hD.1 _ _ _ _ (eM i hi) (eM j hj) e)), ?_, ?_, ?_⟩
  · rintro q ⟨i, hi, rfl⟩
    exact hD.2 _ _ (eC i hi)
  · rintro q ⟨j, hj, rfl⟩
    exact hD.2 _ _ (eM j hj)
  · rintro q ⟨i, hi, rfl⟩ ⟨j, hj, e⟩
    have h1 := hD.1 _ _ _ _ (eC i hi) (eM j hj) e
    have h2 := plC i hi
    omega
