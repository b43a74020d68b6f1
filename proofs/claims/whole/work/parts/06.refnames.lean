/-! the reference: its cells, links and methods -/
def YMk : List ((Bool × Nat) ⊕ (Nat × Nat)) := [.inr (11, 75), .inl (false, 2673), .inl (true, 6), .inl (false, 16), .inl (false, 16), .inl (false, 24), .inl (false, 9), .inl (false, 42), .inl (false, 42), .inl (false, 42), .inl (false, 42), .inl (false, 42), .inl (false, 42), .inl (false, 42), .inl (false, 42), .inl (false, 42), .inl (false, 42), .inl (false, 42), .inl (true, 21), .inl (true, 21), .inl (false, 21), .inl (false, 21), .inl (false, 22), .inl (false, 21), .inl (false, 42), .inl (false, 42), .inl (false, 42), .inl (false, 42), .inl (false, 42), .inl (false, 180), .inl (false, 180), .inl (false, 180), .inl (false, 180), .inl (false, 180), .inl (false, 180), .inl (false, 180), .inl (false, 180), .inl (false, 21), .inl (false, 21), .inl (false, 21), .inl (false, 21), .inl (false, 200), .inl (false, 16), .inl (false, 168)]
def YMr : List (Option Nat) := [some 1, none, none, some 2, none, some 3, some 4, none, none, none, none, none, none, none, none, none, none, some 5, some 6, some 7, some 8, some 9, some 10, some 11, some 12, some 13, some 14, some 15, some 16, some 17, none, none, none, none, none, some 18, some 19, some 20, some 21, some 22, some 23, none, none, none, some 24, some 25, some 26, some 27, some 28, some 29, some 30, some 31, some 32, some 33, some 34, some 35, some 36, none, none, none, some 37, some 38, some 39, some 40, none, none, none, some 41, none, none, none, some 42, some 43, none, none]
def YM : Lay := (44, fun j => YMk.getD j (.inl (false, 0)), fun j k => if j = 0 then YMr.getD k none else none)
def wM : Wq := ((clA, false), YM)
theorem jM_0 : 0 < wM.2.1 := by decide
theorem kM_0 : wM.2.2.1 0 = .inr (11, 75) := rfl
theorem jM_1 : 1 < wM.2.1 := by decide
theorem kM_1 : wM.2.2.1 1 = .inl (false, 2673) := rfl
theorem jM_2 : 2 < wM.2.1 := by decide
theorem kM_2 : wM.2.2.1 2 = .inl (true, 6) := rfl
theorem jM_3 : 3 < wM.2.1 := by decide
theorem kM_3 : wM.2.2.1 3 = .inl (false, 16) := rfl
theorem jM_4 : 4 < wM.2.1 := by decide
theorem kM_4 : wM.2.2.1 4 = .inl (false, 16) := rfl
theorem jM_5 : 5 < wM.2.1 := by decide
theorem kM_5 : wM.2.2.1 5 = .inl (false, 24) := rfl
theorem jM_6 : 6 < wM.2.1 := by decide
theorem kM_6 : wM.2.2.1 6 = .inl (false, 9) := rfl
theorem jM_7 : 7 < wM.2.1 := by decide
theorem kM_7 : wM.2.2.1 7 = .inl (false, 42) := rfl
theorem jM_8 : 8 < wM.2.1 := by decide
theorem kM_8 : wM.2.2.1 8 = .inl (false, 42) := rfl
theorem jM_9 : 9 < wM.2.1 := by decide
theorem kM_9 : wM.2.2.1 9 = .inl (false, 42) := rfl
theorem jM_10 : 10 < wM.2.1 := by decide
theorem kM_10 : wM.2.2.1 10 = .inl (false, 42) := rfl
theorem jM_11 : 11 < wM.2.1 := by decide
theorem kM_11 : wM.2.2.1 11 = .inl (false, 42) := rfl
theorem jM_12 : 12 < wM.2.1 := by decide
theorem kM_12 : wM.2.2.1 12 = .inl (false, 42) := rfl
theorem jM_13 : 13 < wM.2.1 := by decide
theorem kM_13 : wM.2.2.1 13 = .inl (false, 42) := rfl
theorem jM_14 : 14 < wM.2.1 := by decide
theorem kM_14 : wM.2.2.1 14 = .inl (false, 42) := rfl
theorem jM_15 : 15 < wM.2.1 := by decide
theorem kM_15 : wM.2.2.1 15 = .inl (false, 42) := rfl
theorem jM_16 : 16 < wM.2.1 := by decide
theorem kM_16 : wM.2.2.1 16 = .inl (false, 42) := rfl
theorem jM_17 : 17 < wM.2.1 := by decide
theorem kM_17 : wM.2.2.1 17 = .inl (false, 42) := rfl
theorem jM_18 : 18 < wM.2.1 := by decide
theorem kM_18 : wM.2.2.1 18 = .inl (true, 21) := rfl
theorem jM_19 : 19 < wM.2.1 := by decide
theorem kM_19 : wM.2.2.1 19 = .inl (true, 21) := rfl
theorem jM_20 : 20 < wM.2.1 := by decide
theorem kM_20 : wM.2.2.1 20 = .inl (false, 21) := rfl
theorem jM_21 : 21 < wM.2.1 := by decide
theorem kM_21 : wM.2.2.1 21 = .inl (false, 21) := rfl
theorem jM_22 : 22 < wM.2.1 := by decide
theorem kM_22 : wM.2.2.1 22 = .inl (false, 22) := rfl
theorem jM_23 : 23 < wM.2.1 := by decide
theorem kM_23 : wM.2.2.1 23 = .inl (false, 21) := rfl
theorem jM_24 : 24 < wM.2.1 := by decide
theorem kM_24 : wM.2.2.1 24 = .inl (false, 42) := rfl
theorem jM_25 : 25 < wM.2.1 := by decide
theorem kM_25 : wM.2.2.1 25 = .inl (false, 42) := rfl
theorem jM_26 : 26 < wM.2.1 := by decide
theorem kM_26 : wM.2.2.1 26 = .inl (false, 42) := rfl
theorem jM_27 : 27 < wM.2.1 := by decide
theorem kM_27 : wM.2.2.1 27 = .inl (false, 42) := rfl
theorem jM_28 : 28 < wM.2.1 := by decide
theorem kM_28 : wM.2.2.1 28 = .inl (false, 42) := rfl
theorem jM_29 : 29 < wM.2.1 := by decide
theorem kM_29 : wM.2.2.1 29 = .inl (false, 180) := rfl
theorem jM_30 : 30 < wM.2.1 := by decide
theorem kM_30 : wM.2.2.1 30 = .inl (false, 180) := rfl
theorem jM_31 : 31 < wM.2.1 := by decide
theorem kM_31 : wM.2.2.1 31 = .inl (false, 180) := rfl
theorem jM_32 : 32 < wM.2.1 := by decide
theorem kM_32 : wM.2.2.1 32 = .inl (false, 180) := rfl
theorem jM_33 : 33 < wM.2.1 := by decide
theorem kM_33 : wM.2.2.1 33 = .inl (false, 180) := rfl
theorem jM_34 : 34 < wM.2.1 := by decide
theorem kM_34 : wM.2.2.1 34 = .inl (false, 180) := rfl
theorem jM_35 : 35 < wM.2.1 := by decide
theorem kM_35 : wM.2.2.1 35 = .inl (false, 180) := rfl
theorem jM_36 : 36 < wM.2.1 := by decide
theorem kM_36 : wM.2.2.1 36 = .inl (false, 180) := rfl
theorem jM_37 : 37 < wM.2.1 := by decide
theorem kM_37 : wM.2.2.1 37 = .inl (false, 21) := rfl
theorem jM_38 : 38 < wM.2.1 := by decide
theorem kM_38 : wM.2.2.1 38 = .inl (false, 21) := rfl
theorem jM_39 : 39 < wM.2.1 := by decide
theorem kM_39 : wM.2.2.1 39 = .inl (false, 21) := rfl
theorem jM_40 : 40 < wM.2.1 := by decide
theorem kM_40 : wM.2.2.1 40 = .inl (false, 21) := rfl
theorem jM_41 : 41 < wM.2.1 := by decide
theorem kM_41 : wM.2.2.1 41 = .inl (false, 200) := rfl
theorem jM_42 : 42 < wM.2.1 := by decide
theorem kM_42 : wM.2.2.1 42 = .inl (false, 16) := rfl
theorem jM_43 : 43 < wM.2.1 := by decide
theorem kM_43 : wM.2.2.1 43 = .inl (false, 168) := rfl
theorem cM0 : wM.1.1[((11, 75) : Nat × Nat).1]? = some (Rk11, Tk11, ((11, 75) : Nat × Nat).2) := rfl
theorem kb_m6 : (Int8.ofInt (-6)).toInt32 = (-6 : Int32) := by decide
theorem kb_6 : (Int8.ofInt (6)).toInt32 = (6 : Int32) := by decide
theorem kb_7 : (Int8.ofInt (7)).toInt32 = (7 : Int32) := by decide
theorem kb_8 : (Int8.ofInt (8)).toInt32 = (8 : Int32) := by decide
theorem kb_9 : (Int8.ofInt (9)).toInt32 = (9 : Int32) := by decide
theorem kb_10 : (Int8.ofInt (10)).toInt32 = (10 : Int32) := by decide
theorem kb_11 : (Int8.ofInt (11)).toInt32 = (11 : Int32) := by decide
theorem kb_12 : (Int8.ofInt (12)).toInt32 = (12 : Int32) := by decide
theorem kb_13 : (Int8.ofInt (13)).toInt32 = (13 : Int32) := by decide
theorem kb_14 : (Int8.ofInt (14)).toInt32 = (14 : Int32) := by decide
theorem kb_16 : (Int8.ofInt (16)).toInt32 = (16 : Int32) := by decide
theorem kb_20 : (Int8.ofInt (20)).toInt32 = (20 : Int32) := by decide
theorem kb_23 : (Int8.ofInt (23)).toInt32 = (23 : Int32) := by decide
theorem kb_24 : (Int8.ofInt (24)).toInt32 = (24 : Int32) := by decide
theorem kb_30 : (Int8.ofInt (30)).toInt32 = (30 : Int32) := by decide
theorem kb_32 : (Int8.ofInt (32)).toInt32 = (32 : Int32) := by decide
theorem kb_43 : (Int8.ofInt (43)).toInt32 = (43 : Int32) := by decide
theorem kb_45 : (Int8.ofInt (45)).toInt32 = (45 : Int32) := by decide
theorem kb_48 : (Int8.ofInt (48)).toInt32 = (48 : Int32) := by decide
theorem kb_50 : (Int8.ofInt (50)).toInt32 = (50 : Int32) := by decide
theorem kb_59 : (Int8.ofInt (59)).toInt32 = (59 : Int32) := by decide
theorem kb_65 : (Int8.ofInt (65)).toInt32 = (65 : Int32) := by decide
theorem kb_66 : (Int8.ofInt (66)).toInt32 = (66 : Int32) := by decide
theorem kb_76 : (Int8.ofInt (76)).toInt32 = (76 : Int32) := by decide
theorem kb_79 : (Int8.ofInt (79)).toInt32 = (79 : Int32) := by decide
theorem kb_82 : (Int8.ofInt (82)).toInt32 = (82 : Int32) := by decide
theorem kb_83 : (Int8.ofInt (83)).toInt32 = (83 : Int32) := by decide
theorem kb_100 : (Int8.ofInt (100)).toInt32 = (100 : Int32) := by decide
theorem ki_m1 : Int32.ofInt (-1) = (-1 : Int32) := by decide
theorem ki_0 : Int32.ofInt (0) = (0 : Int32) := by decide
theorem ki_1 : Int32.ofInt (1) = (1 : Int32) := by decide
theorem ki_2 : Int32.ofInt (2) = (2 : Int32) := by decide
theorem ki_3 : Int32.ofInt (3) = (3 : Int32) := by decide
theorem ki_4 : Int32.ofInt (4) = (4 : Int32) := by decide
theorem ki_5 : Int32.ofInt (5) = (5 : Int32) := by decide
theorem kl_0 : Int64.ofNat ((0 : Fin 2) : Nat) = (0 : Int64) := by decide
theorem kl_1 : Int64.ofNat ((1 : Fin 2) : Nat) = (1 : Int64) := by decide
theorem ks_200 : (Int16.ofInt (200)).toInt32 = (200 : Int32) := by decide
theorem ks_297 : (Int16.ofInt (297)).toInt32 = (297 : Int32) := by decide
theorem ks_298 : (Int16.ofInt (298)).toInt32 = (298 : Int32) := by decide
theorem ks_299 : (Int16.ofInt (299)).toInt32 = (299 : Int32) := by decide
theorem ks_450 : (Int16.ofInt (450)).toInt32 = (450 : Int32) := by decide
theorem ks_500 : (Int16.ofInt (500)).toInt32 = (500 : Int32) := by decide
theorem ks_594 : (Int16.ofInt (594)).toInt32 = (594 : Int32) := by decide
theorem ks_891 : (Int16.ofInt (891)).toInt32 = (891 : Int32) := by decide
theorem ks_999 : (Int16.ofInt (999)).toInt32 = (999 : Int32) := by decide
theorem ks_2376 : (Int16.ofInt (2376)).toInt32 = (2376 : Int32) := by decide
theorem lcM_376 : Cond.constant Rk11 376 (-1000002) ∈ lw_g := mg7 50 rfl rfl
theorem lcM_380 : Cond.constant Rk11 380 (-1000004) ∈ lw_g := mg7 51 rfl rfl
theorem lcM_453 : Cond.constant Rk11 453 (-1000000) ∈ lw_g := mg7 125 rfl rfl
theorem lcM_483 : Cond.constant Rk11 483 (-1000003) ∈ lw_g := mg8 74 rfl rfl
theorem lcM_493 : Cond.constant Rk11 493 (-1000001) ∈ lw_g := mg8 95 rfl rfl
theorem lLM_160 : Cond.constantLong Rk11 160 (1000) ∈ lw_g := mg7 189 rfl rfl
theorem lLM_228 : Cond.constantLong Rk11 228 (-1) ∈ lw_g := mg7 190 rfl rfl
theorem lLM_230 : Cond.constantLong Rk11 230 (999) ∈ lw_g := mg7 191 rfl rfl
theorem lLM_245 : Cond.constantLong Rk11 245 (10) ∈ lw_g := mg7 212 rfl rfl
theorem lLM_285 : Cond.constantLong Rk11 285 (3200) ∈ lw_g := mg8 10 rfl rfl
theorem lLM_287 : Cond.constantLong Rk11 287 (262) ∈ lw_g := mg8 11 rfl rfl
theorem lLM_305 : Cond.constantLong Rk11 305 (2) ∈ lw_g := mg8 27 rfl rfl
theorem lLM_317 : Cond.constantLong Rk11 317 (14) ∈ lw_g := mg8 39 rfl rfl
theorem lLM_319 : Cond.constantLong Rk11 319 (18) ∈ lw_g := mg8 40 rfl rfl
theorem lLM_321 : Cond.constantLong Rk11 321 (24) ∈ lw_g := mg8 41 rfl rfl
theorem lLM_323 : Cond.constantLong Rk11 323 (360) ∈ lw_g := mg8 46 rfl rfl
theorem lLM_374 : Cond.constantLong Rk11 374 (255) ∈ lw_g := mg7 46 rfl rfl
theorem lLM_381 : Cond.constantLong Rk11 381 (65) ∈ lw_g := mg7 71 rfl rfl
theorem lLM_383 : Cond.constantLong Rk11 383 (90) ∈ lw_g := mg7 72 rfl rfl
theorem lLM_385 : Cond.constantLong Rk11 385 (48) ∈ lw_g := mg7 76 rfl rfl
theorem lLM_387 : Cond.constantLong Rk11 387 (57) ∈ lw_g := mg7 77 rfl rfl
theorem lLM_454 : Cond.constantLong Rk11 454 (-9999) ∈ lw_g := mg7 130 rfl rfl
theorem lLM_456 : Cond.constantLong Rk11 456 (9999) ∈ lw_g := mg7 131 rfl rfl
theorem lLM_458 : Cond.constantLong Rk11 458 (-99) ∈ lw_g := mg7 136 rfl rfl
theorem lLM_460 : Cond.constantLong Rk11 460 (99) ∈ lw_g := mg7 137 rfl rfl
theorem lLM_465 : Cond.constantLong Rk11 465 (450) ∈ lw_g := mg8 58 rfl rfl
theorem lLM_467 : Cond.constantLong Rk11 467 (100) ∈ lw_g := mg8 59 rfl rfl
theorem lLM_469 : Cond.constantLong Rk11 469 (500) ∈ lw_g := mg8 60 rfl rfl
theorem lLM_471 : Cond.constantLong Rk11 471 (900) ∈ lw_g := mg8 65 rfl rfl
theorem lLM_518 : Cond.constantLong Rk11 518 (2000) ∈ lw_g := mg8 180 rfl rfl
theorem lLM_535 : Cond.constantLong Rk11 535 (23) ∈ lw_g := mg9 53 rfl rfl
section MF
variable {ρ : Type} {z : Zx} {q : Mq} {g : Ge} {out : ρ → Option Value × St} {pc pc' : Nat} {lv : List (Nat × Value)} {st : List Value} {σ : St} {E : Option ρ} {fr lo : Nat}
theorem lfM_7 : Cond.fieldLink Rk11 7 (Tk11 0).1 (Tk11 0).2.1 (Tk11 0).2.2.1 ∈ lw_g := mg6 55 rfl rfl
theorem gM_7 (C : Cx z q wM g fr lo) (hd : decode q.1 pc = .ok (.getfield 7, 3)) (hq : q.2.2.1 = Rk11) (hp : pc + 3 = pc') (kk : Rt z q wM g out pc' lv (.ref (g.1 1) :: st) σ E) : Rt z q wM g out pc lv (.ref (g.1 0) :: st) σ E := q_getR C 0 0 jM_0 kM_0 (by decide) rfl cM0 ik11 (by rw [hq]; exact lfM_7) hd hp kk
theorem lfM_13 : Cond.fieldLink Rk11 13 (Tk11 3).1 (Tk11 3).2.1 (Tk11 3).2.2.1 ∈ lw_g := mg6 58 rfl rfl
theorem gM_13 (C : Cx z q wM g fr lo) (hd : decode q.1 pc = .ok (.getfield 13, 3)) (hq : q.2.2.1 = Rk11) (hp : pc + 3 = pc') (kk : Rt z q wM g out pc' lv (.ref (g.1 2) :: st) σ E) : Rt z q wM g out pc lv (.ref (g.1 0) :: st) σ E := q_getR C 0 3 jM_0 kM_0 (by decide) rfl cM0 ik11 (by rw [hq]; exact lfM_13) hd hp kk
theorem lfM_17 : Cond.fieldLink Rk11 17 (Tk11 5).1 (Tk11 5).2.1 (Tk11 5).2.2.1 ∈ lw_g := mg6 60 rfl rfl
theorem gM_17 (C : Cx z q wM g fr lo) (hd : decode q.1 pc = .ok (.getfield 17, 3)) (hq : q.2.2.1 = Rk11) (hp : pc + 3 = pc') (kk : Rt z q wM g out pc' lv (.ref (g.1 3) :: st) σ E) : Rt z q wM g out pc lv (.ref (g.1 0) :: st) σ E := q_getR C 0 5 jM_0 kM_0 (by decide) rfl cM0 ik11 (by rw [hq]; exact lfM_17) hd hp kk
theorem lfM_20 : Cond.fieldLink Rk11 20 (Tk11 6).1 (Tk11 6).2.1 (Tk11 6).2.2.1 ∈ lw_g := mg6 61 rfl rfl
theorem gM_20 (C : Cx z q wM g fr lo) (hd : decode q.1 pc = .ok (.getfield 20, 3)) (hq : q.2.2.1 = Rk11) (hp : pc + 3 = pc') (kk : Rt z q wM g out pc' lv (.ref (g.1 4) :: st) σ E) : Rt z q wM g out pc lv (.ref (g.1 0) :: st) σ E := q_getR C 0 6 jM_0 kM_0 (by decide) rfl cM0 ik11 (by rw [hq]; exact lfM_20) hd hp kk
theorem lfM_23 : Cond.fieldLink Rk11 23 (Tk11 10).1 (Tk11 10).2.1 (Tk11 10).2.2.1 ∈ lw_g := mg6 65 rfl rfl
theorem gM_23 (C : Cx z q wM g fr lo) (hd : decode q.1 pc = .ok (.getfield 23, 3)) (hq : q.2.2.1 = Rk11) (hp : pc + 3 = pc') (kk : Rt z q wM g out pc' lv (.int (σ 0 10) :: st) σ E) : Rt z q wM g out pc lv (.ref (g.1 0) :: st) σ E := q_getI C 0 10 jM_0 kM_0 (by decide) rfl cM0 ik11 (by rw [hq]; exact lfM_23) hd hp kk
theorem pM_23 (C : Cx z q wM g fr lo) {v : Int32} (hd : decode q.1 pc = .ok (.putfield 23, 3)) (hq : q.2.2.1 = Rk11) (hp : pc + 3 = pc') (kk : Rt z q wM g out pc' lv st (s2 σ 0 10 v) E) : Rt z q wM g out pc lv (.int v :: .ref (g.1 0) :: st) σ E := q_putI (ty := ty11) C 0 10 jM_0 kM_0 (by decide) rfl cM0 ik11 tk11 nk11 rfl rfl rfl (by rw [hq]; exact lfM_23) hd hp kk
theorem lfM_27 : Cond.fieldLink Rk11 27 (Tk11 11).1 (Tk11 11).2.1 (Tk11 11).2.2.1 ∈ lw_g := mg6 66 rfl rfl
theorem gM_27 (C : Cx z q wM g fr lo) (hd : decode q.1 pc = .ok (.getfield 27, 3)) (hq : q.2.2.1 = Rk11) (hp : pc + 3 = pc') (kk : Rt z q wM g out pc' lv (.int (σ 0 11) :: st) σ E) : Rt z q wM g out pc lv (.ref (g.1 0) :: st) σ E := q_getI C 0 11 jM_0 kM_0 (by decide) rfl cM0 ik11 (by rw [hq]; exact lfM_27) hd hp kk
theorem pM_27 (C : Cx z q wM g fr lo) {v : Int32} (hd : decode q.1 pc = .ok (.putfield 27, 3)) (hq : q.2.2.1 = Rk11) (hp : pc + 3 = pc') (kk : Rt z q wM g out pc' lv st (s2 σ 0 11 v) E) : Rt z q wM g out pc lv (.int v :: .ref (g.1 0) :: st) σ E := q_putI (ty := ty11) C 0 11 jM_0 kM_0 (by decide) rfl cM0 ik11 tk11 nk11 rfl rfl rfl (by rw [hq]; exact lfM_27) hd hp kk
theorem lfM_30 : Cond.fieldLink Rk11 30 (Tk11 12).1 (Tk11 12).2.1 (Tk11 12).2.2.1 ∈ lw_g := mg6 67 rfl rfl
theorem gM_30 (C : Cx z q wM g fr lo) (hd : decode q.1 pc = .ok (.getfield 30, 3)) (hq : q.2.2.1 = Rk11) (hp : pc + 3 = pc') (kk : Rt z q wM g out pc' lv (.int (σ 0 12) :: st) σ E) : Rt z q wM g out pc lv (.ref (g.1 0) :: st) σ E := q_getI C 0 12 jM_0 kM_0 (by decide) rfl cM0 ik11 (by rw [hq]; exact lfM_30) hd hp kk
theorem pM_30 (C : Cx z q wM g fr lo) {v : Int32} (hd : decode q.1 pc = .ok (.putfield 30, 3)) (hq : q.2.2.1 = Rk11) (hp : pc + 3 = pc') (kk : Rt z q wM g out pc' lv st (s2 σ 0 12 v) E) : Rt z q wM g out pc lv (.int v :: .ref (g.1 0) :: st) σ E := q_putI (ty := ty11) C 0 12 jM_0 kM_0 (by decide) rfl cM0 ik11 tk11 nk11 rfl rfl rfl (by rw [hq]; exact lfM_30) hd hp kk
theorem lfM_33 : Cond.fieldLink Rk11 33 (Tk11 13).1 (Tk11 13).2.1 (Tk11 13).2.2.1 ∈ lw_g := mg6 68 rfl rfl
theorem gM_33 (C : Cx z q wM g fr lo) (hd : decode q.1 pc = .ok (.getfield 33, 3)) (hq : q.2.2.1 = Rk11) (hp : pc + 3 = pc') (kk : Rt z q wM g out pc' lv (.int (σ 0 13) :: st) σ E) : Rt z q wM g out pc lv (.ref (g.1 0) :: st) σ E := q_getI C 0 13 jM_0 kM_0 (by decide) rfl cM0 ik11 (by rw [hq]; exact lfM_33) hd hp kk
theorem pM_33 (C : Cx z q wM g fr lo) {v : Int32} (hd : decode q.1 pc = .ok (.putfield 33, 3)) (hq : q.2.2.1 = Rk11) (hp : pc + 3 = pc') (kk : Rt z q wM g out pc' lv st (s2 σ 0 13 v) E) : Rt z q wM g out pc lv (.int v :: .ref (g.1 0) :: st) σ E := q_putI (ty := ty11) C 0 13 jM_0 kM_0 (by decide) rfl cM0 ik11 tk11 nk11 rfl rfl rfl (by rw [hq]; exact lfM_33) hd hp kk
theorem lfM_36 : Cond.fieldLink Rk11 36 (Tk11 14).1 (Tk11 14).2.1 (Tk11 14).2.2.1 ∈ lw_g := mg6 69 rfl rfl
theorem gM_36 (C : Cx z q wM g fr lo) (hd : decode q.1 pc = .ok (.getfield 36, 3)) (hq : q.2.2.1 = Rk11) (hp : pc + 3 = pc') (kk : Rt z q wM g out pc' lv (.int (σ 0 14) :: st) σ E) : Rt z q wM g out pc lv (.ref (g.1 0) :: st) σ E := q_getI C 0 14 jM_0 kM_0 (by decide) rfl cM0 ik11 (by rw [hq]; exact lfM_36) hd hp kk
theorem pM_36 (C : Cx z q wM g fr lo) {v : Int32} (hd : decode q.1 pc = .ok (.putfield 36, 3)) (hq : q.2.2.1 = Rk11) (hp : pc + 3 = pc') (kk : Rt z q wM g out pc' lv st (s2 σ 0 14 v) E) : Rt z q wM g out pc lv (.int v :: .ref (g.1 0) :: st) σ E := q_putI (ty := ty11) C 0 14 jM_0 kM_0 (by decide) rfl cM0 ik11 tk11 nk11 rfl rfl rfl (by rw [hq]; exact lfM_36) hd hp kk
theorem lfM_39 : Cond.fieldLink Rk11 39 (Tk11 17).1 (Tk11 17).2.1 (Tk11 17).2.2.1 ∈ lw_g := mg6 72 rfl rfl
theorem gM_39 (C : Cx z q wM g fr lo) (hd : decode q.1 pc = .ok (.getfield 39, 3)) (hq : q.2.2.1 = Rk11) (hp : pc + 3 = pc') (kk : Rt z q wM g out pc' lv (.ref (g.1 5) :: st) σ E) : Rt z q wM g out pc lv (.ref (g.1 0) :: st) σ E := q_getR C 0 17 jM_0 kM_0 (by decide) rfl cM0 ik11 (by rw [hq]; exact lfM_39) hd hp kk
theorem lfM_42 : Cond.fieldLink Rk11 42 (Tk11 18).1 (Tk11 18).2.1 (Tk11 18).2.2.1 ∈ lw_g := mg6 73 rfl rfl
theorem gM_42 (C : Cx z q wM g fr lo) (hd : decode q.1 pc = .ok (.getfield 42, 3)) (hq : q.2.2.1 = Rk11) (hp : pc + 3 = pc') (kk : Rt z q wM g out pc' lv (.ref (g.1 6) :: st) σ E) : Rt z q wM g out pc lv (.ref (g.1 0) :: st) σ E := q_getR C 0 18 jM_0 kM_0 (by decide) rfl cM0 ik11 (by rw [hq]; exact lfM_42) hd hp kk
theorem lfM_45 : Cond.fieldLink Rk11 45 (Tk11 19).1 (Tk11 19).2.1 (Tk11 19).2.2.1 ∈ lw_g := mg6 74 rfl rfl
theorem gM_45 (C : Cx z q wM g fr lo) (hd : decode q.1 pc = .ok (.getfield 45, 3)) (hq : q.2.2.1 = Rk11) (hp : pc + 3 = pc') (kk : Rt z q wM g out pc' lv (.ref (g.1 7) :: st) σ E) : Rt z q wM g out pc lv (.ref (g.1 0) :: st) σ E := q_getR C 0 19 jM_0 kM_0 (by decide) rfl cM0 ik11 (by rw [hq]; exact lfM_45) hd hp kk
theorem lfM_48 : Cond.fieldLink Rk11 48 (Tk11 20).1 (Tk11 20).2.1 (Tk11 20).2.2.1 ∈ lw_g := mg6 75 rfl rfl
theorem gM_48 (C : Cx z q wM g fr lo) (hd : decode q.1 pc = .ok (.getfield 48, 3)) (hq : q.2.2.1 = Rk11) (hp : pc + 3 = pc') (kk : Rt z q wM g out pc' lv (.ref (g.1 8) :: st) σ E) : Rt z q wM g out pc lv (.ref (g.1 0) :: st) σ E := q_getR C 0 20 jM_0 kM_0 (by decide) rfl cM0 ik11 (by rw [hq]; exact lfM_48) hd hp kk
theorem lfM_51 : Cond.fieldLink Rk11 51 (Tk11 21).1 (Tk11 21).2.1 (Tk11 21).2.2.1 ∈ lw_g := mg6 76 rfl rfl
theorem gM_51 (C : Cx z q wM g fr lo) (hd : decode q.1 pc = .ok (.getfield 51, 3)) (hq : q.2.2.1 = Rk11) (hp : pc + 3 = pc') (kk : Rt z q wM g out pc' lv (.ref (g.1 9) :: st) σ E) : Rt z q wM g out pc lv (.ref (g.1 0) :: st) σ E := q_getR C 0 21 jM_0 kM_0 (by decide) rfl cM0 ik11 (by rw [hq]; exact lfM_51) hd hp kk
theorem lfM_54 : Cond.fieldLink Rk11 54 (Tk11 22).1 (Tk11 22).2.1 (Tk11 22).2.2.1 ∈ lw_g := mg6 77 rfl rfl
theorem gM_54 (C : Cx z q wM g fr lo) (hd : decode q.1 pc = .ok (.getfield 54, 3)) (hq : q.2.2.1 = Rk11) (hp : pc + 3 = pc') (kk : Rt z q wM g out pc' lv (.ref (g.1 10) :: st) σ E) : Rt z q wM g out pc lv (.ref (g.1 0) :: st) σ E := q_getR C 0 22 jM_0 kM_0 (by decide) rfl cM0 ik11 (by rw [hq]; exact lfM_54) hd hp kk
theorem lfM_57 : Cond.fieldLink Rk11 57 (Tk11 23).1 (Tk11 23).2.1 (Tk11 23).2.2.1 ∈ lw_g := mg6 78 rfl rfl
theorem gM_57 (C : Cx z q wM g fr lo) (hd : decode q.1 pc = .ok (.getfield 57, 3)) (hq : q.2.2.1 = Rk11) (hp : pc + 3 = pc') (kk : Rt z q wM g out pc' lv (.ref (g.1 11) :: st) σ E) : Rt z q wM g out pc lv (.ref (g.1 0) :: st) σ E := q_getR C 0 23 jM_0 kM_0 (by decide) rfl cM0 ik11 (by rw [hq]; exact lfM_57) hd hp kk
theorem lfM_60 : Cond.fieldLink Rk11 60 (Tk11 24).1 (Tk11 24).2.1 (Tk11 24).2.2.1 ∈ lw_g := mg6 79 rfl rfl
theorem gM_60 (C : Cx z q wM g fr lo) (hd : decode q.1 pc = .ok (.getfield 60, 3)) (hq : q.2.2.1 = Rk11) (hp : pc + 3 = pc') (kk : Rt z q wM g out pc' lv (.ref (g.1 12) :: st) σ E) : Rt z q wM g out pc lv (.ref (g.1 0) :: st) σ E := q_getR C 0 24 jM_0 kM_0 (by decide) rfl cM0 ik11 (by rw [hq]; exact lfM_60) hd hp kk
theorem lfM_63 : Cond.fieldLink Rk11 63 (Tk11 25).1 (Tk11 25).2.1 (Tk11 25).2.2.1 ∈ lw_g := mg6 80 rfl rfl
theorem gM_63 (C : Cx z q wM g fr lo) (hd : decode q.1 pc = .ok (.getfield 63, 3)) (hq : q.2.2.1 = Rk11) (hp : pc + 3 = pc') (kk : Rt z q wM g out pc' lv (.ref (g.1 13) :: st) σ E) : Rt z q wM g out pc lv (.ref (g.1 0) :: st) σ E := q_getR C 0 25 jM_0 kM_0 (by decide) rfl cM0 ik11 (by rw [hq]; exact lfM_63) hd hp kk
theorem lfM_66 : Cond.fieldLink Rk11 66 (Tk11 26).1 (Tk11 26).2.1 (Tk11 26).2.2.1 ∈ lw_g := mg6 81 rfl rfl
theorem gM_66 (C : Cx z q wM g fr lo) (hd : decode q.1 pc = .ok (.getfield 66, 3)) (hq : q.2.2.1 = Rk11) (hp : pc + 3 = pc') (kk : Rt z q wM g out pc' lv (.ref (g.1 14) :: st) σ E) : Rt z q wM g out pc lv (.ref (g.1 0) :: st) σ E := q_getR C 0 26 jM_0 kM_0 (by decide) rfl cM0 ik11 (by rw [hq]; exact lfM_66) hd hp kk
theorem lfM_69 : Cond.fieldLink Rk11 69 (Tk11 27).1 (Tk11 27).2.1 (Tk11 27).2.2.1 ∈ lw_g := mg6 82 rfl rfl
theorem gM_69 (C : Cx z q wM g fr lo) (hd : decode q.1 pc = .ok (.getfield 69, 3)) (hq : q.2.2.1 = Rk11) (hp : pc + 3 = pc') (kk : Rt z q wM g out pc' lv (.ref (g.1 15) :: st) σ E) : Rt z q wM g out pc lv (.ref (g.1 0) :: st) σ E := q_getR C 0 27 jM_0 kM_0 (by decide) rfl cM0 ik11 (by rw [hq]; exact lfM_69) hd hp kk
theorem lfM_72 : Cond.fieldLink Rk11 72 (Tk11 28).1 (Tk11 28).2.1 (Tk11 28).2.2.1 ∈ lw_g := mg6 83 rfl rfl
theorem gM_72 (C : Cx z q wM g fr lo) (hd : decode q.1 pc = .ok (.getfield 72, 3)) (hq : q.2.2.1 = Rk11) (hp : pc + 3 = pc') (kk : Rt z q wM g out pc' lv (.ref (g.1 16) :: st) σ E) : Rt z q wM g out pc lv (.ref (g.1 0) :: st) σ E := q_getR C 0 28 jM_0 kM_0 (by decide) rfl cM0 ik11 (by rw [hq]; exact lfM_72) hd hp kk
theorem lfM_75 : Cond.fieldLink Rk11 75 (Tk11 29).1 (Tk11 29).2.1 (Tk11 29).2.2.1 ∈ lw_g := mg6 84 rfl rfl
theorem gM_75 (C : Cx z q wM g fr lo) (hd : decode q.1 pc = .ok (.getfield 75, 3)) (hq : q.2.2.1 = Rk11) (hp : pc + 3 = pc') (kk : Rt z q wM g out pc' lv (.ref (g.1 17) :: st) σ E) : Rt z q wM g out pc lv (.ref (g.1 0) :: st) σ E := q_getR C 0 29 jM_0 kM_0 (by decide) rfl cM0 ik11 (by rw [hq]; exact lfM_75) hd hp kk
theorem lfM_78 : Cond.fieldLink Rk11 78 (Tk11 35).1 (Tk11 35).2.1 (Tk11 35).2.2.1 ∈ lw_g := mg6 90 rfl rfl
theorem gM_78 (C : Cx z q wM g fr lo) (hd : decode q.1 pc = .ok (.getfield 78, 3)) (hq : q.2.2.1 = Rk11) (hp : pc + 3 = pc') (kk : Rt z q wM g out pc' lv (.ref (g.1 18) :: st) σ E) : Rt z q wM g out pc lv (.ref (g.1 0) :: st) σ E := q_getR C 0 35 jM_0 kM_0 (by decide) rfl cM0 ik11 (by rw [hq]; exact lfM_78) hd hp kk
theorem lfM_81 : Cond.fieldLink Rk11 81 (Tk11 36).1 (Tk11 36).2.1 (Tk11 36).2.2.1 ∈ lw_g := mg6 91 rfl rfl
theorem gM_81 (C : Cx z q wM g fr lo) (hd : decode q.1 pc = .ok (.getfield 81, 3)) (hq : q.2.2.1 = Rk11) (hp : pc + 3 = pc') (kk : Rt z q wM g out pc' lv (.ref (g.1 19) :: st) σ E) : Rt z q wM g out pc lv (.ref (g.1 0) :: st) σ E := q_getR C 0 36 jM_0 kM_0 (by decide) rfl cM0 ik11 (by rw [hq]; exact lfM_81) hd hp kk
theorem lfM_84 : Cond.fieldLink Rk11 84 (Tk11 37).1 (Tk11 37).2.1 (Tk11 37).2.2.1 ∈ lw_g := mg6 92 rfl rfl
theorem gM_84 (C : Cx z q wM g fr lo) (hd : decode q.1 pc = .ok (.getfield 84, 3)) (hq : q.2.2.1 = Rk11) (hp : pc + 3 = pc') (kk : Rt z q wM g out pc' lv (.ref (g.1 20) :: st) σ E) : Rt z q wM g out pc lv (.ref (g.1 0) :: st) σ E := q_getR C 0 37 jM_0 kM_0 (by decide) rfl cM0 ik11 (by rw [hq]; exact lfM_84) hd hp kk
theorem lfM_87 : Cond.fieldLink Rk11 87 (Tk11 38).1 (Tk11 38).2.1 (Tk11 38).2.2.1 ∈ lw_g := mg6 93 rfl rfl
theorem gM_87 (C : Cx z q wM g fr lo) (hd : decode q.1 pc = .ok (.getfield 87, 3)) (hq : q.2.2.1 = Rk11) (hp : pc + 3 = pc') (kk : Rt z q wM g out pc' lv (.ref (g.1 21) :: st) σ E) : Rt z q wM g out pc lv (.ref (g.1 0) :: st) σ E := q_getR C 0 38 jM_0 kM_0 (by decide) rfl cM0 ik11 (by rw [hq]; exact lfM_87) hd hp kk
theorem lfM_90 : Cond.fieldLink Rk11 90 (Tk11 39).1 (Tk11 39).2.1 (Tk11 39).2.2.1 ∈ lw_g := mg6 94 rfl rfl
theorem gM_90 (C : Cx z q wM g fr lo) (hd : decode q.1 pc = .ok (.getfield 90, 3)) (hq : q.2.2.1 = Rk11) (hp : pc + 3 = pc') (kk : Rt z q wM g out pc' lv (.ref (g.1 22) :: st) σ E) : Rt z q wM g out pc lv (.ref (g.1 0) :: st) σ E := q_getR C 0 39 jM_0 kM_0 (by decide) rfl cM0 ik11 (by rw [hq]; exact lfM_90) hd hp kk
theorem lfM_93 : Cond.fieldLink Rk11 93 (Tk11 40).1 (Tk11 40).2.1 (Tk11 40).2.2.1 ∈ lw_g := mg6 95 rfl rfl
theorem gM_93 (C : Cx z q wM g fr lo) (hd : decode q.1 pc = .ok (.getfield 93, 3)) (hq : q.2.2.1 = Rk11) (hp : pc + 3 = pc') (kk : Rt z q wM g out pc' lv (.ref (g.1 23) :: st) σ E) : Rt z q wM g out pc lv (.ref (g.1 0) :: st) σ E := q_getR C 0 40 jM_0 kM_0 (by decide) rfl cM0 ik11 (by rw [hq]; exact lfM_93) hd hp kk
theorem lfM_96 : Cond.fieldLink Rk11 96 (Tk11 44).1 (Tk11 44).2.1 (Tk11 44).2.2.1 ∈ lw_g := mg6 99 rfl rfl
theorem gM_96 (C : Cx z q wM g fr lo) (hd : decode q.1 pc = .ok (.getfield 96, 3)) (hq : q.2.2.1 = Rk11) (hp : pc + 3 = pc') (kk : Rt z q wM g out pc' lv (.ref (g.1 24) :: st) σ E) : Rt z q wM g out pc lv (.ref (g.1 0) :: st) σ E := q_getR C 0 44 jM_0 kM_0 (by decide) rfl cM0 ik11 (by rw [hq]; exact lfM_96) hd hp kk
theorem lfM_99 : Cond.fieldLink Rk11 99 (Tk11 45).1 (Tk11 45).2.1 (Tk11 45).2.2.1 ∈ lw_g := mg6 100 rfl rfl
theorem gM_99 (C : Cx z q wM g fr lo) (hd : decode q.1 pc = .ok (.getfield 99, 3)) (hq : q.2.2.1 = Rk11) (hp : pc + 3 = pc') (kk : Rt z q wM g out pc' lv (.ref (g.1 25) :: st) σ E) : Rt z q wM g out pc lv (.ref (g.1 0) :: st) σ E := q_getR C 0 45 jM_0 kM_0 (by decide) rfl cM0 ik11 (by rw [hq]; exact lfM_99) hd hp kk
theorem lfM_102 : Cond.fieldLink Rk11 102 (Tk11 46).1 (Tk11 46).2.1 (Tk11 46).2.2.1 ∈ lw_g := mg6 101 rfl rfl
theorem gM_102 (C : Cx z q wM g fr lo) (hd : decode q.1 pc = .ok (.getfield 102, 3)) (hq : q.2.2.1 = Rk11) (hp : pc + 3 = pc') (kk : Rt z q wM g out pc' lv (.ref (g.1 26) :: st) σ E) : Rt z q wM g out pc lv (.ref (g.1 0) :: st) σ E := q_getR C 0 46 jM_0 kM_0 (by decide) rfl cM0 ik11 (by rw [hq]; exact lfM_102) hd hp kk
theorem lfM_105 : Cond.fieldLink Rk11 105 (Tk11 47).1 (Tk11 47).2.1 (Tk11 47).2.2.1 ∈ lw_g := mg6 102 rfl rfl
theorem gM_105 (C : Cx z q wM g fr lo) (hd : decode q.1 pc = .ok (.getfield 105, 3)) (hq : q.2.2.1 = Rk11) (hp : pc + 3 = pc') (kk : Rt z q wM g out pc' lv (.ref (g.1 27) :: st) σ E) : Rt z q wM g out pc lv (.ref (g.1 0) :: st) σ E := q_getR C 0 47 jM_0 kM_0 (by decide) rfl cM0 ik11 (by rw [hq]; exact lfM_105) hd hp kk
theorem lfM_108 : Cond.fieldLink Rk11 108 (Tk11 48).1 (Tk11 48).2.1 (Tk11 48).2.2.1 ∈ lw_g := mg6 103 rfl rfl
theorem gM_108 (C : Cx z q wM g fr lo) (hd : decode q.1 pc = .ok (.getfield 108, 3)) (hq : q.2.2.1 = Rk11) (hp : pc + 3 = pc') (kk : Rt z q wM g out pc' lv (.ref (g.1 28) :: st) σ E) : Rt z q wM g out pc lv (.ref (g.1 0) :: st) σ E := q_getR C 0 48 jM_0 kM_0 (by decide) rfl cM0 ik11 (by rw [hq]; exact lfM_108) hd hp kk
theorem lfM_111 : Cond.fieldLink Rk11 111 (Tk11 49).1 (Tk11 49).2.1 (Tk11 49).2.2.1 ∈ lw_g := mg6 104 rfl rfl
theorem gM_111 (C : Cx z q wM g fr lo) (hd : decode q.1 pc = .ok (.getfield 111, 3)) (hq : q.2.2.1 = Rk11) (hp : pc + 3 = pc') (kk : Rt z q wM g out pc' lv (.ref (g.1 29) :: st) σ E) : Rt z q wM g out pc lv (.ref (g.1 0) :: st) σ E := q_getR C 0 49 jM_0 kM_0 (by decide) rfl cM0 ik11 (by rw [hq]; exact lfM_111) hd hp kk
theorem lfM_114 : Cond.fieldLink Rk11 114 (Tk11 50).1 (Tk11 50).2.1 (Tk11 50).2.2.1 ∈ lw_g := mg6 105 rfl rfl
theorem gM_114 (C : Cx z q wM g fr lo) (hd : decode q.1 pc = .ok (.getfield 114, 3)) (hq : q.2.2.1 = Rk11) (hp : pc + 3 = pc') (kk : Rt z q wM g out pc' lv (.ref (g.1 30) :: st) σ E) : Rt z q wM g out pc lv (.ref (g.1 0) :: st) σ E := q_getR C 0 50 jM_0 kM_0 (by decide) rfl cM0 ik11 (by rw [hq]; exact lfM_114) hd hp kk
theorem lfM_117 : Cond.fieldLink Rk11 117 (Tk11 51).1 (Tk11 51).2.1 (Tk11 51).2.2.1 ∈ lw_g := mg6 106 rfl rfl
theorem gM_117 (C : Cx z q wM g fr lo) (hd : decode q.1 pc = .ok (.getfield 117, 3)) (hq : q.2.2.1 = Rk11) (hp : pc + 3 = pc') (kk : Rt z q wM g out pc' lv (.ref (g.1 31) :: st) σ E) : Rt z q wM g out pc lv (.ref (g.1 0) :: st) σ E := q_getR C 0 51 jM_0 kM_0 (by decide) rfl cM0 ik11 (by rw [hq]; exact lfM_117) hd hp kk
theorem lfM_120 : Cond.fieldLink Rk11 120 (Tk11 52).1 (Tk11 52).2.1 (Tk11 52).2.2.1 ∈ lw_g := mg6 107 rfl rfl
theorem gM_120 (C : Cx z q wM g fr lo) (hd : decode q.1 pc = .ok (.getfield 120, 3)) (hq : q.2.2.1 = Rk11) (hp : pc + 3 = pc') (kk : Rt z q wM g out pc' lv (.ref (g.1 32) :: st) σ E) : Rt z q wM g out pc lv (.ref (g.1 0) :: st) σ E := q_getR C 0 52 jM_0 kM_0 (by decide) rfl cM0 ik11 (by rw [hq]; exact lfM_120) hd hp kk
theorem lfM_123 : Cond.fieldLink Rk11 123 (Tk11 53).1 (Tk11 53).2.1 (Tk11 53).2.2.1 ∈ lw_g := mg6 108 rfl rfl
theorem gM_123 (C : Cx z q wM g fr lo) (hd : decode q.1 pc = .ok (.getfield 123, 3)) (hq : q.2.2.1 = Rk11) (hp : pc + 3 = pc') (kk : Rt z q wM g out pc' lv (.ref (g.1 33) :: st) σ E) : Rt z q wM g out pc lv (.ref (g.1 0) :: st) σ E := q_getR C 0 53 jM_0 kM_0 (by decide) rfl cM0 ik11 (by rw [hq]; exact lfM_123) hd hp kk
theorem lfM_126 : Cond.fieldLink Rk11 126 (Tk11 54).1 (Tk11 54).2.1 (Tk11 54).2.2.1 ∈ lw_g := mg6 109 rfl rfl
theorem gM_126 (C : Cx z q wM g fr lo) (hd : decode q.1 pc = .ok (.getfield 126, 3)) (hq : q.2.2.1 = Rk11) (hp : pc + 3 = pc') (kk : Rt z q wM g out pc' lv (.ref (g.1 34) :: st) σ E) : Rt z q wM g out pc lv (.ref (g.1 0) :: st) σ E := q_getR C 0 54 jM_0 kM_0 (by decide) rfl cM0 ik11 (by rw [hq]; exact lfM_126) hd hp kk
theorem lfM_129 : Cond.fieldLink Rk11 129 (Tk11 55).1 (Tk11 55).2.1 (Tk11 55).2.2.1 ∈ lw_g := mg6 110 rfl rfl
theorem gM_129 (C : Cx z q wM g fr lo) (hd : decode q.1 pc = .ok (.getfield 129, 3)) (hq : q.2.2.1 = Rk11) (hp : pc + 3 = pc') (kk : Rt z q wM g out pc' lv (.ref (g.1 35) :: st) σ E) : Rt z q wM g out pc lv (.ref (g.1 0) :: st) σ E := q_getR C 0 55 jM_0 kM_0 (by decide) rfl cM0 ik11 (by rw [hq]; exact lfM_129) hd hp kk
theorem lfM_132 : Cond.fieldLink Rk11 132 (Tk11 56).1 (Tk11 56).2.1 (Tk11 56).2.2.1 ∈ lw_g := mg6 111 rfl rfl
theorem gM_132 (C : Cx z q wM g fr lo) (hd : decode q.1 pc = .ok (.getfield 132, 3)) (hq : q.2.2.1 = Rk11) (hp : pc + 3 = pc') (kk : Rt z q wM g out pc' lv (.ref (g.1 36) :: st) σ E) : Rt z q wM g out pc lv (.ref (g.1 0) :: st) σ E := q_getR C 0 56 jM_0 kM_0 (by decide) rfl cM0 ik11 (by rw [hq]; exact lfM_132) hd hp kk
theorem lfM_135 : Cond.fieldLink Rk11 135 (Tk11 60).1 (Tk11 60).2.1 (Tk11 60).2.2.1 ∈ lw_g := mg6 115 rfl rfl
theorem gM_135 (C : Cx z q wM g fr lo) (hd : decode q.1 pc = .ok (.getfield 135, 3)) (hq : q.2.2.1 = Rk11) (hp : pc + 3 = pc') (kk : Rt z q wM g out pc' lv (.ref (g.1 37) :: st) σ E) : Rt z q wM g out pc lv (.ref (g.1 0) :: st) σ E := q_getR C 0 60 jM_0 kM_0 (by decide) rfl cM0 ik11 (by rw [hq]; exact lfM_135) hd hp kk
theorem lfM_138 : Cond.fieldLink Rk11 138 (Tk11 61).1 (Tk11 61).2.1 (Tk11 61).2.2.1 ∈ lw_g := mg6 116 rfl rfl
theorem gM_138 (C : Cx z q wM g fr lo) (hd : decode q.1 pc = .ok (.getfield 138, 3)) (hq : q.2.2.1 = Rk11) (hp : pc + 3 = pc') (kk : Rt z q wM g out pc' lv (.ref (g.1 38) :: st) σ E) : Rt z q wM g out pc lv (.ref (g.1 0) :: st) σ E := q_getR C 0 61 jM_0 kM_0 (by decide) rfl cM0 ik11 (by rw [hq]; exact lfM_138) hd hp kk
theorem lfM_141 : Cond.fieldLink Rk11 141 (Tk11 62).1 (Tk11 62).2.1 (Tk11 62).2.2.1 ∈ lw_g := mg6 117 rfl rfl
theorem gM_141 (C : Cx z q wM g fr lo) (hd : decode q.1 pc = .ok (.getfield 141, 3)) (hq : q.2.2.1 = Rk11) (hp : pc + 3 = pc') (kk : Rt z q wM g out pc' lv (.ref (g.1 39) :: st) σ E) : Rt z q wM g out pc lv (.ref (g.1 0) :: st) σ E := q_getR C 0 62 jM_0 kM_0 (by decide) rfl cM0 ik11 (by rw [hq]; exact lfM_141) hd hp kk
theorem lfM_144 : Cond.fieldLink Rk11 144 (Tk11 63).1 (Tk11 63).2.1 (Tk11 63).2.2.1 ∈ lw_g := mg6 118 rfl rfl
theorem gM_144 (C : Cx z q wM g fr lo) (hd : decode q.1 pc = .ok (.getfield 144, 3)) (hq : q.2.2.1 = Rk11) (hp : pc + 3 = pc') (kk : Rt z q wM g out pc' lv (.ref (g.1 40) :: st) σ E) : Rt z q wM g out pc lv (.ref (g.1 0) :: st) σ E := q_getR C 0 63 jM_0 kM_0 (by decide) rfl cM0 ik11 (by rw [hq]; exact lfM_144) hd hp kk
theorem lfM_147 : Cond.fieldLink Rk11 147 (Tk11 67).1 (Tk11 67).2.1 (Tk11 67).2.2.1 ∈ lw_g := mg6 122 rfl rfl
theorem gM_147 (C : Cx z q wM g fr lo) (hd : decode q.1 pc = .ok (.getfield 147, 3)) (hq : q.2.2.1 = Rk11) (hp : pc + 3 = pc') (kk : Rt z q wM g out pc' lv (.ref (g.1 41) :: st) σ E) : Rt z q wM g out pc lv (.ref (g.1 0) :: st) σ E := q_getR C 0 67 jM_0 kM_0 (by decide) rfl cM0 ik11 (by rw [hq]; exact lfM_147) hd hp kk
theorem lfM_150 : Cond.fieldLink Rk11 150 (Tk11 71).1 (Tk11 71).2.1 (Tk11 71).2.2.1 ∈ lw_g := mg6 126 rfl rfl
theorem gM_150 (C : Cx z q wM g fr lo) (hd : decode q.1 pc = .ok (.getfield 150, 3)) (hq : q.2.2.1 = Rk11) (hp : pc + 3 = pc') (kk : Rt z q wM g out pc' lv (.ref (g.1 42) :: st) σ E) : Rt z q wM g out pc lv (.ref (g.1 0) :: st) σ E := q_getR C 0 71 jM_0 kM_0 (by decide) rfl cM0 ik11 (by rw [hq]; exact lfM_150) hd hp kk
theorem lfM_153 : Cond.fieldLink Rk11 153 (Tk11 72).1 (Tk11 72).2.1 (Tk11 72).2.2.1 ∈ lw_g := mg6 127 rfl rfl
theorem gM_153 (C : Cx z q wM g fr lo) (hd : decode q.1 pc = .ok (.getfield 153, 3)) (hq : q.2.2.1 = Rk11) (hp : pc + 3 = pc') (kk : Rt z q wM g out pc' lv (.ref (g.1 43) :: st) σ E) : Rt z q wM g out pc lv (.ref (g.1 0) :: st) σ E := q_getR C 0 72 jM_0 kM_0 (by decide) rfl cM0 ik11 (by rw [hq]; exact lfM_153) hd hp kk
theorem lfM_172 : Cond.fieldLink Rk11 172 (Tk11 30).1 (Tk11 30).2.1 (Tk11 30).2.2.1 ∈ lw_g := mg6 85 rfl rfl
theorem gM_172 (C : Cx z q wM g fr lo) (hd : decode q.1 pc = .ok (.getfield 172, 3)) (hq : q.2.2.1 = Rk11) (hp : pc + 3 = pc') (kk : Rt z q wM g out pc' lv (.int (σ 0 30) :: st) σ E) : Rt z q wM g out pc lv (.ref (g.1 0) :: st) σ E := q_getI C 0 30 jM_0 kM_0 (by decide) rfl cM0 ik11 (by rw [hq]; exact lfM_172) hd hp kk
theorem pM_172 (C : Cx z q wM g fr lo) {v : Int32} (hd : decode q.1 pc = .ok (.putfield 172, 3)) (hq : q.2.2.1 = Rk11) (hp : pc + 3 = pc') (kk : Rt z q wM g out pc' lv st (s2 σ 0 30 v) E) : Rt z q wM g out pc lv (.int v :: .ref (g.1 0) :: st) σ E := q_putI (ty := ty11) C 0 30 jM_0 kM_0 (by decide) rfl cM0 ik11 tk11 nk11 rfl rfl rfl (by rw [hq]; exact lfM_172) hd hp kk
theorem lfM_175 : Cond.fieldLink Rk11 175 (Tk11 31).1 (Tk11 31).2.1 (Tk11 31).2.2.1 ∈ lw_g := mg6 86 rfl rfl
theorem gM_175 (C : Cx z q wM g fr lo) (hd : decode q.1 pc = .ok (.getfield 175, 3)) (hq : q.2.2.1 = Rk11) (hp : pc + 3 = pc') (kk : Rt z q wM g out pc' lv (.int (σ 0 31) :: st) σ E) : Rt z q wM g out pc lv (.ref (g.1 0) :: st) σ E := q_getI C 0 31 jM_0 kM_0 (by decide) rfl cM0 ik11 (by rw [hq]; exact lfM_175) hd hp kk
theorem pM_175 (C : Cx z q wM g fr lo) {v : Int32} (hd : decode q.1 pc = .ok (.putfield 175, 3)) (hq : q.2.2.1 = Rk11) (hp : pc + 3 = pc') (kk : Rt z q wM g out pc' lv st (s2 σ 0 31 v) E) : Rt z q wM g out pc lv (.int v :: .ref (g.1 0) :: st) σ E := q_putI (ty := ty11) C 0 31 jM_0 kM_0 (by decide) rfl cM0 ik11 tk11 nk11 rfl rfl rfl (by rw [hq]; exact lfM_175) hd hp kk
theorem lfM_178 : Cond.fieldLink Rk11 178 (Tk11 32).1 (Tk11 32).2.1 (Tk11 32).2.2.1 ∈ lw_g := mg6 87 rfl rfl
theorem gM_178 (C : Cx z q wM g fr lo) (hd : decode q.1 pc = .ok (.getfield 178, 3)) (hq : q.2.2.1 = Rk11) (hp : pc + 3 = pc') (kk : Rt z q wM g out pc' lv (.int (σ 0 32) :: st) σ E) : Rt z q wM g out pc lv (.ref (g.1 0) :: st) σ E := q_getI C 0 32 jM_0 kM_0 (by decide) rfl cM0 ik11 (by rw [hq]; exact lfM_178) hd hp kk
theorem pM_178 (C : Cx z q wM g fr lo) {v : Int32} (hd : decode q.1 pc = .ok (.putfield 178, 3)) (hq : q.2.2.1 = Rk11) (hp : pc + 3 = pc') (kk : Rt z q wM g out pc' lv st (s2 σ 0 32 v) E) : Rt z q wM g out pc lv (.int v :: .ref (g.1 0) :: st) σ E := q_putI (ty := ty11) C 0 32 jM_0 kM_0 (by decide) rfl cM0 ik11 tk11 nk11 rfl rfl rfl (by rw [hq]; exact lfM_178) hd hp kk
theorem lfM_181 : Cond.fieldLink Rk11 181 (Tk11 33).1 (Tk11 33).2.1 (Tk11 33).2.2.1 ∈ lw_g := mg6 88 rfl rfl
theorem gM_181 (C : Cx z q wM g fr lo) (hd : decode q.1 pc = .ok (.getfield 181, 3)) (hq : q.2.2.1 = Rk11) (hp : pc + 3 = pc') (kk : Rt z q wM g out pc' lv (.int (σ 0 33) :: st) σ E) : Rt z q wM g out pc lv (.ref (g.1 0) :: st) σ E := q_getI C 0 33 jM_0 kM_0 (by decide) rfl cM0 ik11 (by rw [hq]; exact lfM_181) hd hp kk
theorem pM_181 (C : Cx z q wM g fr lo) {v : Int32} (hd : decode q.1 pc = .ok (.putfield 181, 3)) (hq : q.2.2.1 = Rk11) (hp : pc + 3 = pc') (kk : Rt z q wM g out pc' lv st (s2 σ 0 33 v) E) : Rt z q wM g out pc lv (.int v :: .ref (g.1 0) :: st) σ E := q_putI (ty := ty11) C 0 33 jM_0 kM_0 (by decide) rfl cM0 ik11 tk11 nk11 rfl rfl rfl (by rw [hq]; exact lfM_181) hd hp kk
theorem lfM_184 : Cond.fieldLink Rk11 184 (Tk11 34).1 (Tk11 34).2.1 (Tk11 34).2.2.1 ∈ lw_g := mg6 89 rfl rfl
theorem gM_184 (C : Cx z q wM g fr lo) (hd : decode q.1 pc = .ok (.getfield 184, 3)) (hq : q.2.2.1 = Rk11) (hp : pc + 3 = pc') (kk : Rt z q wM g out pc' lv (.int (σ 0 34) :: st) σ E) : Rt z q wM g out pc lv (.ref (g.1 0) :: st) σ E := q_getI C 0 34 jM_0 kM_0 (by decide) rfl cM0 ik11 (by rw [hq]; exact lfM_184) hd hp kk
theorem pM_184 (C : Cx z q wM g fr lo) {v : Int32} (hd : decode q.1 pc = .ok (.putfield 184, 3)) (hq : q.2.2.1 = Rk11) (hp : pc + 3 = pc') (kk : Rt z q wM g out pc' lv st (s2 σ 0 34 v) E) : Rt z q wM g out pc lv (.int v :: .ref (g.1 0) :: st) σ E := q_putI (ty := ty11) C 0 34 jM_0 kM_0 (by decide) rfl cM0 ik11 tk11 nk11 rfl rfl rfl (by rw [hq]; exact lfM_184) hd hp kk
theorem lfM_191 : Cond.fieldLink Rk11 191 (Tk11 42).1 (Tk11 42).2.1 (Tk11 42).2.2.1 ∈ lw_g := mg6 97 rfl rfl
theorem gM_191 (C : Cx z q wM g fr lo) (hd : decode q.1 pc = .ok (.getfield 191, 3)) (hq : q.2.2.1 = Rk11) (hp : pc + 3 = pc') (kk : Rt z q wM g out pc' lv (.int (σ 0 42) :: st) σ E) : Rt z q wM g out pc lv (.ref (g.1 0) :: st) σ E := q_getI C 0 42 jM_0 kM_0 (by decide) rfl cM0 ik11 (by rw [hq]; exact lfM_191) hd hp kk
theorem pM_191 (C : Cx z q wM g fr lo) {v : Int32} (hd : decode q.1 pc = .ok (.putfield 191, 3)) (hq : q.2.2.1 = Rk11) (hp : pc + 3 = pc') (kk : Rt z q wM g out pc' lv st (s2 σ 0 42 v) E) : Rt z q wM g out pc lv (.int v :: .ref (g.1 0) :: st) σ E := q_putI (ty := ty11) C 0 42 jM_0 kM_0 (by decide) rfl cM0 ik11 tk11 nk11 rfl rfl rfl (by rw [hq]; exact lfM_191) hd hp kk
theorem lfM_194 : Cond.fieldLink Rk11 194 (Tk11 43).1 (Tk11 43).2.1 (Tk11 43).2.2.1 ∈ lw_g := mg6 98 rfl rfl
theorem gM_194 (C : Cx z q wM g fr lo) (hd : decode q.1 pc = .ok (.getfield 194, 3)) (hq : q.2.2.1 = Rk11) (hp : pc + 3 = pc') (kk : Rt z q wM g out pc' lv (.int (σ 0 43) :: st) σ E) : Rt z q wM g out pc lv (.ref (g.1 0) :: st) σ E := q_getI C 0 43 jM_0 kM_0 (by decide) rfl cM0 ik11 (by rw [hq]; exact lfM_194) hd hp kk
theorem pM_194 (C : Cx z q wM g fr lo) {v : Int32} (hd : decode q.1 pc = .ok (.putfield 194, 3)) (hq : q.2.2.1 = Rk11) (hp : pc + 3 = pc') (kk : Rt z q wM g out pc' lv st (s2 σ 0 43 v) E) : Rt z q wM g out pc lv (.int v :: .ref (g.1 0) :: st) σ E := q_putI (ty := ty11) C 0 43 jM_0 kM_0 (by decide) rfl cM0 ik11 tk11 nk11 rfl rfl rfl (by rw [hq]; exact lfM_194) hd hp kk
theorem lfM_242 : Cond.fieldLink Rk11 242 (Tk11 41).1 (Tk11 41).2.1 (Tk11 41).2.2.1 ∈ lw_g := mg6 96 rfl rfl
theorem gM_242 (C : Cx z q wM g fr lo) (hd : decode q.1 pc = .ok (.getfield 242, 3)) (hq : q.2.2.1 = Rk11) (hp : pc + 3 = pc') (kk : Rt z q wM g out pc' lv (.int (σ 0 41) :: st) σ E) : Rt z q wM g out pc lv (.ref (g.1 0) :: st) σ E := q_getI C 0 41 jM_0 kM_0 (by decide) rfl cM0 ik11 (by rw [hq]; exact lfM_242) hd hp kk
theorem pM_242 (C : Cx z q wM g fr lo) {v : Int32} (hd : decode q.1 pc = .ok (.putfield 242, 3)) (hq : q.2.2.1 = Rk11) (hp : pc + 3 = pc') (kk : Rt z q wM g out pc' lv st (s2 σ 0 41 v) E) : Rt z q wM g out pc lv (.int v :: .ref (g.1 0) :: st) σ E := q_putI (ty := ty11) C 0 41 jM_0 kM_0 (by decide) rfl cM0 ik11 tk11 nk11 rfl rfl rfl (by rw [hq]; exact lfM_242) hd hp kk
theorem lfM_257 : Cond.fieldLink Rk11 257 (Tk11 15).1 (Tk11 15).2.1 (Tk11 15).2.2.1 ∈ lw_g := mg6 70 rfl rfl
theorem gM_257 (C : Cx z q wM g fr lo) (hd : decode q.1 pc = .ok (.getfield 257, 3)) (hq : q.2.2.1 = Rk11) (hp : pc + 3 = pc') (kk : Rt z q wM g out pc' lv (.int (σ 0 15) :: st) σ E) : Rt z q wM g out pc lv (.ref (g.1 0) :: st) σ E := q_getI C 0 15 jM_0 kM_0 (by decide) rfl cM0 ik11 (by rw [hq]; exact lfM_257) hd hp kk
theorem pM_257 (C : Cx z q wM g fr lo) {v : Int32} (hd : decode q.1 pc = .ok (.putfield 257, 3)) (hq : q.2.2.1 = Rk11) (hp : pc + 3 = pc') (kk : Rt z q wM g out pc' lv st (s2 σ 0 15 v) E) : Rt z q wM g out pc lv (.int v :: .ref (g.1 0) :: st) σ E := q_putI (ty := ty11) C 0 15 jM_0 kM_0 (by decide) rfl cM0 ik11 tk11 nk11 rfl rfl rfl (by rw [hq]; exact lfM_257) hd hp kk
theorem lfM_270 : Cond.fieldLink Rk11 270 (Tk11 8).1 (Tk11 8).2.1 (Tk11 8).2.2.1 ∈ lw_g := mg6 63 rfl rfl
theorem gM_270 (C : Cx z q wM g fr lo) (hd : decode q.1 pc = .ok (.getfield 270, 3)) (hq : q.2.2.1 = Rk11) (hp : pc + 3 = pc') (kk : Rt z q wM g out pc' lv (.int (σ 0 8) :: st) σ E) : Rt z q wM g out pc lv (.ref (g.1 0) :: st) σ E := q_getI C 0 8 jM_0 kM_0 (by decide) rfl cM0 ik11 (by rw [hq]; exact lfM_270) hd hp kk
theorem pM_270 (C : Cx z q wM g fr lo) {v : Int32} (hd : decode q.1 pc = .ok (.putfield 270, 3)) (hq : q.2.2.1 = Rk11) (hp : pc + 3 = pc') (kk : Rt z q wM g out pc' lv st (s2 σ 0 8 v) E) : Rt z q wM g out pc lv (.int v :: .ref (g.1 0) :: st) σ E := q_putI (ty := ty11) C 0 8 jM_0 kM_0 (by decide) rfl cM0 ik11 tk11 nk11 rfl rfl rfl (by rw [hq]; exact lfM_270) hd hp kk
theorem lfM_273 : Cond.fieldLink Rk11 273 (Tk11 9).1 (Tk11 9).2.1 (Tk11 9).2.2.1 ∈ lw_g := mg6 64 rfl rfl
theorem gM_273 (C : Cx z q wM g fr lo) (hd : decode q.1 pc = .ok (.getfield 273, 3)) (hq : q.2.2.1 = Rk11) (hp : pc + 3 = pc') (kk : Rt z q wM g out pc' lv (.int (σ 0 9) :: st) σ E) : Rt z q wM g out pc lv (.ref (g.1 0) :: st) σ E := q_getI C 0 9 jM_0 kM_0 (by decide) rfl cM0 ik11 (by rw [hq]; exact lfM_273) hd hp kk
theorem pM_273 (C : Cx z q wM g fr lo) {v : Int32} (hd : decode q.1 pc = .ok (.putfield 273, 3)) (hq : q.2.2.1 = Rk11) (hp : pc + 3 = pc') (kk : Rt z q wM g out pc' lv st (s2 σ 0 9 v) E) : Rt z q wM g out pc lv (.int v :: .ref (g.1 0) :: st) σ E := q_putI (ty := ty11) C 0 9 jM_0 kM_0 (by decide) rfl cM0 ik11 tk11 nk11 rfl rfl rfl (by rw [hq]; exact lfM_273) hd hp kk
theorem lfM_289 : Cond.fieldLink Rk11 289 (Tk11 57).1 (Tk11 57).2.1 (Tk11 57).2.2.1 ∈ lw_g := mg6 112 rfl rfl
theorem gM_289 (C : Cx z q wM g fr lo) (hd : decode q.1 pc = .ok (.getfield 289, 3)) (hq : q.2.2.1 = Rk11) (hp : pc + 3 = pc') (kk : Rt z q wM g out pc' lv (.int (σ 0 57) :: st) σ E) : Rt z q wM g out pc lv (.ref (g.1 0) :: st) σ E := q_getI C 0 57 jM_0 kM_0 (by decide) rfl cM0 ik11 (by rw [hq]; exact lfM_289) hd hp kk
theorem pM_289 (C : Cx z q wM g fr lo) {v : Int32} (hd : decode q.1 pc = .ok (.putfield 289, 3)) (hq : q.2.2.1 = Rk11) (hp : pc + 3 = pc') (kk : Rt z q wM g out pc' lv st (s2 σ 0 57 v) E) : Rt z q wM g out pc lv (.int v :: .ref (g.1 0) :: st) σ E := q_putI (ty := ty11) C 0 57 jM_0 kM_0 (by decide) rfl cM0 ik11 tk11 nk11 rfl rfl rfl (by rw [hq]; exact lfM_289) hd hp kk
theorem lfM_292 : Cond.fieldLink Rk11 292 (Tk11 58).1 (Tk11 58).2.1 (Tk11 58).2.2.1 ∈ lw_g := mg6 113 rfl rfl
theorem gM_292 (C : Cx z q wM g fr lo) (hd : decode q.1 pc = .ok (.getfield 292, 3)) (hq : q.2.2.1 = Rk11) (hp : pc + 3 = pc') (kk : Rt z q wM g out pc' lv (.int (σ 0 58) :: st) σ E) : Rt z q wM g out pc lv (.ref (g.1 0) :: st) σ E := q_getI C 0 58 jM_0 kM_0 (by decide) rfl cM0 ik11 (by rw [hq]; exact lfM_292) hd hp kk
theorem pM_292 (C : Cx z q wM g fr lo) {v : Int32} (hd : decode q.1 pc = .ok (.putfield 292, 3)) (hq : q.2.2.1 = Rk11) (hp : pc + 3 = pc') (kk : Rt z q wM g out pc' lv st (s2 σ 0 58 v) E) : Rt z q wM g out pc lv (.int v :: .ref (g.1 0) :: st) σ E := q_putI (ty := ty11) C 0 58 jM_0 kM_0 (by decide) rfl cM0 ik11 tk11 nk11 rfl rfl rfl (by rw [hq]; exact lfM_292) hd hp kk
theorem lfM_295 : Cond.fieldLink Rk11 295 (Tk11 59).1 (Tk11 59).2.1 (Tk11 59).2.2.1 ∈ lw_g := mg6 114 rfl rfl
theorem gM_295 (C : Cx z q wM g fr lo) (hd : decode q.1 pc = .ok (.getfield 295, 3)) (hq : q.2.2.1 = Rk11) (hp : pc + 3 = pc') (kk : Rt z q wM g out pc' lv (.int (σ 0 59) :: st) σ E) : Rt z q wM g out pc lv (.ref (g.1 0) :: st) σ E := q_getI C 0 59 jM_0 kM_0 (by decide) rfl cM0 ik11 (by rw [hq]; exact lfM_295) hd hp kk
theorem pM_295 (C : Cx z q wM g fr lo) {v : Int32} (hd : decode q.1 pc = .ok (.putfield 295, 3)) (hq : q.2.2.1 = Rk11) (hp : pc + 3 = pc') (kk : Rt z q wM g out pc' lv st (s2 σ 0 59 v) E) : Rt z q wM g out pc lv (.int v :: .ref (g.1 0) :: st) σ E := q_putI (ty := ty11) C 0 59 jM_0 kM_0 (by decide) rfl cM0 ik11 tk11 nk11 rfl rfl rfl (by rw [hq]; exact lfM_295) hd hp kk
theorem lfM_347 : Cond.fieldLink Rk11 347 (Tk11 16).1 (Tk11 16).2.1 (Tk11 16).2.2.1 ∈ lw_g := mg6 71 rfl rfl
theorem gM_347 (C : Cx z q wM g fr lo) (hd : decode q.1 pc = .ok (.getfield 347, 3)) (hq : q.2.2.1 = Rk11) (hp : pc + 3 = pc') (kk : Rt z q wM g out pc' lv (.int (σ 0 16) :: st) σ E) : Rt z q wM g out pc lv (.ref (g.1 0) :: st) σ E := q_getI C 0 16 jM_0 kM_0 (by decide) rfl cM0 ik11 (by rw [hq]; exact lfM_347) hd hp kk
theorem pM_347 (C : Cx z q wM g fr lo) {v : Int32} (hd : decode q.1 pc = .ok (.putfield 347, 3)) (hq : q.2.2.1 = Rk11) (hp : pc + 3 = pc') (kk : Rt z q wM g out pc' lv st (s2 σ 0 16 v) E) : Rt z q wM g out pc lv (.int v :: .ref (g.1 0) :: st) σ E := q_putI (ty := ty11) C 0 16 jM_0 kM_0 (by decide) rfl cM0 ik11 tk11 nk11 rfl rfl rfl (by rw [hq]; exact lfM_347) hd hp kk
theorem lfM_362 : Cond.fieldLink Rk11 362 (Tk11 4).1 (Tk11 4).2.1 (Tk11 4).2.2.1 ∈ lw_g := mg6 59 rfl rfl
theorem gM_362 (C : Cx z q wM g fr lo) (hd : decode q.1 pc = .ok (.getfield 362, 3)) (hq : q.2.2.1 = Rk11) (hp : pc + 3 = pc') (kk : Rt z q wM g out pc' lv (.int (σ 0 4) :: st) σ E) : Rt z q wM g out pc lv (.ref (g.1 0) :: st) σ E := q_getI C 0 4 jM_0 kM_0 (by decide) rfl cM0 ik11 (by rw [hq]; exact lfM_362) hd hp kk
theorem pM_362 (C : Cx z q wM g fr lo) {v : Int32} (hd : decode q.1 pc = .ok (.putfield 362, 3)) (hq : q.2.2.1 = Rk11) (hp : pc + 3 = pc') (kk : Rt z q wM g out pc' lv st (s2 σ 0 4 v) E) : Rt z q wM g out pc lv (.int v :: .ref (g.1 0) :: st) σ E := q_putI (ty := ty11) C 0 4 jM_0 kM_0 (by decide) rfl cM0 ik11 tk11 nk11 rfl rfl rfl (by rw [hq]; exact lfM_362) hd hp kk
theorem lfM_365 : Cond.fieldLink Rk11 365 (Tk11 64).1 (Tk11 64).2.1 (Tk11 64).2.2.1 ∈ lw_g := mg6 119 rfl rfl
theorem gM_365 (C : Cx z q wM g fr lo) (hd : decode q.1 pc = .ok (.getfield 365, 3)) (hq : q.2.2.1 = Rk11) (hp : pc + 3 = pc') (kk : Rt z q wM g out pc' lv (.int (σ 0 64) :: st) σ E) : Rt z q wM g out pc lv (.ref (g.1 0) :: st) σ E := q_getI C 0 64 jM_0 kM_0 (by decide) rfl cM0 ik11 (by rw [hq]; exact lfM_365) hd hp kk
theorem pM_365 (C : Cx z q wM g fr lo) {v : Int32} (hd : decode q.1 pc = .ok (.putfield 365, 3)) (hq : q.2.2.1 = Rk11) (hp : pc + 3 = pc') (kk : Rt z q wM g out pc' lv st (s2 σ 0 64 v) E) : Rt z q wM g out pc lv (.int v :: .ref (g.1 0) :: st) σ E := q_putI (ty := ty11) C 0 64 jM_0 kM_0 (by decide) rfl cM0 ik11 tk11 nk11 rfl rfl rfl (by rw [hq]; exact lfM_365) hd hp kk
theorem lfM_368 : Cond.fieldLink Rk11 368 (Tk11 65).1 (Tk11 65).2.1 (Tk11 65).2.2.1 ∈ lw_g := mg6 120 rfl rfl
theorem gM_368 (C : Cx z q wM g fr lo) (hd : decode q.1 pc = .ok (.getfield 368, 3)) (hq : q.2.2.1 = Rk11) (hp : pc + 3 = pc') (kk : Rt z q wM g out pc' lv (.int (σ 0 65) :: st) σ E) : Rt z q wM g out pc lv (.ref (g.1 0) :: st) σ E := q_getI C 0 65 jM_0 kM_0 (by decide) rfl cM0 ik11 (by rw [hq]; exact lfM_368) hd hp kk
theorem pM_368 (C : Cx z q wM g fr lo) {v : Int32} (hd : decode q.1 pc = .ok (.putfield 368, 3)) (hq : q.2.2.1 = Rk11) (hp : pc + 3 = pc') (kk : Rt z q wM g out pc' lv st (s2 σ 0 65 v) E) : Rt z q wM g out pc lv (.int v :: .ref (g.1 0) :: st) σ E := q_putI (ty := ty11) C 0 65 jM_0 kM_0 (by decide) rfl cM0 ik11 tk11 nk11 rfl rfl rfl (by rw [hq]; exact lfM_368) hd hp kk
theorem lfM_371 : Cond.fieldLink Rk11 371 (Tk11 66).1 (Tk11 66).2.1 (Tk11 66).2.2.1 ∈ lw_g := mg6 121 rfl rfl
theorem gM_371 (C : Cx z q wM g fr lo) (hd : decode q.1 pc = .ok (.getfield 371, 3)) (hq : q.2.2.1 = Rk11) (hp : pc + 3 = pc') (kk : Rt z q wM g out pc' lv (.int (σ 0 66) :: st) σ E) : Rt z q wM g out pc lv (.ref (g.1 0) :: st) σ E := q_getI C 0 66 jM_0 kM_0 (by decide) rfl cM0 ik11 (by rw [hq]; exact lfM_371) hd hp kk
theorem pM_371 (C : Cx z q wM g fr lo) {v : Int32} (hd : decode q.1 pc = .ok (.putfield 371, 3)) (hq : q.2.2.1 = Rk11) (hp : pc + 3 = pc') (kk : Rt z q wM g out pc' lv st (s2 σ 0 66 v) E) : Rt z q wM g out pc lv (.int v :: .ref (g.1 0) :: st) σ E := q_putI (ty := ty11) C 0 66 jM_0 kM_0 (by decide) rfl cM0 ik11 tk11 nk11 rfl rfl rfl (by rw [hq]; exact lfM_371) hd hp kk
theorem lfM_377 : Cond.fieldLink Rk11 377 (Tk11 68).1 (Tk11 68).2.1 (Tk11 68).2.2.1 ∈ lw_g := mg6 123 rfl rfl
theorem gM_377 (C : Cx z q wM g fr lo) (hd : decode q.1 pc = .ok (.getfield 377, 3)) (hq : q.2.2.1 = Rk11) (hp : pc + 3 = pc') (kk : Rt z q wM g out pc' lv (.int (σ 0 68) :: st) σ E) : Rt z q wM g out pc lv (.ref (g.1 0) :: st) σ E := q_getI C 0 68 jM_0 kM_0 (by decide) rfl cM0 ik11 (by rw [hq]; exact lfM_377) hd hp kk
theorem pM_377 (C : Cx z q wM g fr lo) {v : Int32} (hd : decode q.1 pc = .ok (.putfield 377, 3)) (hq : q.2.2.1 = Rk11) (hp : pc + 3 = pc') (kk : Rt z q wM g out pc' lv st (s2 σ 0 68 v) E) : Rt z q wM g out pc lv (.int v :: .ref (g.1 0) :: st) σ E := q_putI (ty := ty11) C 0 68 jM_0 kM_0 (by decide) rfl cM0 ik11 tk11 nk11 rfl rfl rfl (by rw [hq]; exact lfM_377) hd hp kk
theorem lfM_389 : Cond.fieldLink Rk11 389 (Tk11 70).1 (Tk11 70).2.1 (Tk11 70).2.2.1 ∈ lw_g := mg6 125 rfl rfl
theorem gM_389 (C : Cx z q wM g fr lo) (hd : decode q.1 pc = .ok (.getfield 389, 3)) (hq : q.2.2.1 = Rk11) (hp : pc + 3 = pc') (kk : Rt z q wM g out pc' lv (.int (σ 0 70) :: st) σ E) : Rt z q wM g out pc lv (.ref (g.1 0) :: st) σ E := q_getI C 0 70 jM_0 kM_0 (by decide) rfl cM0 ik11 (by rw [hq]; exact lfM_389) hd hp kk
theorem pM_389 (C : Cx z q wM g fr lo) {v : Int32} (hd : decode q.1 pc = .ok (.putfield 389, 3)) (hq : q.2.2.1 = Rk11) (hp : pc + 3 = pc') (kk : Rt z q wM g out pc' lv st (s2 σ 0 70 v) E) : Rt z q wM g out pc lv (.int v :: .ref (g.1 0) :: st) σ E := q_putI (ty := ty11) C 0 70 jM_0 kM_0 (by decide) rfl cM0 ik11 tk11 nk11 rfl rfl rfl (by rw [hq]; exact lfM_389) hd hp kk
theorem lfM_392 : Cond.fieldLink Rk11 392 (Tk11 69).1 (Tk11 69).2.1 (Tk11 69).2.2.1 ∈ lw_g := mg6 124 rfl rfl
theorem gM_392 (C : Cx z q wM g fr lo) (hd : decode q.1 pc = .ok (.getfield 392, 3)) (hq : q.2.2.1 = Rk11) (hp : pc + 3 = pc') (kk : Rt z q wM g out pc' lv (.int (σ 0 69) :: st) σ E) : Rt z q wM g out pc lv (.ref (g.1 0) :: st) σ E := q_getI C 0 69 jM_0 kM_0 (by decide) rfl cM0 ik11 (by rw [hq]; exact lfM_392) hd hp kk
theorem pM_392 (C : Cx z q wM g fr lo) {v : Int32} (hd : decode q.1 pc = .ok (.putfield 392, 3)) (hq : q.2.2.1 = Rk11) (hp : pc + 3 = pc') (kk : Rt z q wM g out pc' lv st (s2 σ 0 69 v) E) : Rt z q wM g out pc lv (.int v :: .ref (g.1 0) :: st) σ E := q_putI (ty := ty11) C 0 69 jM_0 kM_0 (by decide) rfl cM0 ik11 tk11 nk11 rfl rfl rfl (by rw [hq]; exact lfM_392) hd hp kk
theorem lfM_401 : Cond.fieldLink Rk11 401 (Tk11 74).1 (Tk11 74).2.1 (Tk11 74).2.2.1 ∈ lw_g := mg6 129 rfl rfl
theorem gM_401 (C : Cx z q wM g fr lo) (hd : decode q.1 pc = .ok (.getfield 401, 3)) (hq : q.2.2.1 = Rk11) (hp : pc + 3 = pc') (kk : Rt z q wM g out pc' lv (.int (σ 0 74) :: st) σ E) : Rt z q wM g out pc lv (.ref (g.1 0) :: st) σ E := q_getI C 0 74 jM_0 kM_0 (by decide) rfl cM0 ik11 (by rw [hq]; exact lfM_401) hd hp kk
theorem pM_401 (C : Cx z q wM g fr lo) {v : Int32} (hd : decode q.1 pc = .ok (.putfield 401, 3)) (hq : q.2.2.1 = Rk11) (hp : pc + 3 = pc') (kk : Rt z q wM g out pc' lv st (s2 σ 0 74 v) E) : Rt z q wM g out pc lv (.int v :: .ref (g.1 0) :: st) σ E := q_putI (ty := ty11) C 0 74 jM_0 kM_0 (by decide) rfl cM0 ik11 tk11 nk11 rfl rfl rfl (by rw [hq]; exact lfM_401) hd hp kk
theorem lfM_411 : Cond.fieldLink Rk11 411 (Tk11 73).1 (Tk11 73).2.1 (Tk11 73).2.2.1 ∈ lw_g := mg6 128 rfl rfl
theorem gM_411 (C : Cx z q wM g fr lo) (hd : decode q.1 pc = .ok (.getfield 411, 3)) (hq : q.2.2.1 = Rk11) (hp : pc + 3 = pc') (kk : Rt z q wM g out pc' lv (.int (σ 0 73) :: st) σ E) : Rt z q wM g out pc lv (.ref (g.1 0) :: st) σ E := q_getI C 0 73 jM_0 kM_0 (by decide) rfl cM0 ik11 (by rw [hq]; exact lfM_411) hd hp kk
theorem pM_411 (C : Cx z q wM g fr lo) {v : Int32} (hd : decode q.1 pc = .ok (.putfield 411, 3)) (hq : q.2.2.1 = Rk11) (hp : pc + 3 = pc') (kk : Rt z q wM g out pc' lv st (s2 σ 0 73 v) E) : Rt z q wM g out pc lv (.int v :: .ref (g.1 0) :: st) σ E := q_putI (ty := ty11) C 0 73 jM_0 kM_0 (by decide) rfl cM0 ik11 tk11 nk11 rfl rfl rfl (by rw [hq]; exact lfM_411) hd hp kk
theorem lfM_414 : Cond.fieldLink Rk11 414 (Tk11 7).1 (Tk11 7).2.1 (Tk11 7).2.2.1 ∈ lw_g := mg6 62 rfl rfl
theorem gM_414 (C : Cx z q wM g fr lo) (hd : decode q.1 pc = .ok (.getfield 414, 3)) (hq : q.2.2.1 = Rk11) (hp : pc + 3 = pc') (kk : Rt z q wM g out pc' lv (.int (σ 0 7) :: st) σ E) : Rt z q wM g out pc lv (.ref (g.1 0) :: st) σ E := q_getI C 0 7 jM_0 kM_0 (by decide) rfl cM0 ik11 (by rw [hq]; exact lfM_414) hd hp kk
theorem pM_414 (C : Cx z q wM g fr lo) {v : Int32} (hd : decode q.1 pc = .ok (.putfield 414, 3)) (hq : q.2.2.1 = Rk11) (hp : pc + 3 = pc') (kk : Rt z q wM g out pc' lv st (s2 σ 0 7 v) E) : Rt z q wM g out pc lv (.int v :: .ref (g.1 0) :: st) σ E := q_putI (ty := ty11) C 0 7 jM_0 kM_0 (by decide) rfl cM0 ik11 tk11 nk11 rfl rfl rfl (by rw [hq]; exact lfM_414) hd hp kk
theorem lfM_473 : Cond.fieldLink Rk11 473 (Tk11 1).1 (Tk11 1).2.1 (Tk11 1).2.2.1 ∈ lw_g := mg6 56 rfl rfl
theorem gM_473 (C : Cx z q wM g fr lo) (hd : decode q.1 pc = .ok (.getfield 473, 3)) (hq : q.2.2.1 = Rk11) (hp : pc + 3 = pc') (kk : Rt z q wM g out pc' lv (.int (σ 0 1) :: st) σ E) : Rt z q wM g out pc lv (.ref (g.1 0) :: st) σ E := q_getI C 0 1 jM_0 kM_0 (by decide) rfl cM0 ik11 (by rw [hq]; exact lfM_473) hd hp kk
theorem pM_473 (C : Cx z q wM g fr lo) {v : Int32} (hd : decode q.1 pc = .ok (.putfield 473, 3)) (hb : v &&& 1 = v) (hq : q.2.2.1 = Rk11) (hp : pc + 3 = pc') (kk : Rt z q wM g out pc' lv st (s2 σ 0 1 v) E) : Rt z q wM g out pc lv (.int v :: .ref (g.1 0) :: st) σ E := q_putI (ty := ty11) C 0 1 jM_0 kM_0 (by decide) rfl cM0 ik11 tk11 nk11 rfl (by show Value.int (v &&& 1) = .int v; rw [hb]) (fitsb hb) (by rw [hq]; exact lfM_473) hd hp kk
theorem lfM_477 : Cond.fieldLink Rk11 477 (Tk11 2).1 (Tk11 2).2.1 (Tk11 2).2.2.1 ∈ lw_g := mg6 57 rfl rfl
theorem gM_477 (C : Cx z q wM g fr lo) (hd : decode q.1 pc = .ok (.getfield 477, 3)) (hq : q.2.2.1 = Rk11) (hp : pc + 3 = pc') (kk : Rt z q wM g out pc' lv (.int (σ 0 2) :: st) σ E) : Rt z q wM g out pc lv (.ref (g.1 0) :: st) σ E := q_getI C 0 2 jM_0 kM_0 (by decide) rfl cM0 ik11 (by rw [hq]; exact lfM_477) hd hp kk
theorem pM_477 (C : Cx z q wM g fr lo) {v : Int32} (hd : decode q.1 pc = .ok (.putfield 477, 3)) (hq : q.2.2.1 = Rk11) (hp : pc + 3 = pc') (kk : Rt z q wM g out pc' lv st (s2 σ 0 2 v) E) : Rt z q wM g out pc lv (.int v :: .ref (g.1 0) :: st) σ E := q_putI (ty := ty11) C 0 2 jM_0 kM_0 (by decide) rfl cM0 ik11 tk11 nk11 rfl rfl rfl (by rw [hq]; exact lfM_477) hd hp kk
end MF
def yM_in : MethodName := ⟨Rk11, "in", "(JJJ)Z"⟩
def qM_in : Mq := (prog_14_method_2_code, 6, Rk11, some .boolean)
theorem FM_in : Mf yM_in qM_in 3 true := ⟨mg7 49 rfl rfl, lin11, ⟨lne11.1, lne11.2.1, by decide +kernel⟩, lne11.2.2, mg7 48 rfl rfl⟩
def yM_lesser : MethodName := ⟨Rk11, "lesser", "(II)I"⟩
def qM_lesser : Mq := (prog_14_method_3_code, 2, Rk11, some .int)
theorem FM_lesser : Mf yM_lesser qM_lesser 2 true := ⟨mg8 6 rfl rfl, lin11, ⟨lne11.1, lne11.2.1, by decide +kernel⟩, lne11.2.2, mg8 5 rfl rfl⟩
def yM_greater : MethodName := ⟨Rk11, "greater", "(II)I"⟩
def qM_greater : Mq := (prog_14_method_4_code, 2, Rk11, some .int)
theorem FM_greater : Mf yM_greater qM_greater 2 true := ⟨mg8 9 rfl rfl, lin11, ⟨lne11.1, lne11.2.1, by decide +kernel⟩, lne11.2.2, mg8 8 rfl rfl⟩
def yM_around : MethodName := ⟨Rk11, "around", "(I)I"⟩
def qM_around : Mq := (prog_14_method_5_code, 1, Rk11, some .int)
theorem FM_around : Mf yM_around qM_around 1 true := ⟨mg7 184 rfl rfl, lin11, ⟨lne11.1, lne11.2.1, by decide +kernel⟩, lne11.2.2, mg7 183 rfl rfl⟩
def yM_sx : MethodName := ⟨Rk11, "sx", "(I)I"⟩
def qM_sx : Mq := (prog_14_method_6_code, 2, Rk11, some .int)
theorem FM_sx : Mf yM_sx qM_sx 1 false := ⟨mg7 181 rfl rfl, lin11, ⟨lne11.1, lne11.2.1, by decide +kernel⟩, lne11.2.2, ⟨mg7 180 rfl rfl, mg0 84 rfl rfl⟩⟩
def yM_sy : MethodName := ⟨Rk11, "sy", "(I)I"⟩
def qM_sy : Mq := (prog_14_method_7_code, 2, Rk11, some .int)
theorem FM_sy : Mf yM_sy qM_sy 1 false := ⟨mg7 188 rfl rfl, lin11, ⟨lne11.1, lne11.2.1, by decide +kernel⟩, lne11.2.2, ⟨mg7 187 rfl rfl, mg0 85 rfl rfl⟩⟩
def yM_ahead : MethodName := ⟨Rk11, "ahead", "(III)I"⟩
def qM_ahead : Mq := (prog_14_method_8_code, 4, Rk11, some .int)
theorem FM_ahead : Mf yM_ahead qM_ahead 3 false := ⟨mg7 195 rfl rfl, lin11, ⟨lne11.1, lne11.2.1, by decide +kernel⟩, lne11.2.2, ⟨mg7 194 rfl rfl, mg0 86 rfl rfl⟩⟩
def yM_distance : MethodName := ⟨Rk11, "distance", "(IIII)I"⟩
def qM_distance : Mq := (prog_14_method_9_code, 15, Rk11, some .int)
theorem FM_distance : Mf yM_distance qM_distance 4 true := ⟨mg7 219 rfl rfl, lin11, ⟨lne11.1, lne11.2.1, by decide +kernel⟩, lne11.2.2, mg7 218 rfl rfl⟩
def yM_courseTo : MethodName := ⟨Rk11, "courseTo", "(IIII)I"⟩
def qM_courseTo : Mq := (prog_14_method_10_code, 15, Rk11, some .int)
theorem FM_courseTo : Mf yM_courseTo qM_courseTo 4 false := ⟨mg7 231 rfl rfl, lin11, ⟨lne11.1, lne11.2.1, by decide +kernel⟩, lne11.2.2, ⟨mg7 230 rfl rfl, mg0 94 rfl rfl⟩⟩
def yM_change : MethodName := ⟨Rk11, "change", "(II)I"⟩
def qM_change : Mq := (prog_14_method_11_code, 2, Rk11, some .int)
theorem FM_change : Mf yM_change qM_change 2 true := ⟨mg8 53 rfl rfl, lin11, ⟨lne11.1, lne11.2.1, by decide +kernel⟩, lne11.2.2, mg8 52 rfl rfl⟩
def yM_of : MethodName := ⟨Rk11, "of", "(III)I"⟩
def qM_of : Mq := (prog_14_method_12_code, 4, Rk11, some .int)
theorem FM_of : Mf yM_of qM_of 3 false := ⟨mg7 161 rfl rfl, lin11, ⟨lne11.1, lne11.2.1, by decide +kernel⟩, lne11.2.2, ⟨mg7 160 rfl rfl, mg0 79 rfl rfl⟩⟩
def yM_sets : MethodName := ⟨Rk11, "sets", "(IIII)V"⟩
def qM_sets : Mq := (prog_14_method_13_code, 5, Rk11, none)
theorem FM_sets : Mf yM_sets qM_sets 4 false := ⟨mg8 107 rfl rfl, lin11, ⟨lne11.1, lne11.2.1, by decide +kernel⟩, lne11.2.2, ⟨mg8 106 rfl rfl, mg0 111 rfl rfl⟩⟩
def yM_count : MethodName := ⟨Rk11, "count", "(I)I"⟩
def qM_count : Mq := (prog_14_method_14_code, 2, Rk11, some .int)
theorem FM_count : Mf yM_count qM_count 1 false := ⟨mg7 145 rfl rfl, lin11, ⟨lne11.1, lne11.2.1, by decide +kernel⟩, lne11.2.2, ⟨mg7 144 rfl rfl, mg0 75 rfl rfl⟩⟩
def yM_hasFix : MethodName := ⟨Rk11, "hasFix", "(I)Z"⟩
def qM_hasFix : Mq := (prog_14_method_15_code, 1, Rk11, some .boolean)
theorem FM_hasFix : Mf yM_hasFix qM_hasFix 1 true := ⟨mg7 96 rfl rfl, lin11, ⟨lne11.1, lne11.2.1, by decide +kernel⟩, lne11.2.2, mg7 95 rfl rfl⟩
def yM_pointX : MethodName := ⟨Rk11, "pointX", "(II)I"⟩
def qM_pointX : Mq := (prog_14_method_16_code, 3, Rk11, some .int)
theorem FM_pointX : Mf yM_pointX qM_pointX 2 false := ⟨mg7 173 rfl rfl, lin11, ⟨lne11.1, lne11.2.1, by decide +kernel⟩, lne11.2.2, ⟨mg7 172 rfl rfl, mg0 82 rfl rfl⟩⟩
def yM_pointY : MethodName := ⟨Rk11, "pointY", "(II)I"⟩
def qM_pointY : Mq := (prog_14_method_17_code, 3, Rk11, some .int)
theorem FM_pointY : Mf yM_pointY qM_pointY 2 false := ⟨mg7 177 rfl rfl, lin11, ⟨lne11.1, lne11.2.1, by decide +kernel⟩, lne11.2.2, ⟨mg7 176 rfl rfl, mg0 83 rfl rfl⟩⟩
def yM_copyLeg : MethodName := ⟨Rk11, "copyLeg", "(IIII)V"⟩
def qM_copyLeg : Mq := (prog_14_method_18_code, 6, Rk11, none)
theorem FM_copyLeg : Mf yM_copyLeg qM_copyLeg 4 false := ⟨mg8 103 rfl rfl, lin11, ⟨lne11.1, lne11.2.1, by decide +kernel⟩, lne11.2.2, ⟨mg8 102 rfl rfl, mg0 110 rfl rfl⟩⟩
def yM_copyPlan : MethodName := ⟨Rk11, "copyPlan", "(II)V"⟩
def qM_copyPlan : Mq := (prog_14_method_19_code, 4, Rk11, none)
theorem FM_copyPlan : Mf yM_copyPlan qM_copyPlan 2 false := ⟨mg8 82 rfl rfl, lin11, ⟨lne11.1, lne11.2.1, by decide +kernel⟩, lne11.2.2, ⟨mg8 81 rfl rfl, mg0 106 rfl rfl⟩⟩
def yM_ends : MethodName := ⟨Rk11, "ends", "(III)V"⟩
def qM_ends : Mq := (prog_14_method_20_code, 4, Rk11, none)
theorem FM_ends : Mf yM_ends qM_ends 3 false := ⟨mg7 199 rfl rfl, lin11, ⟨lne11.1, lne11.2.1, by decide +kernel⟩, lne11.2.2, ⟨mg7 198 rfl rfl, mg0 87 rfl rfl⟩⟩
def yM_inbound : MethodName := ⟨Rk11, "inbound", "(IIII)V"⟩
def qM_inbound : Mq := (prog_14_method_22_code, 5, Rk11, none)
theorem FM_inbound : Mf yM_inbound qM_inbound 4 false := ⟨mg7 157 rfl rfl, lin11, ⟨lne11.1, lne11.2.1, by decide +kernel⟩, lne11.2.2, ⟨mg7 156 rfl rfl, mg0 78 rfl rfl⟩⟩
def yM_segment : MethodName := ⟨Rk11, "segment", "(IIIII)V"⟩
def qM_segment : Mq := (prog_14_method_21_code, 7, Rk11, none)
theorem FM_segment : Mf yM_segment qM_segment 5 false := ⟨mg7 207 rfl rfl, lin11, ⟨lne11.1, lne11.2.1, by decide +kernel⟩, lne11.2.2, ⟨mg7 206 rfl rfl, mg0 89 rfl rfl⟩⟩
def yM_straightTo : MethodName := ⟨Rk11, "straightTo", "(III)V"⟩
def qM_straightTo : Mq := (prog_14_method_23_code, 5, Rk11, none)
theorem FM_straightTo : Mf yM_straightTo qM_straightTo 3 false := ⟨mg7 227 rfl rfl, lin11, ⟨lne11.1, lne11.2.1, by decide +kernel⟩, lne11.2.2, ⟨mg7 226 rfl rfl, mg0 93 rfl rfl⟩⟩
def yM_onCourse : MethodName := ⟨Rk11, "onCourse", "(III)V"⟩
def qM_onCourse : Mq := (prog_14_method_24_code, 5, Rk11, none)
theorem FM_onCourse : Mf yM_onCourse qM_onCourse 3 false := ⟨mg7 203 rfl rfl, lin11, ⟨lne11.1, lne11.2.1, by decide +kernel⟩, lne11.2.2, ⟨mg7 202 rfl rfl, mg0 88 rfl rfl⟩⟩
def yM_towardOnCourse : MethodName := ⟨Rk11, "towardOnCourse", "(IIIII)V"⟩
def qM_towardOnCourse : Mq := (prog_14_method_25_code, 7, Rk11, none)
theorem FM_towardOnCourse : Mf yM_towardOnCourse qM_towardOnCourse 5 false := ⟨mg7 223 rfl rfl, lin11, ⟨lne11.1, lne11.2.1, by decide +kernel⟩, lne11.2.2, ⟨mg7 222 rfl rfl, mg0 92 rfl rfl⟩⟩
def yM_laysCourseToFix : MethodName := ⟨Rk11, "laysCourseToFix", "(IIII)V"⟩
def qM_laysCourseToFix : Mq := (prog_14_method_26_code, 8, Rk11, none)
theorem FM_laysCourseToFix : Mf yM_laysCourseToFix qM_laysCourseToFix 4 false := ⟨mg7 216 rfl rfl, lin11, ⟨lne11.1, lne11.2.1, by decide +kernel⟩, lne11.2.2, ⟨mg7 215 rfl rfl, mg0 91 rfl rfl⟩⟩
def yM_laysIntercept : MethodName := ⟨Rk11, "laysIntercept", "(II)V"⟩
def qM_laysIntercept : Mq := (prog_14_method_27_code, 17, Rk11, none)
theorem FM_laysIntercept : Mf yM_laysIntercept qM_laysIntercept 2 false := ⟨mg7 169 rfl rfl, lin11, ⟨lne11.1, lne11.2.1, by decide +kernel⟩, lne11.2.2, ⟨mg7 168 rfl rfl, mg0 81 rfl rfl⟩⟩
def yM_climbLength : MethodName := ⟨Rk11, "climbLength", "(II)I"⟩
def qM_climbLength : Mq := (prog_14_method_28_code, 5, Rk11, some .int)
theorem FM_climbLength : Mf yM_climbLength qM_climbLength 2 false := ⟨mg7 211 rfl rfl, lin11, ⟨lne11.1, lne11.2.1, by decide +kernel⟩, lne11.2.2, ⟨mg7 210 rfl rfl, mg0 90 rfl rfl⟩⟩
def yM_laysLeg : MethodName := ⟨Rk11, "laysLeg", "(II)V"⟩
def qM_laysLeg : Mq := (prog_14_method_29_code, 7, Rk11, none)
theorem FM_laysLeg : Mf yM_laysLeg qM_laysLeg 2 false := ⟨mg7 165 rfl rfl, lin11, ⟨lne11.1, lne11.2.1, by decide +kernel⟩, lne11.2.2, ⟨mg7 164 rfl rfl, mg0 80 rfl rfl⟩⟩
def yM_laysSegments : MethodName := ⟨Rk11, "laysSegments", "(I)V"⟩
def qM_laysSegments : Mq := (prog_14_method_30_code, 5, Rk11, none)
theorem FM_laysSegments : Mf yM_laysSegments qM_laysSegments 1 false := ⟨mg7 153 rfl rfl, lin11, ⟨lne11.1, lne11.2.1, by decide +kernel⟩, lne11.2.2, ⟨mg7 152 rfl rfl, mg0 77 rfl rfl⟩⟩
def yM_airspeed : MethodName := ⟨Rk11, "airspeed", "(II)I"⟩
def qM_airspeed : Mq := (prog_14_method_31_code, 3, Rk11, some .int)
theorem FM_airspeed : Mf yM_airspeed qM_airspeed 2 false := ⟨mg8 3 rfl rfl, lin11, ⟨lne11.1, lne11.2.1, by decide +kernel⟩, lne11.2.2, ⟨mg8 2 rfl rfl, mg0 97 rfl rfl⟩⟩
def yM_groundSpeed : MethodName := ⟨Rk11, "groundSpeed", "(III)I"⟩
def qM_groundSpeed : Mq := (prog_14_method_32_code, 6, Rk11, some .int)
theorem FM_groundSpeed : Mf yM_groundSpeed qM_groundSpeed 3 false := ⟨mg7 239 rfl rfl, lin11, ⟨lne11.1, lne11.2.1, by decide +kernel⟩, lne11.2.2, ⟨mg7 238 rfl rfl, mg0 96 rfl rfl⟩⟩
def yM_laysTurn : MethodName := ⟨Rk11, "laysTurn", "(II)V"⟩
def qM_laysTurn : Mq := (prog_14_method_33_code, 10, Rk11, none)
theorem FM_laysTurn : Mf yM_laysTurn qM_laysTurn 2 false := ⟨mg7 235 rfl rfl, lin11, ⟨lne11.1, lne11.2.1, by decide +kernel⟩, lne11.2.2, ⟨mg7 234 rfl rfl, mg0 95 rfl rfl⟩⟩
def yM_piece : MethodName := ⟨Rk11, "piece", "(IIIIII)V"⟩
def qM_piece : Mq := (prog_14_method_34_code, 7, Rk11, none)
theorem FM_piece : Mf yM_piece qM_piece 6 false := ⟨mg8 23 rfl rfl, lin11, ⟨lne11.1, lne11.2.1, by decide +kernel⟩, lne11.2.2, ⟨mg8 22 rfl rfl, mg0 100 rfl rfl⟩⟩
def yM_before : MethodName := ⟨Rk11, "before", "(IIII)I"⟩
def qM_before : Mq := (prog_14_method_35_code, 4, Rk11, some .int)
theorem FM_before : Mf yM_before qM_before 4 true := ⟨mg8 26 rfl rfl, lin11, ⟨lne11.1, lne11.2.1, by decide +kernel⟩, lne11.2.2, mg8 25 rfl rfl⟩
def yM_laysOver : MethodName := ⟨Rk11, "laysOver", "(III)V"⟩
def qM_laysOver : Mq := (prog_14_method_36_code, 31, Rk11, none)
theorem FM_laysOver : Mf yM_laysOver qM_laysOver 3 false := ⟨mg8 19 rfl rfl, lin11, ⟨lne11.1, lne11.2.1, by decide +kernel⟩, lne11.2.2, ⟨mg8 18 rfl rfl, mg0 99 rfl rfl⟩⟩
def yM_laysSegment : MethodName := ⟨Rk11, "laysSegment", "(II)V"⟩
def qM_laysSegment : Mq := (prog_14_method_37_code, 7, Rk11, none)
theorem FM_laysSegment : Mf yM_laysSegment qM_laysSegment 2 false := ⟨mg8 15 rfl rfl, lin11, ⟨lne11.1, lne11.2.1, by decide +kernel⟩, lne11.2.2, ⟨mg8 14 rfl rfl, mg0 98 rfl rfl⟩⟩
def yM_entry : MethodName := ⟨Rk11, "entry", "(IIZ)I"⟩
def qM_entry : Mq := (prog_14_method_38_code, 4, Rk11, some .int)
theorem FM_entry : Mf yM_entry qM_entry 3 true := ⟨mg8 38 rfl rfl, lin11, ⟨lne11.1, lne11.2.1, by decide +kernel⟩, lne11.2.2, mg8 37 rfl rfl⟩
def yM_entryOf : MethodName := ⟨Rk11, "entryOf", "(II)I"⟩
def qM_entryOf : Mq := (prog_14_method_39_code, 3, Rk11, some .int)
theorem FM_entryOf : Mf yM_entryOf qM_entryOf 2 false := ⟨mg8 35 rfl rfl, lin11, ⟨lne11.1, lne11.2.1, by decide +kernel⟩, lne11.2.2, ⟨mg8 34 rfl rfl, mg0 102 rfl rfl⟩⟩
def yM_laysPattern : MethodName := ⟨Rk11, "laysPattern", "(II)V"⟩
def qM_laysPattern : Mq := (prog_14_method_40_code, 13, Rk11, none)
theorem FM_laysPattern : Mf yM_laysPattern qM_laysPattern 2 false := ⟨mg8 31 rfl rfl, lin11, ⟨lne11.1, lne11.2.1, by decide +kernel⟩, lne11.2.2, ⟨mg8 30 rfl rfl, mg0 101 rfl rfl⟩⟩
def yM_laysTotals : MethodName := ⟨Rk11, "laysTotals", "(I)V"⟩
def qM_laysTotals : Mq := (prog_14_method_41_code, 5, Rk11, none)
theorem FM_laysTotals : Mf yM_laysTotals qM_laysTotals 1 false := ⟨mg8 45 rfl rfl, lin11, ⟨lne11.1, lne11.2.1, by decide +kernel⟩, lne11.2.2, ⟨mg8 44 rfl rfl, mg0 103 rfl rfl⟩⟩
def yM_laysAltitudes : MethodName := ⟨Rk11, "laysAltitudes", "(I)V"⟩
def qM_laysAltitudes : Mq := (prog_14_method_43_code, 6, Rk11, none)
theorem FM_laysAltitudes : Mf yM_laysAltitudes qM_laysAltitudes 1 false := ⟨mg8 50 rfl rfl, lin11, ⟨lne11.1, lne11.2.1, by decide +kernel⟩, lne11.2.2, ⟨mg8 49 rfl rfl, mg0 104 rfl rfl⟩⟩
def yM_lays : MethodName := ⟨Rk11, "lays", "(I)V"⟩
def qM_lays : Mq := (prog_14_method_42_code, 4, Rk11, none)
theorem FM_lays : Mf yM_lays qM_lays 1 false := ⟨mg7 149 rfl rfl, lin11, ⟨lne11.1, lne11.2.1, by decide +kernel⟩, lne11.2.2, ⟨mg7 148 rfl rfl, mg0 76 rfl rfl⟩⟩
def yM_altitudeOf : MethodName := ⟨Rk11, "altitudeOf", "(I)I"⟩
def qM_altitudeOf : Mq := (prog_14_method_44_code, 2, Rk11, some .int)
theorem FM_altitudeOf : Mf yM_altitudeOf qM_altitudeOf 1 false := ⟨mg8 139 rfl rfl, lin11, ⟨lne11.1, lne11.2.1, by decide +kernel⟩, lne11.2.2, ⟨mg8 138 rfl rfl, mg0 116 rfl rfl⟩⟩
def yM_altitudeBefore : MethodName := ⟨Rk11, "altitudeBefore", "(I)I"⟩
def qM_altitudeBefore : Mq := (prog_14_method_45_code, 2, Rk11, some .int)
theorem FM_altitudeBefore : Mf yM_altitudeBefore qM_altitudeBefore 1 false := ⟨mg8 143 rfl rfl, lin11, ⟨lne11.1, lne11.2.1, by decide +kernel⟩, lne11.2.2, ⟨mg8 142 rfl rfl, mg0 117 rfl rfl⟩⟩
def yM_violationOf : MethodName := ⟨Rk11, "violationOf", "(II)I"⟩
def qM_violationOf : Mq := (prog_14_method_46_code, 6, Rk11, some .int)
theorem FM_violationOf : Mf yM_violationOf qM_violationOf 2 false := ⟨mg8 135 rfl rfl, lin11, ⟨lne11.1, lne11.2.1, by decide +kernel⟩, lne11.2.2, ⟨mg8 134 rfl rfl, mg0 115 rfl rfl⟩⟩
def yM_violations : MethodName := ⟨Rk11, "violations", "(I)I"⟩
def qM_violations : Mq := (prog_14_method_47_code, 4, Rk11, some .int)
theorem FM_violations : Mf yM_violations qM_violations 1 false := ⟨mg8 131 rfl rfl, lin11, ⟨lne11.1, lne11.2.1, by decide +kernel⟩, lne11.2.2, ⟨mg8 130 rfl rfl, mg0 114 rfl rfl⟩⟩
def yM_gaps : MethodName := ⟨Rk11, "gaps", "(I)I"⟩
def qM_gaps : Mq := (prog_14_method_48_code, 4, Rk11, some .int)
theorem FM_gaps : Mf yM_gaps qM_gaps 1 false := ⟨mg8 123 rfl rfl, lin11, ⟨lne11.1, lne11.2.1, by decide +kernel⟩, lne11.2.2, ⟨mg8 122 rfl rfl, mg0 113 rfl rfl⟩⟩
def yM_lengthUpTo : MethodName := ⟨Rk11, "lengthUpTo", "(I)I"⟩
def qM_lengthUpTo : Mq := (prog_14_method_49_code, 4, Rk11, some .int)
theorem FM_lengthUpTo : Mf yM_lengthUpTo qM_lengthUpTo 1 false := ⟨mg8 212 rfl rfl, lin11, ⟨lne11.1, lne11.2.1, by decide +kernel⟩, lne11.2.2, ⟨mg8 211 rfl rfl, mg0 120 rfl rfl⟩⟩
def yM_hasPosition : MethodName := ⟨Rk11, "hasPosition", "()Z"⟩
def qM_hasPosition : Mq := (prog_14_method_50_code, 8, Rk11, some .boolean)
theorem FM_hasPosition : Mf yM_hasPosition qM_hasPosition 0 false := ⟨mg8 159 rfl rfl, lin11, ⟨lne11.1, lne11.2.1, by decide +kernel⟩, lne11.2.2, ⟨mg8 158 rfl rfl, mg0 118 rfl rfl⟩⟩
def yM_clamps : MethodName := ⟨Rk11, "clamps", "()V"⟩
def qM_clamps : Mq := (prog_14_method_51_code, 1, Rk11, none)
theorem FM_clamps : Mf yM_clamps qM_clamps 0 false := ⟨mg7 141 rfl rfl, lin11, ⟨lne11.1, lne11.2.1, by decide +kernel⟩, lne11.2.2, ⟨mg7 140 rfl rfl, mg0 74 rfl rfl⟩⟩
def yM_type : MethodName := ⟨Rk11, "type", "(I)I"⟩
def qM_type : Mq := (prog_14_method_52_code, 2, Rk11, some .int)
theorem FM_type : Mf yM_type qM_type 1 false := ⟨mg7 45 rfl rfl, lin11, ⟨lne11.1, lne11.2.1, by decide +kernel⟩, lne11.2.2, ⟨mg7 43 rfl rfl, mg7 44 rfl rfl⟩⟩
def yM_clearText : MethodName := ⟨Rk11, "clearText", "()I"⟩
def qM_clearText : Mq := (prog_14_method_53_code, 2, Rk11, some .int)
theorem FM_clearText : Mf yM_clearText qM_clearText 0 false := ⟨mg7 55 rfl rfl, lin11, ⟨lne11.1, lne11.2.1, by decide +kernel⟩, lne11.2.2, ⟨mg7 53 rfl rfl, mg7 54 rfl rfl⟩⟩
def yM_isCapital : MethodName := ⟨Rk11, "isCapital", "(I)Z"⟩
def qM_isCapital : Mq := (prog_14_method_54_code, 1, Rk11, some .boolean)
theorem FM_isCapital : Mf yM_isCapital qM_isCapital 1 true := ⟨mg7 70 rfl rfl, lin11, ⟨lne11.1, lne11.2.1, by decide +kernel⟩, lne11.2.2, mg7 69 rfl rfl⟩
def yM_isDigit : MethodName := ⟨Rk11, "isDigit", "(I)Z"⟩
def qM_isDigit : Mq := (prog_14_method_55_code, 1, Rk11, some .boolean)
theorem FM_isDigit : Mf yM_isDigit qM_isDigit 1 true := ⟨mg7 75 rfl rfl, lin11, ⟨lne11.1, lne11.2.1, by decide +kernel⟩, lne11.2.2, mg7 74 rfl rfl⟩
def yM_nextToken : MethodName := ⟨Rk11, "nextToken", "()V"⟩
def qM_nextToken : Mq := (prog_14_method_56_code, 1, Rk11, none)
theorem FM_nextToken : Mf yM_nextToken qM_nextToken 0 false := ⟨mg7 67 rfl rfl, lin11, ⟨lne11.1, lne11.2.1, by decide +kernel⟩, lne11.2.2, ⟨mg7 66 rfl rfl, mg0 62 rfl rfl⟩⟩
def yM_isLetter : MethodName := ⟨Rk11, "isLetter", "(I)Z"⟩
def qM_isLetter : Mq := (prog_14_method_57_code, 2, Rk11, some .boolean)
theorem FM_isLetter : Mf yM_isLetter qM_isLetter 1 false := ⟨mg7 116 rfl rfl, lin11, ⟨lne11.1, lne11.2.1, by decide +kernel⟩, lne11.2.2, ⟨mg7 115 rfl rfl, mg0 71 rfl rfl⟩⟩
def yM_kindHere : MethodName := ⟨Rk11, "kindHere", "()I"⟩
def qM_kindHere : Mq := (prog_14_method_58_code, 2, Rk11, some .int)
theorem FM_kindHere : Mf yM_kindHere qM_kindHere 0 false := ⟨mg7 85 rfl rfl, lin11, ⟨lne11.1, lne11.2.1, by decide +kernel⟩, lne11.2.2, ⟨mg7 84 rfl rfl, mg0 64 rfl rfl⟩⟩
def yM_readsNumber : MethodName := ⟨Rk11, "readsNumber", "(II)Z"⟩
def qM_readsNumber : Mq := (prog_14_method_59_code, 5, Rk11, some .boolean)
theorem FM_readsNumber : Mf yM_readsNumber qM_readsNumber 2 false := ⟨mg7 108 rfl rfl, lin11, ⟨lne11.1, lne11.2.1, by decide +kernel⟩, lne11.2.2, ⟨mg7 107 rfl rfl, mg0 69 rfl rfl⟩⟩
def yM_readsInto : MethodName := ⟨Rk11, "readsInto", "(III)Z"⟩
def qM_readsInto : Mq := (prog_14_method_60_code, 5, Rk11, some .boolean)
theorem FM_readsInto : Mf yM_readsInto qM_readsInto 3 false := ⟨mg7 104 rfl rfl, lin11, ⟨lne11.1, lne11.2.1, by decide +kernel⟩, lne11.2.2, ⟨mg7 103 rfl rfl, mg0 68 rfl rfl⟩⟩
def yM_readsFix : MethodName := ⟨Rk11, "readsFix", "()Z"⟩
def qM_readsFix : Mq := (prog_14_method_61_code, 1, Rk11, some .boolean)
theorem FM_readsFix : Mf yM_readsFix qM_readsFix 0 false := ⟨mg7 100 rfl rfl, lin11, ⟨lne11.1, lne11.2.1, by decide +kernel⟩, lne11.2.2, ⟨mg7 99 rfl rfl, mg0 67 rfl rfl⟩⟩
def yM_readsSide : MethodName := ⟨Rk11, "readsSide", "()Z"⟩
def qM_readsSide : Mq := (prog_14_method_62_code, 1, Rk11, some .boolean)
theorem FM_readsSide : Mf yM_readsSide qM_readsSide 0 false := ⟨mg7 112 rfl rfl, lin11, ⟨lne11.1, lne11.2.1, by decide +kernel⟩, lne11.2.2, ⟨mg7 111 rfl rfl, mg0 70 rfl rfl⟩⟩
def yM_readsKind : MethodName := ⟨Rk11, "readsKind", "(I)Z"⟩
def qM_readsKind : Mq := (prog_14_method_63_code, 2, Rk11, some .boolean)
theorem FM_readsKind : Mf yM_readsKind qM_readsKind 1 false := ⟨mg7 93 rfl rfl, lin11, ⟨lne11.1, lne11.2.1, by decide +kernel⟩, lne11.2.2, ⟨mg7 92 rfl rfl, mg0 66 rfl rfl⟩⟩
def yM_window : MethodName := ⟨Rk11, "window", "(II)V"⟩
def qM_window : Mq := (prog_14_method_64_code, 3, Rk11, none)
theorem FM_window : Mf yM_window qM_window 2 false := ⟨mg7 89 rfl rfl, lin11, ⟨lne11.1, lne11.2.1, by decide +kernel⟩, lne11.2.2, ⟨mg7 88 rfl rfl, mg0 65 rfl rfl⟩⟩
def yM_isAttribute : MethodName := ⟨Rk11, "isAttribute", "()Z"⟩
def qM_isAttribute : Mq := (prog_14_method_65_code, 1, Rk11, some .boolean)
theorem FM_isAttribute : Mf yM_isAttribute qM_isAttribute 0 false := ⟨mg7 120 rfl rfl, lin11, ⟨lne11.1, lne11.2.1, by decide +kernel⟩, lne11.2.2, ⟨mg7 119 rfl rfl, mg0 72 rfl rfl⟩⟩
def yM_readsAttribute : MethodName := ⟨Rk11, "readsAttribute", "()Z"⟩
def qM_readsAttribute : Mq := (prog_14_method_66_code, 4, Rk11, some .boolean)
theorem FM_readsAttribute : Mf yM_readsAttribute qM_readsAttribute 0 false := ⟨mg7 124 rfl rfl, lin11, ⟨lne11.1, lne11.2.1, by decide +kernel⟩, lne11.2.2, ⟨mg7 123 rfl rfl, mg0 73 rfl rfl⟩⟩
def yM_readsLeg : MethodName := ⟨Rk11, "readsLeg", "()Z"⟩
def qM_readsLeg : Mq := (prog_14_method_67_code, 3, Rk11, some .boolean)
theorem FM_readsLeg : Mf yM_readsLeg qM_readsLeg 0 false := ⟨mg7 81 rfl rfl, lin11, ⟨lne11.1, lne11.2.1, by decide +kernel⟩, lne11.2.2, ⟨mg7 80 rfl rfl, mg0 63 rfl rfl⟩⟩
def yM_reads : MethodName := ⟨Rk11, "reads", "()Z"⟩
def qM_reads : Mq := (prog_14_method_68_code, 2, Rk11, some .boolean)
theorem FM_reads : Mf yM_reads qM_reads 0 false := ⟨mg7 63 rfl rfl, lin11, ⟨lne11.1, lne11.2.1, by decide +kernel⟩, lne11.2.2, ⟨mg7 62 rfl rfl, mg0 61 rfl rfl⟩⟩
def yM_textFault : MethodName := ⟨Rk11, "textFault", "()I"⟩
def qM_textFault : Mq := (prog_14_method_69_code, 1, Rk11, some .int)
theorem FM_textFault : Mf yM_textFault qM_textFault 0 false := ⟨mg7 59 rfl rfl, lin11, ⟨lne11.1, lne11.2.1, by decide +kernel⟩, lne11.2.2, ⟨mg7 57 rfl rfl, mg7 58 rfl rfl⟩⟩
def yM_laysTold : MethodName := ⟨Rk11, "laysTold", "(III)V"⟩
def qM_laysTold : Mq := (prog_14_method_70_code, 5, Rk11, none)
theorem FM_laysTold : Mf yM_laysTold qM_laysTold 3 false := ⟨mg8 86 rfl rfl, lin11, ⟨lne11.1, lne11.2.1, by decide +kernel⟩, lne11.2.2, ⟨mg8 85 rfl rfl, mg0 107 rfl rfl⟩⟩
def yM_addFix : MethodName := ⟨Rk11, "addFix", "(II)I"⟩
def qM_addFix : Mq := (prog_14_method_71_code, 3, Rk11, some .int)
theorem FM_addFix : Mf yM_addFix qM_addFix 2 false := ⟨mg7 129 rfl rfl, lin11, ⟨lne11.1, lne11.2.1, by decide +kernel⟩, lne11.2.2, ⟨mg7 127 rfl rfl, mg7 128 rfl rfl⟩⟩
def yM_setWind : MethodName := ⟨Rk11, "setWind", "(II)I"⟩
def qM_setWind : Mq := (prog_14_method_72_code, 3, Rk11, some .int)
theorem FM_setWind : Mf yM_setWind qM_setWind 2 false := ⟨mg7 135 rfl rfl, lin11, ⟨lne11.1, lne11.2.1, by decide +kernel⟩, lne11.2.2, ⟨mg7 133 rfl rfl, mg7 134 rfl rfl⟩⟩
def yM_setCruise : MethodName := ⟨Rk11, "setCruise", "(II)I"⟩
def qM_setCruise : Mq := (prog_14_method_73_code, 4, Rk11, some .int)
theorem FM_setCruise : Mf yM_setCruise qM_setCruise 2 false := ⟨mg8 57 rfl rfl, lin11, ⟨lne11.1, lne11.2.1, by decide +kernel⟩, lne11.2.2, ⟨mg8 55 rfl rfl, mg8 56 rfl rfl⟩⟩
def yM_setGradients : MethodName := ⟨Rk11, "setGradients", "(III)I"⟩
def qM_setGradients : Mq := (prog_14_method_74_code, 5, Rk11, some .int)
theorem FM_setGradients : Mf yM_setGradients qM_setGradients 3 false := ⟨mg8 64 rfl rfl, lin11, ⟨lne11.1, lne11.2.1, by decide +kernel⟩, lne11.2.2, ⟨mg8 62 rfl rfl, mg8 63 rfl rfl⟩⟩
def yM_setEnds : MethodName := ⟨Rk11, "setEnds", "(II)I"⟩
def qM_setEnds : Mq := (prog_14_method_75_code, 4, Rk11, some .int)
theorem FM_setEnds : Mf yM_setEnds qM_setEnds 2 false := ⟨mg8 69 rfl rfl, lin11, ⟨lne11.1, lne11.2.1, by decide +kernel⟩, lne11.2.2, ⟨mg8 67 rfl rfl, mg8 68 rfl rfl⟩⟩
def yM_edited : MethodName := ⟨Rk11, "edited", "()I"⟩
def qM_edited : Mq := (prog_14_method_76_code, 1, Rk11, some .int)
theorem FM_edited : Mf yM_edited qM_edited 0 false := ⟨mg8 94 rfl rfl, lin11, ⟨lne11.1, lne11.2.1, by decide +kernel⟩, lne11.2.2, ⟨mg8 93 rfl rfl, mg0 108 rfl rfl⟩⟩
def yM_begins : MethodName := ⟨Rk11, "begins", "()V"⟩
def qM_begins : Mq := (prog_14_method_77_code, 2, Rk11, none)
theorem FM_begins : Mf yM_begins qM_begins 0 false := ⟨mg8 78 rfl rfl, lin11, ⟨lne11.1, lne11.2.1, by decide +kernel⟩, lne11.2.2, ⟨mg8 77 rfl rfl, mg0 105 rfl rfl⟩⟩
def yM_load : MethodName := ⟨Rk11, "load", "()I"⟩
def qM_load : Mq := (prog_14_method_78_code, 2, Rk11, some .int)
theorem FM_load : Mf yM_load qM_load 0 false := ⟨mg8 73 rfl rfl, lin11, ⟨lne11.1, lne11.2.1, by decide +kernel⟩, lne11.2.2, ⟨mg8 71 rfl rfl, mg8 72 rfl rfl⟩⟩
def yM_joined : MethodName := ⟨Rk11, "joined", "(II)I"⟩
def qM_joined : Mq := (prog_14_method_79_code, 5, Rk11, some .int)
theorem FM_joined : Mf yM_joined qM_joined 2 false := ⟨mg8 99 rfl rfl, lin11, ⟨lne11.1, lne11.2.1, by decide +kernel⟩, lne11.2.2, ⟨mg8 98 rfl rfl, mg0 109 rfl rfl⟩⟩
def yM_insert : MethodName := ⟨Rk11, "insert", "(I)I"⟩
def qM_insert : Mq := (prog_14_method_80_code, 8, Rk11, some .int)
theorem FM_insert : Mf yM_insert qM_insert 1 false := ⟨mg8 90 rfl rfl, lin11, ⟨lne11.1, lne11.2.1, by decide +kernel⟩, lne11.2.2, ⟨mg8 88 rfl rfl, mg8 89 rfl rfl⟩⟩
def yM_isLeg : MethodName := ⟨Rk11, "isLeg", "(II)Z"⟩
def qM_isLeg : Mq := (prog_14_method_81_code, 3, Rk11, some .boolean)
theorem FM_isLeg : Mf yM_isLeg qM_isLeg 2 false := ⟨mg8 115 rfl rfl, lin11, ⟨lne11.1, lne11.2.1, by decide +kernel⟩, lne11.2.2, ⟨mg8 114 rfl rfl, mg0 112 rfl rfl⟩⟩
def yM_delete : MethodName := ⟨Rk11, "delete", "(I)I"⟩
def qM_delete : Mq := (prog_14_method_82_code, 5, Rk11, some .int)
theorem FM_delete : Mf yM_delete qM_delete 1 false := ⟨mg8 111 rfl rfl, lin11, ⟨lne11.1, lne11.2.1, by decide +kernel⟩, lne11.2.2, ⟨mg8 109 rfl rfl, mg8 110 rfl rfl⟩⟩
def yM_closeGap : MethodName := ⟨Rk11, "closeGap", "(I)I"⟩
def qM_closeGap : Mq := (prog_14_method_83_code, 3, Rk11, some .int)
theorem FM_closeGap : Mf yM_closeGap qM_closeGap 1 false := ⟨mg8 119 rfl rfl, lin11, ⟨lne11.1, lne11.2.1, by decide +kernel⟩, lne11.2.2, ⟨mg8 117 rfl rfl, mg8 118 rfl rfl⟩⟩
def yM_setWindow : MethodName := ⟨Rk11, "setWindow", "(III)I"⟩
def qM_setWindow : Mq := (prog_14_method_84_code, 5, Rk11, some .int)
theorem FM_setWindow : Mf yM_setWindow qM_setWindow 3 false := ⟨mg8 127 rfl rfl, lin11, ⟨lne11.1, lne11.2.1, by decide +kernel⟩, lne11.2.2, ⟨mg8 125 rfl rfl, mg8 126 rfl rfl⟩⟩
def yM_setSpeedLimit : MethodName := ⟨Rk11, "setSpeedLimit", "(II)I"⟩
def qM_setSpeedLimit : Mq := (prog_14_method_85_code, 5, Rk11, some .int)
theorem FM_setSpeedLimit : Mf yM_setSpeedLimit qM_setSpeedLimit 2 false := ⟨mg8 147 rfl rfl, lin11, ⟨lne11.1, lne11.2.1, by decide +kernel⟩, lne11.2.2, ⟨mg8 145 rfl rfl, mg8 146 rfl rfl⟩⟩
def yM_setFlyOver : MethodName := ⟨Rk11, "setFlyOver", "(IZ)I"⟩
def qM_setFlyOver : Mq := (prog_14_method_86_code, 5, Rk11, some .int)
theorem FM_setFlyOver : Mf yM_setFlyOver qM_setFlyOver 2 false := ⟨mg8 151 rfl rfl, lin11, ⟨lne11.1, lne11.2.1, by decide +kernel⟩, lne11.2.2, ⟨mg8 149 rfl rfl, mg8 150 rfl rfl⟩⟩
def yM_laysDirect : MethodName := ⟨Rk11, "laysDirect", "(II)V"⟩
def qM_laysDirect : Mq := (prog_14_method_87_code, 5, Rk11, none)
theorem FM_laysDirect : Mf yM_laysDirect qM_laysDirect 2 false := ⟨mg8 163 rfl rfl, lin11, ⟨lne11.1, lne11.2.1, by decide +kernel⟩, lne11.2.2, ⟨mg8 162 rfl rfl, mg0 119 rfl rfl⟩⟩
def yM_directTo : MethodName := ⟨Rk11, "directTo", "(I)I"⟩
def qM_directTo : Mq := (prog_14_method_88_code, 3, Rk11, some .int)
theorem FM_directTo : Mf yM_directTo qM_directTo 1 false := ⟨mg8 155 rfl rfl, lin11, ⟨lne11.1, lne11.2.1, by decide +kernel⟩, lne11.2.2, ⟨mg8 153 rfl rfl, mg8 154 rfl rfl⟩⟩
def yM_undo : MethodName := ⟨Rk11, "undo", "()I"⟩
def qM_undo : Mq := (prog_14_method_89_code, 1, Rk11, some .int)
theorem FM_undo : Mf yM_undo qM_undo 0 false := ⟨mg8 167 rfl rfl, lin11, ⟨lne11.1, lne11.2.1, by decide +kernel⟩, lne11.2.2, ⟨mg8 165 rfl rfl, mg8 166 rfl rfl⟩⟩
def yM_execute : MethodName := ⟨Rk11, "execute", "()I"⟩
def qM_execute : Mq := (prog_14_method_90_code, 1, Rk11, some .int)
theorem FM_execute : Mf yM_execute qM_execute 0 false := ⟨mg8 171 rfl rfl, lin11, ⟨lne11.1, lne11.2.1, by decide +kernel⟩, lne11.2.2, ⟨mg8 169 rfl rfl, mg8 170 rfl rfl⟩⟩
def yM_cancel : MethodName := ⟨Rk11, "cancel", "()I"⟩
def qM_cancel : Mq := (prog_14_method_91_code, 1, Rk11, some .int)
theorem FM_cancel : Mf yM_cancel qM_cancel 0 false := ⟨mg8 175 rfl rfl, lin11, ⟨lne11.1, lne11.2.1, by decide +kernel⟩, lne11.2.2, ⟨mg8 173 rfl rfl, mg8 174 rfl rfl⟩⟩
def yM_fly : MethodName := ⟨Rk11, "fly", "(I)I"⟩
def qM_fly : Mq := (prog_14_method_92_code, 6, Rk11, some .int)
theorem FM_fly : Mf yM_fly qM_fly 1 false := ⟨mg8 179 rfl rfl, lin11, ⟨lne11.1, lne11.2.1, by decide +kernel⟩, lne11.2.2, ⟨mg8 177 rfl rfl, mg8 178 rfl rfl⟩⟩
def yM_resume : MethodName := ⟨Rk11, "resume", "()I"⟩
def qM_resume : Mq := (prog_14_method_93_code, 2, Rk11, some .int)
theorem FM_resume : Mf yM_resume qM_resume 0 false := ⟨mg8 184 rfl rfl, lin11, ⟨lne11.1, lne11.2.1, by decide +kernel⟩, lne11.2.2, ⟨mg8 182 rfl rfl, mg8 183 rfl rfl⟩⟩
def yM_currentLeg : MethodName := ⟨Rk11, "currentLeg", "()I"⟩
def qM_currentLeg : Mq := (prog_14_method_94_code, 1, Rk11, some .int)
theorem FM_currentLeg : Mf yM_currentLeg qM_currentLeg 0 false := ⟨mg8 188 rfl rfl, lin11, ⟨lne11.1, lne11.2.1, by decide +kernel⟩, lne11.2.2, ⟨mg8 186 rfl rfl, mg8 187 rfl rfl⟩⟩
def yM_flownLength : MethodName := ⟨Rk11, "flownLength", "()I"⟩
def qM_flownLength : Mq := (prog_14_method_95_code, 1, Rk11, some .int)
theorem FM_flownLength : Mf yM_flownLength qM_flownLength 0 false := ⟨mg8 192 rfl rfl, lin11, ⟨lne11.1, lne11.2.1, by decide +kernel⟩, lne11.2.2, ⟨mg8 190 rfl rfl, mg8 191 rfl rfl⟩⟩
def yM_positionX : MethodName := ⟨Rk11, "positionX", "()I"⟩
def qM_positionX : Mq := (prog_14_method_96_code, 1, Rk11, some .int)
theorem FM_positionX : Mf yM_positionX qM_positionX 0 false := ⟨mg8 196 rfl rfl, lin11, ⟨lne11.1, lne11.2.1, by decide +kernel⟩, lne11.2.2, ⟨mg8 194 rfl rfl, mg8 195 rfl rfl⟩⟩
def yM_positionY : MethodName := ⟨Rk11, "positionY", "()I"⟩
def qM_positionY : Mq := (prog_14_method_97_code, 1, Rk11, some .int)
theorem FM_positionY : Mf yM_positionY qM_positionY 0 false := ⟨mg8 200 rfl rfl, lin11, ⟨lne11.1, lne11.2.1, by decide +kernel⟩, lne11.2.2, ⟨mg8 198 rfl rfl, mg8 199 rfl rfl⟩⟩
def yM_presentCourse : MethodName := ⟨Rk11, "presentCourse", "()I"⟩
def qM_presentCourse : Mq := (prog_14_method_98_code, 1, Rk11, some .int)
theorem FM_presentCourse : Mf yM_presentCourse qM_presentCourse 0 false := ⟨mg8 204 rfl rfl, lin11, ⟨lne11.1, lne11.2.1, by decide +kernel⟩, lne11.2.2, ⟨mg8 202 rfl rfl, mg8 203 rfl rfl⟩⟩
def yM_directSaving : MethodName := ⟨Rk11, "directSaving", "(I)I"⟩
def qM_directSaving : Mq := (prog_14_method_99_code, 4, Rk11, some .int)
theorem FM_directSaving : Mf yM_directSaving qM_directSaving 1 false := ⟨mg8 208 rfl rfl, lin11, ⟨lne11.1, lne11.2.1, by decide +kernel⟩, lne11.2.2, ⟨mg8 206 rfl rfl, mg8 207 rfl rfl⟩⟩
def yM_planOf : MethodName := ⟨Rk11, "planOf", "(I)I"⟩
def qM_planOf : Mq := (prog_14_method_100_code, 2, Rk11, some .int)
theorem FM_planOf : Mf yM_planOf qM_planOf 1 false := ⟨mg8 224 rfl rfl, lin11, ⟨lne11.1, lne11.2.1, by decide +kernel⟩, lne11.2.2, ⟨mg8 223 rfl rfl, mg0 122 rfl rfl⟩⟩
def yM_isPlan : MethodName := ⟨Rk11, "isPlan", "(I)Z"⟩
def qM_isPlan : Mq := (prog_14_method_101_code, 2, Rk11, some .boolean)
theorem FM_isPlan : Mf yM_isPlan qM_isPlan 1 false := ⟨mg8 220 rfl rfl, lin11, ⟨lne11.1, lne11.2.1, by decide +kernel⟩, lne11.2.2, ⟨mg8 219 rfl rfl, mg0 121 rfl rfl⟩⟩
def yM_isLegOf : MethodName := ⟨Rk11, "isLegOf", "(II)Z"⟩
def qM_isLegOf : Mq := (prog_14_method_102_code, 3, Rk11, some .boolean)
theorem FM_isLegOf : Mf yM_isLegOf qM_isLegOf 2 false := ⟨mg8 232 rfl rfl, lin11, ⟨lne11.1, lne11.2.1, by decide +kernel⟩, lne11.2.2, ⟨mg8 231 rfl rfl, mg0 123 rfl rfl⟩⟩
def yM_isPieceOf : MethodName := ⟨Rk11, "isPieceOf", "(II)Z"⟩
def qM_isPieceOf : Mq := (prog_14_method_103_code, 3, Rk11, some .boolean)
theorem FM_isPieceOf : Mf yM_isPieceOf qM_isPieceOf 2 false := ⟨mg9 65 rfl rfl, lin11, ⟨lne11.1, lne11.2.1, by decide +kernel⟩, lne11.2.2, ⟨mg9 64 rfl rfl, mg0 125 rfl rfl⟩⟩
def yM_legCount : MethodName := ⟨Rk11, "legCount", "(I)I"⟩
def qM_legCount : Mq := (prog_14_method_104_code, 2, Rk11, some .int)
theorem FM_legCount : Mf yM_legCount qM_legCount 1 false := ⟨mg8 216 rfl rfl, lin11, ⟨lne11.1, lne11.2.1, by decide +kernel⟩, lne11.2.2, ⟨mg8 214 rfl rfl, mg8 215 rfl rfl⟩⟩
def yM_legKind : MethodName := ⟨Rk11, "legKind", "(II)I"⟩
def qM_legKind : Mq := (prog_14_method_105_code, 3, Rk11, some .int)
theorem FM_legKind : Mf yM_legKind qM_legKind 2 false := ⟨mg8 228 rfl rfl, lin11, ⟨lne11.1, lne11.2.1, by decide +kernel⟩, lne11.2.2, ⟨mg8 226 rfl rfl, mg8 227 rfl rfl⟩⟩
def yM_legFix : MethodName := ⟨Rk11, "legFix", "(II)I"⟩
def qM_legFix : Mq := (prog_14_method_106_code, 3, Rk11, some .int)
theorem FM_legFix : Mf yM_legFix qM_legFix 2 false := ⟨mg8 236 rfl rfl, lin11, ⟨lne11.1, lne11.2.1, by decide +kernel⟩, lne11.2.2, ⟨mg8 234 rfl rfl, mg8 235 rfl rfl⟩⟩
def yM_hasGap : MethodName := ⟨Rk11, "hasGap", "(II)I"⟩
def qM_hasGap : Mq := (prog_14_method_107_code, 3, Rk11, some .int)
theorem FM_hasGap : Mf yM_hasGap qM_hasGap 2 false := ⟨mg9 0 rfl rfl, lin11, ⟨lne11.1, lne11.2.1, by decide +kernel⟩, lne11.2.2, ⟨mg8 238 rfl rfl, mg8 239 rfl rfl⟩⟩
def yM_endX : MethodName := ⟨Rk11, "endX", "(II)I"⟩
def qM_endX : Mq := (prog_14_method_108_code, 3, Rk11, some .int)
theorem FM_endX : Mf yM_endX qM_endX 2 false := ⟨mg9 4 rfl rfl, lin11, ⟨lne11.1, lne11.2.1, by decide +kernel⟩, lne11.2.2, ⟨mg9 2 rfl rfl, mg9 3 rfl rfl⟩⟩
def yM_endY : MethodName := ⟨Rk11, "endY", "(II)I"⟩
def qM_endY : Mq := (prog_14_method_109_code, 3, Rk11, some .int)
theorem FM_endY : Mf yM_endY qM_endY 2 false := ⟨mg9 8 rfl rfl, lin11, ⟨lne11.1, lne11.2.1, by decide +kernel⟩, lne11.2.2, ⟨mg9 6 rfl rfl, mg9 7 rfl rfl⟩⟩
def yM_legCourse : MethodName := ⟨Rk11, "legCourse", "(II)I"⟩
def qM_legCourse : Mq := (prog_14_method_110_code, 5, Rk11, some .int)
theorem FM_legCourse : Mf yM_legCourse qM_legCourse 2 false := ⟨mg9 12 rfl rfl, lin11, ⟨lne11.1, lne11.2.1, by decide +kernel⟩, lne11.2.2, ⟨mg9 10 rfl rfl, mg9 11 rfl rfl⟩⟩
def yM_legLength : MethodName := ⟨Rk11, "legLength", "(II)I"⟩
def qM_legLength : Mq := (prog_14_method_111_code, 3, Rk11, some .int)
theorem FM_legLength : Mf yM_legLength qM_legLength 2 false := ⟨mg9 16 rfl rfl, lin11, ⟨lne11.1, lne11.2.1, by decide +kernel⟩, lne11.2.2, ⟨mg9 14 rfl rfl, mg9 15 rfl rfl⟩⟩
def yM_legTime : MethodName := ⟨Rk11, "legTime", "(II)I"⟩
def qM_legTime : Mq := (prog_14_method_112_code, 3, Rk11, some .int)
theorem FM_legTime : Mf yM_legTime qM_legTime 2 false := ⟨mg9 20 rfl rfl, lin11, ⟨lne11.1, lne11.2.1, by decide +kernel⟩, lne11.2.2, ⟨mg9 18 rfl rfl, mg9 19 rfl rfl⟩⟩
def yM_lengthTo : MethodName := ⟨Rk11, "lengthTo", "(II)I"⟩
def qM_lengthTo : Mq := (prog_14_method_113_code, 3, Rk11, some .int)
theorem FM_lengthTo : Mf yM_lengthTo qM_lengthTo 2 false := ⟨mg9 24 rfl rfl, lin11, ⟨lne11.1, lne11.2.1, by decide +kernel⟩, lne11.2.2, ⟨mg9 22 rfl rfl, mg9 23 rfl rfl⟩⟩
def yM_segmentOf : MethodName := ⟨Rk11, "segmentOf", "(I)I"⟩
def qM_segmentOf : Mq := (prog_14_method_114_code, 2, Rk11, some .int)
theorem FM_segmentOf : Mf yM_segmentOf qM_segmentOf 1 false := ⟨mg9 32 rfl rfl, lin11, ⟨lne11.1, lne11.2.1, by decide +kernel⟩, lne11.2.2, ⟨mg9 31 rfl rfl, mg0 124 rfl rfl⟩⟩
def yM_turnKind : MethodName := ⟨Rk11, "turnKind", "(II)I"⟩
def qM_turnKind : Mq := (prog_14_method_115_code, 3, Rk11, some .int)
theorem FM_turnKind : Mf yM_turnKind qM_turnKind 2 false := ⟨mg9 28 rfl rfl, lin11, ⟨lne11.1, lne11.2.1, by decide +kernel⟩, lne11.2.2, ⟨mg9 26 rfl rfl, mg9 27 rfl rfl⟩⟩
def yM_turnSteps : MethodName := ⟨Rk11, "turnSteps", "(II)I"⟩
def qM_turnSteps : Mq := (prog_14_method_116_code, 3, Rk11, some .int)
theorem FM_turnSteps : Mf yM_turnSteps qM_turnSteps 2 false := ⟨mg9 36 rfl rfl, lin11, ⟨lne11.1, lne11.2.1, by decide +kernel⟩, lne11.2.2, ⟨mg9 34 rfl rfl, mg9 35 rfl rfl⟩⟩
def yM_turnRadius : MethodName := ⟨Rk11, "turnRadius", "(II)I"⟩
def qM_turnRadius : Mq := (prog_14_method_117_code, 3, Rk11, some .int)
theorem FM_turnRadius : Mf yM_turnRadius qM_turnRadius 2 false := ⟨mg9 40 rfl rfl, lin11, ⟨lne11.1, lne11.2.1, by decide +kernel⟩, lne11.2.2, ⟨mg9 38 rfl rfl, mg9 39 rfl rfl⟩⟩
def yM_turnLead : MethodName := ⟨Rk11, "turnLead", "(II)I"⟩
def qM_turnLead : Mq := (prog_14_method_118_code, 3, Rk11, some .int)
theorem FM_turnLead : Mf yM_turnLead qM_turnLead 2 false := ⟨mg9 44 rfl rfl, lin11, ⟨lne11.1, lne11.2.1, by decide +kernel⟩, lne11.2.2, ⟨mg9 42 rfl rfl, mg9 43 rfl rfl⟩⟩
def yM_holdEntry : MethodName := ⟨Rk11, "holdEntry", "(II)I"⟩
def qM_holdEntry : Mq := (prog_14_method_119_code, 3, Rk11, some .int)
theorem FM_holdEntry : Mf yM_holdEntry qM_holdEntry 2 false := ⟨mg9 48 rfl rfl, lin11, ⟨lne11.1, lne11.2.1, by decide +kernel⟩, lne11.2.2, ⟨mg9 46 rfl rfl, mg9 47 rfl rfl⟩⟩
def yM_entryFor : MethodName := ⟨Rk11, "entryFor", "(IIZ)I"⟩
def qM_entryFor : Mq := (prog_14_method_120_code, 4, Rk11, some .int)
theorem FM_entryFor : Mf yM_entryFor qM_entryFor 3 false := ⟨mg9 52 rfl rfl, lin11, ⟨lne11.1, lne11.2.1, by decide +kernel⟩, lne11.2.2, ⟨mg9 50 rfl rfl, mg9 51 rfl rfl⟩⟩
def yM_pieceCount : MethodName := ⟨Rk11, "pieceCount", "(I)I"⟩
def qM_pieceCount : Mq := (prog_14_method_121_code, 2, Rk11, some .int)
theorem FM_pieceCount : Mf yM_pieceCount qM_pieceCount 1 false := ⟨mg9 57 rfl rfl, lin11, ⟨lne11.1, lne11.2.1, by decide +kernel⟩, lne11.2.2, ⟨mg9 55 rfl rfl, mg9 56 rfl rfl⟩⟩
def yM_pieceLeg : MethodName := ⟨Rk11, "pieceLeg", "(II)I"⟩
def qM_pieceLeg : Mq := (prog_14_method_122_code, 3, Rk11, some .int)
theorem FM_pieceLeg : Mf yM_pieceLeg qM_pieceLeg 2 false := ⟨mg9 61 rfl rfl, lin11, ⟨lne11.1, lne11.2.1, by decide +kernel⟩, lne11.2.2, ⟨mg9 59 rfl rfl, mg9 60 rfl rfl⟩⟩
def yM_pieceKind : MethodName := ⟨Rk11, "pieceKind", "(II)I"⟩
def qM_pieceKind : Mq := (prog_14_method_123_code, 3, Rk11, some .int)
theorem FM_pieceKind : Mf yM_pieceKind qM_pieceKind 2 false := ⟨mg9 69 rfl rfl, lin11, ⟨lne11.1, lne11.2.1, by decide +kernel⟩, lne11.2.2, ⟨mg9 67 rfl rfl, mg9 68 rfl rfl⟩⟩
def yM_pieceLength : MethodName := ⟨Rk11, "pieceLength", "(II)I"⟩
def qM_pieceLength : Mq := (prog_14_method_124_code, 3, Rk11, some .int)
theorem FM_pieceLength : Mf yM_pieceLength qM_pieceLength 2 false := ⟨mg9 73 rfl rfl, lin11, ⟨lne11.1, lne11.2.1, by decide +kernel⟩, lne11.2.2, ⟨mg9 71 rfl rfl, mg9 72 rfl rfl⟩⟩
def yM_pieceCourse : MethodName := ⟨Rk11, "pieceCourse", "(II)I"⟩
def qM_pieceCourse : Mq := (prog_14_method_125_code, 3, Rk11, some .int)
theorem FM_pieceCourse : Mf yM_pieceCourse qM_pieceCourse 2 false := ⟨mg9 77 rfl rfl, lin11, ⟨lne11.1, lne11.2.1, by decide +kernel⟩, lne11.2.2, ⟨mg9 75 rfl rfl, mg9 76 rfl rfl⟩⟩
def yM_pieceX : MethodName := ⟨Rk11, "pieceX", "(II)I"⟩
def qM_pieceX : Mq := (prog_14_method_126_code, 3, Rk11, some .int)
theorem FM_pieceX : Mf yM_pieceX qM_pieceX 2 false := ⟨mg9 81 rfl rfl, lin11, ⟨lne11.1, lne11.2.1, by decide +kernel⟩, lne11.2.2, ⟨mg9 79 rfl rfl, mg9 80 rfl rfl⟩⟩
def yM_pieceY : MethodName := ⟨Rk11, "pieceY", "(II)I"⟩
def qM_pieceY : Mq := (prog_14_method_127_code, 3, Rk11, some .int)
theorem FM_pieceY : Mf yM_pieceY qM_pieceY 2 false := ⟨mg9 85 rfl rfl, lin11, ⟨lne11.1, lne11.2.1, by decide +kernel⟩, lne11.2.2, ⟨mg9 83 rfl rfl, mg9 84 rfl rfl⟩⟩
def yM_climbAltitude : MethodName := ⟨Rk11, "climbAltitude", "(II)I"⟩
def qM_climbAltitude : Mq := (prog_14_method_128_code, 3, Rk11, some .int)
theorem FM_climbAltitude : Mf yM_climbAltitude qM_climbAltitude 2 false := ⟨mg9 89 rfl rfl, lin11, ⟨lne11.1, lne11.2.1, by decide +kernel⟩, lne11.2.2, ⟨mg9 87 rfl rfl, mg9 88 rfl rfl⟩⟩
def yM_descentAltitude : MethodName := ⟨Rk11, "descentAltitude", "(II)I"⟩
def qM_descentAltitude : Mq := (prog_14_method_129_code, 3, Rk11, some .int)
theorem FM_descentAltitude : Mf yM_descentAltitude qM_descentAltitude 2 false := ⟨mg9 93 rfl rfl, lin11, ⟨lne11.1, lne11.2.1, by decide +kernel⟩, lne11.2.2, ⟨mg9 91 rfl rfl, mg9 92 rfl rfl⟩⟩
def yM_altitude : MethodName := ⟨Rk11, "altitude", "(II)I"⟩
def qM_altitude : Mq := (prog_14_method_130_code, 3, Rk11, some .int)
theorem FM_altitude : Mf yM_altitude qM_altitude 2 false := ⟨mg9 97 rfl rfl, lin11, ⟨lne11.1, lne11.2.1, by decide +kernel⟩, lne11.2.2, ⟨mg9 95 rfl rfl, mg9 96 rfl rfl⟩⟩
def yM_altitudeAt : MethodName := ⟨Rk11, "altitudeAt", "(III)I"⟩
def qM_altitudeAt : Mq := (prog_14_method_131_code, 6, Rk11, some .int)
theorem FM_altitudeAt : Mf yM_altitudeAt qM_altitudeAt 3 false := ⟨mg9 101 rfl rfl, lin11, ⟨lne11.1, lne11.2.1, by decide +kernel⟩, lne11.2.2, ⟨mg9 99 rfl rfl, mg9 100 rfl rfl⟩⟩
def yM_violation : MethodName := ⟨Rk11, "violation", "(II)I"⟩
def qM_violation : Mq := (prog_14_method_132_code, 3, Rk11, some .int)
theorem FM_violation : Mf yM_violation qM_violation 2 false := ⟨mg9 105 rfl rfl, lin11, ⟨lne11.1, lne11.2.1, by decide +kernel⟩, lne11.2.2, ⟨mg9 103 rfl rfl, mg9 104 rfl rfl⟩⟩
def yM_topOfDescent : MethodName := ⟨Rk11, "topOfDescent", "(I)I"⟩
def qM_topOfDescent : Mq := (prog_14_method_133_code, 5, Rk11, some .int)
theorem FM_topOfDescent : Mf yM_topOfDescent qM_topOfDescent 1 false := ⟨mg9 109 rfl rfl, lin11, ⟨lne11.1, lne11.2.1, by decide +kernel⟩, lne11.2.2, ⟨mg9 107 rfl rfl, mg9 108 rfl rfl⟩⟩
def yM_gapCount : MethodName := ⟨Rk11, "gapCount", "(I)I"⟩
def qM_gapCount : Mq := (prog_14_method_134_code, 2, Rk11, some .int)
theorem FM_gapCount : Mf yM_gapCount qM_gapCount 1 false := ⟨mg9 113 rfl rfl, lin11, ⟨lne11.1, lne11.2.1, by decide +kernel⟩, lne11.2.2, ⟨mg9 111 rfl rfl, mg9 112 rfl rfl⟩⟩
def yM_totalLength : MethodName := ⟨Rk11, "totalLength", "(I)I"⟩
def qM_totalLength : Mq := (prog_14_method_135_code, 2, Rk11, some .int)
theorem FM_totalLength : Mf yM_totalLength qM_totalLength 1 false := ⟨mg9 117 rfl rfl, lin11, ⟨lne11.1, lne11.2.1, by decide +kernel⟩, lne11.2.2, ⟨mg9 115 rfl rfl, mg9 116 rfl rfl⟩⟩
def yM_totalTime : MethodName := ⟨Rk11, "totalTime", "(I)I"⟩
def qM_totalTime : Mq := (prog_14_method_136_code, 4, Rk11, some .int)
theorem FM_totalTime : Mf yM_totalTime qM_totalTime 1 false := ⟨mg9 121 rfl rfl, lin11, ⟨lne11.1, lne11.2.1, by decide +kernel⟩, lne11.2.2, ⟨mg9 119 rfl rfl, mg9 120 rfl rfl⟩⟩
def yM_violationCount : MethodName := ⟨Rk11, "violationCount", "(I)I"⟩
def qM_violationCount : Mq := (prog_14_method_137_code, 2, Rk11, some .int)
theorem FM_violationCount : Mf yM_violationCount qM_violationCount 1 false := ⟨mg9 125 rfl rfl, lin11, ⟨lne11.1, lne11.2.1, by decide +kernel⟩, lne11.2.2, ⟨mg9 123 rfl rfl, mg9 124 rfl rfl⟩⟩
theorem lmM_156 : Cond.methodLink Rk11 156 yM_around ∈ lw_g := mg7 182 rfl rfl
theorem lmM_162 : Cond.methodLink Rk11 162 yM_sx ∈ lw_g := mg7 178 rfl rfl
theorem lmM_165 : Cond.methodLink Rk11 165 yM_sy ∈ lw_g := mg7 185 rfl rfl
theorem lmM_168 : Cond.methodLink Rk11 168 yM_of ∈ lw_g := mg7 158 rfl rfl
theorem lmM_187 : Cond.methodLink Rk11 187 yM_inbound ∈ lw_g := mg7 154 rfl rfl
theorem lmM_197 : Cond.methodLink Rk11 197 yM_distance ∈ lw_g := mg7 217 rfl rfl
theorem lmM_201 : Cond.methodLink Rk11 201 yM_courseTo ∈ lw_g := mg7 228 rfl rfl
theorem lmM_204 : Cond.methodLink Rk11 204 yM_segment ∈ lw_g := mg7 204 rfl rfl
theorem lmM_208 : Cond.methodLink Rk11 208 yM_ahead ∈ lw_g := mg7 192 rfl rfl
theorem lmM_211 : Cond.methodLink Rk11 211 yM_towardOnCourse ∈ lw_g := mg7 220 rfl rfl
theorem lmM_214 : Cond.methodLink Rk11 214 yM_straightTo ∈ lw_g := mg7 224 rfl rfl
theorem lmM_218 : Cond.methodLink Rk11 218 yM_count ∈ lw_g := mg7 142 rfl rfl
theorem lmM_221 : Cond.methodLink Rk11 221 yM_pointX ∈ lw_g := mg7 170 rfl rfl
theorem lmM_225 : Cond.methodLink Rk11 225 yM_pointY ∈ lw_g := mg7 174 rfl rfl
theorem lmM_232 : Cond.methodLink Rk11 232 yM_in ∈ lw_g := mg7 47 rfl rfl
theorem lmM_236 : Cond.methodLink Rk11 236 yM_ends ∈ lw_g := mg7 196 rfl rfl
theorem lmM_239 : Cond.methodLink Rk11 239 yM_onCourse ∈ lw_g := mg7 200 rfl rfl
theorem lmM_247 : Cond.methodLink Rk11 247 yM_laysIntercept ∈ lw_g := mg7 166 rfl rfl
theorem lmM_251 : Cond.methodLink Rk11 251 yM_climbLength ∈ lw_g := mg7 208 rfl rfl
theorem lmM_254 : Cond.methodLink Rk11 254 yM_laysCourseToFix ∈ lw_g := mg7 213 rfl rfl
theorem lmM_260 : Cond.methodLink Rk11 260 yM_laysLeg ∈ lw_g := mg7 162 rfl rfl
theorem lmM_263 : Cond.methodLink Rk11 263 yM_hasFix ∈ lw_g := mg7 94 rfl rfl
theorem lmM_267 : Cond.methodLink Rk11 267 yM_lesser ∈ lw_g := mg8 4 rfl rfl
theorem lmM_276 : Cond.methodLink Rk11 276 yM_airspeed ∈ lw_g := mg8 0 rfl rfl
theorem lmM_279 : Cond.methodLink Rk11 279 yM_greater ∈ lw_g := mg8 7 rfl rfl
theorem lmM_282 : Cond.methodLink Rk11 282 yM_groundSpeed ∈ lw_g := mg7 236 rfl rfl
theorem lmM_298 : Cond.methodLink Rk11 298 yM_piece ∈ lw_g := mg8 20 rfl rfl
theorem lmM_302 : Cond.methodLink Rk11 302 yM_before ∈ lw_g := mg8 24 rfl rfl
theorem lmM_307 : Cond.methodLink Rk11 307 yM_laysOver ∈ lw_g := mg8 16 rfl rfl
theorem lmM_310 : Cond.methodLink Rk11 310 yM_entry ∈ lw_g := mg8 36 rfl rfl
theorem lmM_314 : Cond.methodLink Rk11 314 yM_entryOf ∈ lw_g := mg8 32 rfl rfl
theorem lmM_325 : Cond.methodLink Rk11 325 yM_laysSegments ∈ lw_g := mg7 150 rfl rfl
theorem lmM_329 : Cond.methodLink Rk11 329 yM_laysTurn ∈ lw_g := mg7 232 rfl rfl
theorem lmM_332 : Cond.methodLink Rk11 332 yM_laysSegment ∈ lw_g := mg8 12 rfl rfl
theorem lmM_335 : Cond.methodLink Rk11 335 yM_laysPattern ∈ lw_g := mg8 28 rfl rfl
theorem lmM_338 : Cond.methodLink Rk11 338 yM_laysTotals ∈ lw_g := mg8 42 rfl rfl
theorem lmM_341 : Cond.methodLink Rk11 341 yM_laysAltitudes ∈ lw_g := mg8 47 rfl rfl
theorem lmM_344 : Cond.methodLink Rk11 344 yM_change ∈ lw_g := mg8 51 rfl rfl
theorem lmM_350 : Cond.methodLink Rk11 350 yM_altitudeOf ∈ lw_g := mg8 136 rfl rfl
theorem lmM_353 : Cond.methodLink Rk11 353 yM_altitudeBefore ∈ lw_g := mg8 140 rfl rfl
theorem lmM_356 : Cond.methodLink Rk11 356 yM_violationOf ∈ lw_g := mg8 132 rfl rfl
theorem lmM_359 : Cond.methodLink Rk11 359 yM_lays ∈ lw_g := mg7 146 rfl rfl
theorem lmM_395 : Cond.methodLink Rk11 395 yM_isCapital ∈ lw_g := mg7 68 rfl rfl
theorem lmM_398 : Cond.methodLink Rk11 398 yM_isDigit ∈ lw_g := mg7 73 rfl rfl
theorem lmM_404 : Cond.methodLink Rk11 404 yM_nextToken ∈ lw_g := mg7 64 rfl rfl
theorem lmM_407 : Cond.methodLink Rk11 407 yM_readsNumber ∈ lw_g := mg7 105 rfl rfl
theorem lmM_417 : Cond.methodLink Rk11 417 yM_isLetter ∈ lw_g := mg7 113 rfl rfl
theorem lmM_420 : Cond.methodLink Rk11 420 yM_readsFix ∈ lw_g := mg7 97 rfl rfl
theorem lmM_424 : Cond.methodLink Rk11 424 yM_readsInto ∈ lw_g := mg7 101 rfl rfl
theorem lmM_428 : Cond.methodLink Rk11 428 yM_readsSide ∈ lw_g := mg7 109 rfl rfl
theorem lmM_431 : Cond.methodLink Rk11 431 yM_window ∈ lw_g := mg7 86 rfl rfl
theorem lmM_434 : Cond.methodLink Rk11 434 yM_kindHere ∈ lw_g := mg7 82 rfl rfl
theorem lmM_438 : Cond.methodLink Rk11 438 yM_readsKind ∈ lw_g := mg7 90 rfl rfl
theorem lmM_441 : Cond.methodLink Rk11 441 yM_isAttribute ∈ lw_g := mg7 117 rfl rfl
theorem lmM_444 : Cond.methodLink Rk11 444 yM_readsAttribute ∈ lw_g := mg7 121 rfl rfl
theorem lmM_447 : Cond.methodLink Rk11 447 yM_readsLeg ∈ lw_g := mg7 78 rfl rfl
theorem lmM_450 : Cond.methodLink Rk11 450 yM_reads ∈ lw_g := mg7 60 rfl rfl
theorem lmM_462 : Cond.methodLink Rk11 462 yM_clamps ∈ lw_g := mg7 138 rfl rfl
theorem lmM_480 : Cond.methodLink Rk11 480 yM_copyPlan ∈ lw_g := mg8 79 rfl rfl
theorem lmM_484 : Cond.methodLink Rk11 484 yM_begins ∈ lw_g := mg8 75 rfl rfl
theorem lmM_487 : Cond.methodLink Rk11 487 yM_laysTold ∈ lw_g := mg8 83 rfl rfl
theorem lmM_490 : Cond.methodLink Rk11 490 yM_edited ∈ lw_g := mg8 91 rfl rfl
theorem lmM_494 : Cond.methodLink Rk11 494 yM_joined ∈ lw_g := mg8 96 rfl rfl
theorem lmM_497 : Cond.methodLink Rk11 497 yM_copyLeg ∈ lw_g := mg8 100 rfl rfl
theorem lmM_500 : Cond.methodLink Rk11 500 yM_sets ∈ lw_g := mg8 104 rfl rfl
theorem lmM_503 : Cond.methodLink Rk11 503 yM_isLeg ∈ lw_g := mg8 112 rfl rfl
theorem lmM_506 : Cond.methodLink Rk11 506 yM_gaps ∈ lw_g := mg8 120 rfl rfl
theorem lmM_509 : Cond.methodLink Rk11 509 yM_violations ∈ lw_g := mg8 128 rfl rfl
theorem lmM_512 : Cond.methodLink Rk11 512 yM_hasPosition ∈ lw_g := mg8 156 rfl rfl
theorem lmM_515 : Cond.methodLink Rk11 515 yM_laysDirect ∈ lw_g := mg8 160 rfl rfl
theorem lmM_520 : Cond.methodLink Rk11 520 yM_lengthUpTo ∈ lw_g := mg8 209 rfl rfl
theorem lmM_523 : Cond.methodLink Rk11 523 yM_planOf ∈ lw_g := mg8 221 rfl rfl
theorem lmM_526 : Cond.methodLink Rk11 526 yM_isPlan ∈ lw_g := mg8 217 rfl rfl
theorem lmM_529 : Cond.methodLink Rk11 529 yM_isLegOf ∈ lw_g := mg8 229 rfl rfl
theorem lmM_532 : Cond.methodLink Rk11 532 yM_segmentOf ∈ lw_g := mg9 29 rfl rfl
theorem lmM_537 : Cond.methodLink Rk11 537 yM_isPieceOf ∈ lw_g := mg9 62 rfl rfl
