/-! the law, whole -/
def law_sw (L : Nat) (xs : Nat → Int32) (ih : Int32 × St × St → Option Int32) (a : Int32 × St × St) (k : Int32) : Option Int32 :=
  if k = 0 then law_0 L xs ih a else
  if k = 1 then law_1 L xs ih a else
  if k = 2 then law_2 L xs ih a else
  if k = 3 then law_3 L xs ih a else
  if k = 4 then law_4 L xs ih a else
  if k = 5 then law_5 L xs ih a else
  if k = 6 then law_6 L xs ih a else
  if k = 7 then law_7 L xs ih a else
  if k = 8 then law_8 L xs ih a else
  if k = 9 then law_9 L xs ih a else
  if k = 10 then law_10 L xs ih a else
  if k = 11 then law_11 L xs ih a else
  if k = 12 then law_12 L xs ih a else
  if k = 13 then law_13 L xs ih a else
  if k = 14 then law_14 L xs ih a else
  if k = 15 then law_15 L xs ih a else
  if k = 16 then law_16 L xs ih a else
  if k = 17 then law_17 L xs ih a else
  if k = 18 then law_18 L xs ih a else
  if k = 19 then law_19 L xs ih a else
  if k = 20 then law_20 L xs ih a else
  if k = 21 then law_21 L xs ih a else
  if k = 22 then law_22 L xs ih a else
  if k = 23 then law_23 L xs ih a else
  if k = 24 then law_24 L xs ih a else
  if k = 25 then law_25 L xs ih a else
  if k = 26 then law_26 L xs ih a else
  if k = 27 then law_27 L xs ih a else
  if k = 28 then law_28 L xs ih a else
  if k = 29 then law_29 L xs ih a else
  if k = 30 then law_30 L xs ih a else
  if k = 31 then law_31 L xs ih a else
  if k = 32 then law_32 L xs ih a else
  if k = 33 then law_33 L xs ih a else
  if k = 34 then law_34 L xs ih a else
  if k = 35 then law_35 L xs ih a else
  if k = 36 then law_36 L xs ih a else
  if k = 37 then law_37 L xs ih a else
  if k = 38 then law_38 L xs ih a else
  if k = 39 then law_39 L xs ih a else
  if k = 40 then law_40 L xs ih a else
  if k = 41 then law_41 L xs ih a else
  if k = 42 then law_42 L xs ih a else
  if k = 43 then law_43 L xs ih a else
  if k = 44 then law_44 L xs ih a else
  if k = 45 then law_45 L xs ih a else
  if k = 46 then law_46 L xs ih a else
  if k = 47 then law_47 L xs ih a else
  if k = 48 then law_48 L xs ih a else
  if k = 49 then law_49 L xs ih a else
  if k = 50 then law_50 L xs ih a else
  if k = 51 then law_51 L xs ih a else
  if k = 52 then law_52 L xs ih a else
  if k = 53 then law_53 L xs ih a else
  if k = 54 then law_54 L xs ih a else
  if k = 55 then law_55 L xs ih a else
  if k = 56 then law_56 L xs ih a else
  if k = 57 then law_57 L xs ih a else
  if k = 58 then law_58 L xs ih a else
  if k = 59 then law_59 L xs ih a else
  ih (a.1 + (4 : Int32), a.2.1, a.2.2)
def law_f (L : Nat) (xs : Nat → Int32) (c0 m0 : St) : Option Int32 :=
  lp (fun (ih : Int32 × St × St → Option Int32) (a : Int32 × St × St) =>
    if (Int32.ofNat L - (4 : Int32) : Int32) < a.1 then (some 1) else (
    Gd (Ix a.1 L) <|
    law_sw L xs ih a (xs (Int32.toNatClampNeg a.1) &&& (63 : Int32)))) 4000 ((0 : Int32), c0, m0)
theorem lb63 : (Int8.ofInt 63).toInt32 = (63 : Int32) := by decide
theorem l_tab {v : Zl} {G : Gl} {lv : List (Nat × Value)} {st : List Value} {c m : St} {E : Option Int32} (C : Lc v G) {x : Int32} {off : Int} {tgt : Nat} (h1 : ¬ x.toInt < 0) (h2 : ¬ 59 < x.toInt) (ho : (#[256, 279, 292, 305, 338, 371, 404, 447, 480, 493, 516, 539, 562, 605, 638, 687, 710, 723, 736, 749, 772, 785, 798, 811, 824, 837, 850, 873, 896, 929, 962, 995, 1028, 1061, 1094, 1127, 1160, 1193, 1226, 1259, 1292, 1325, 1358, 1417, 1440, 1473, 1506, 1539, 1572, 1605, 1638, 1671, 1704, 1737, 1780, 1813, 1836, 1859, 1882, 1905] : Array Int)[(x.toInt - 0).toNat]? = some off) (ht : ((32 : Nat) : Int) + off = (tgt : Int)) (kk : Lw v G tgt lv st c m E) : Lw v G 32 lv (.int x :: st) c m E :=
  fun hE H locs ls hP hQ hS hl => lv_tableIn C.1 C.2.1 dL_32 h1 h2 ho ht (kk hE H locs ls hP hQ hS hl)
theorem l_tabO {v : Zl} {G : Gl} {lv : List (Nat × Value)} {st : List Value} {c m : St} {E : Option Int32} (C : Lc v G) {x : Int32} (h : x.toInt < 0 ∨ 59 < x.toInt) (kk : Lw v G 1960 lv st c m E) : Lw v G 32 lv (.int x :: st) c m E :=
  fun hE H locs ls hP hQ hS hl => lv_tableOut C.1 C.2.1 dL_32 h rfl (kk hE H locs ls hP hQ hS hl)
theorem l_case {v : Zl} {G : Gl} {pc : Nat} {lv : List (Nat × Value)} {st : List Value} {c m : St} {E1 E2 : Option Int32} {q : Prop} {inst : Decidable q} (k1 : q → Lw v G pc lv st c m E1) (k2 : ¬ q → Lw v G pc lv st c m E2) : Lw v G pc lv st c m (@ite _ q inst E1 E2) := by
  by_cases h : q
  · rw [if_pos h]; exact k1 h
  · rw [if_neg h]; exact k2 h
set_option maxHeartbeats 8000000 in
set_option maxRecDepth 100000 in
theorem w_sw {v : Zl} {G : Gl} (C : Lc v G) (ih : Int32 × St × St → Option Int32) (hih : ∀ a : Int32 × St × St, Lw v G 18 [(0, .ref G.2.2.1), (1, .ref (G.1.1 0)), (2, .ref (G.2.1.1 0)), (3, .int a.1)] [] a.2.1 a.2.2 (ih a)) (a : Int32 × St × St) (k : Int32) : Lw v G 32 [(0, .ref G.2.2.1), (1, .ref (G.1.1 0)), (2, .ref (G.2.1.1 0)), (3, .int a.1)] [.int k] a.2.1 a.2.2 (law_sw G.2.2.2.1 G.2.2.2.2 ih a k) := by
  unfold law_sw
  refine l_case (fun h => by rw [h]; exact l_tab (off := 256) (tgt := 288) C (by decide) (by decide) rfl rfl (w_0 C ih hih a)) (fun h0 => ?_)
  refine l_case (fun h => by rw [h]; exact l_tab (off := 279) (tgt := 311) C (by decide) (by decide) rfl rfl (w_1 C ih hih a)) (fun h1 => ?_)
  refine l_case (fun h => by rw [h]; exact l_tab (off := 292) (tgt := 324) C (by decide) (by decide) rfl rfl (w_2 C ih hih a)) (fun h2 => ?_)
  refine l_case (fun h => by rw [h]; exact l_tab (off := 305) (tgt := 337) C (by decide) (by decide) rfl rfl (w_3 C ih hih a)) (fun h3 => ?_)
  refine l_case (fun h => by rw [h]; exact l_tab (off := 338) (tgt := 370) C (by decide) (by decide) rfl rfl (w_4 C ih hih a)) (fun h4 => ?_)
  refine l_case (fun h => by rw [h]; exact l_tab (off := 371) (tgt := 403) C (by decide) (by decide) rfl rfl (w_5 C ih hih a)) (fun h5 => ?_)
  refine l_case (fun h => by rw [h]; exact l_tab (off := 404) (tgt := 436) C (by decide) (by decide) rfl rfl (w_6 C ih hih a)) (fun h6 => ?_)
  refine l_case (fun h => by rw [h]; exact l_tab (off := 447) (tgt := 479) C (by decide) (by decide) rfl rfl (w_7 C ih hih a)) (fun h7 => ?_)
  refine l_case (fun h => by rw [h]; exact l_tab (off := 480) (tgt := 512) C (by decide) (by decide) rfl rfl (w_8 C ih hih a)) (fun h8 => ?_)
  refine l_case (fun h => by rw [h]; exact l_tab (off := 493) (tgt := 525) C (by decide) (by decide) rfl rfl (w_9 C ih hih a)) (fun h9 => ?_)
  refine l_case (fun h => by rw [h]; exact l_tab (off := 516) (tgt := 548) C (by decide) (by decide) rfl rfl (w_10 C ih hih a)) (fun h10 => ?_)
  refine l_case (fun h => by rw [h]; exact l_tab (off := 539) (tgt := 571) C (by decide) (by decide) rfl rfl (w_11 C ih hih a)) (fun h11 => ?_)
  refine l_case (fun h => by rw [h]; exact l_tab (off := 562) (tgt := 594) C (by decide) (by decide) rfl rfl (w_12 C ih hih a)) (fun h12 => ?_)
  refine l_case (fun h => by rw [h]; exact l_tab (off := 605) (tgt := 637) C (by decide) (by decide) rfl rfl (w_13 C ih hih a)) (fun h13 => ?_)
  refine l_case (fun h => by rw [h]; exact l_tab (off := 638) (tgt := 670) C (by decide) (by decide) rfl rfl (w_14 C ih hih a)) (fun h14 => ?_)
  refine l_case (fun h => by rw [h]; exact l_tab (off := 687) (tgt := 719) C (by decide) (by decide) rfl rfl (w_15 C ih hih a)) (fun h15 => ?_)
  refine l_case (fun h => by rw [h]; exact l_tab (off := 710) (tgt := 742) C (by decide) (by decide) rfl rfl (w_16 C ih hih a)) (fun h16 => ?_)
  refine l_case (fun h => by rw [h]; exact l_tab (off := 723) (tgt := 755) C (by decide) (by decide) rfl rfl (w_17 C ih hih a)) (fun h17 => ?_)
  refine l_case (fun h => by rw [h]; exact l_tab (off := 736) (tgt := 768) C (by decide) (by decide) rfl rfl (w_18 C ih hih a)) (fun h18 => ?_)
  refine l_case (fun h => by rw [h]; exact l_tab (off := 749) (tgt := 781) C (by decide) (by decide) rfl rfl (w_19 C ih hih a)) (fun h19 => ?_)
  refine l_case (fun h => by rw [h]; exact l_tab (off := 772) (tgt := 804) C (by decide) (by decide) rfl rfl (w_20 C ih hih a)) (fun h20 => ?_)
  refine l_case (fun h => by rw [h]; exact l_tab (off := 785) (tgt := 817) C (by decide) (by decide) rfl rfl (w_21 C ih hih a)) (fun h21 => ?_)
  refine l_case (fun h => by rw [h]; exact l_tab (off := 798) (tgt := 830) C (by decide) (by decide) rfl rfl (w_22 C ih hih a)) (fun h22 => ?_)
  refine l_case (fun h => by rw [h]; exact l_tab (off := 811) (tgt := 843) C (by decide) (by decide) rfl rfl (w_23 C ih hih a)) (fun h23 => ?_)
  refine l_case (fun h => by rw [h]; exact l_tab (off := 824) (tgt := 856) C (by decide) (by decide) rfl rfl (w_24 C ih hih a)) (fun h24 => ?_)
  refine l_case (fun h => by rw [h]; exact l_tab (off := 837) (tgt := 869) C (by decide) (by decide) rfl rfl (w_25 C ih hih a)) (fun h25 => ?_)
  refine l_case (fun h => by rw [h]; exact l_tab (off := 850) (tgt := 882) C (by decide) (by decide) rfl rfl (w_26 C ih hih a)) (fun h26 => ?_)
  refine l_case (fun h => by rw [h]; exact l_tab (off := 873) (tgt := 905) C (by decide) (by decide) rfl rfl (w_27 C ih hih a)) (fun h27 => ?_)
  refine l_case (fun h => by rw [h]; exact l_tab (off := 896) (tgt := 928) C (by decide) (by decide) rfl rfl (w_28 C ih hih a)) (fun h28 => ?_)
  refine l_case (fun h => by rw [h]; exact l_tab (off := 929) (tgt := 961) C (by decide) (by decide) rfl rfl (w_29 C ih hih a)) (fun h29 => ?_)
  refine l_case (fun h => by rw [h]; exact l_tab (off := 962) (tgt := 994) C (by decide) (by decide) rfl rfl (w_30 C ih hih a)) (fun h30 => ?_)
  refine l_case (fun h => by rw [h]; exact l_tab (off := 995) (tgt := 1027) C (by decide) (by decide) rfl rfl (w_31 C ih hih a)) (fun h31 => ?_)
  refine l_case (fun h => by rw [h]; exact l_tab (off := 1028) (tgt := 1060) C (by decide) (by decide) rfl rfl (w_32 C ih hih a)) (fun h32 => ?_)
  refine l_case (fun h => by rw [h]; exact l_tab (off := 1061) (tgt := 1093) C (by decide) (by decide) rfl rfl (w_33 C ih hih a)) (fun h33 => ?_)
  refine l_case (fun h => by rw [h]; exact l_tab (off := 1094) (tgt := 1126) C (by decide) (by decide) rfl rfl (w_34 C ih hih a)) (fun h34 => ?_)
  refine l_case (fun h => by rw [h]; exact l_tab (off := 1127) (tgt := 1159) C (by decide) (by decide) rfl rfl (w_35 C ih hih a)) (fun h35 => ?_)
  refine l_case (fun h => by rw [h]; exact l_tab (off := 1160) (tgt := 1192) C (by decide) (by decide) rfl rfl (w_36 C ih hih a)) (fun h36 => ?_)
  refine l_case (fun h => by rw [h]; exact l_tab (off := 1193) (tgt := 1225) C (by decide) (by decide) rfl rfl (w_37 C ih hih a)) (fun h37 => ?_)
  refine l_case (fun h => by rw [h]; exact l_tab (off := 1226) (tgt := 1258) C (by decide) (by decide) rfl rfl (w_38 C ih hih a)) (fun h38 => ?_)
  refine l_case (fun h => by rw [h]; exact l_tab (off := 1259) (tgt := 1291) C (by decide) (by decide) rfl rfl (w_39 C ih hih a)) (fun h39 => ?_)
  refine l_case (fun h => by rw [h]; exact l_tab (off := 1292) (tgt := 1324) C (by decide) (by decide) rfl rfl (w_40 C ih hih a)) (fun h40 => ?_)
  refine l_case (fun h => by rw [h]; exact l_tab (off := 1325) (tgt := 1357) C (by decide) (by decide) rfl rfl (w_41 C ih hih a)) (fun h41 => ?_)
  refine l_case (fun h => by rw [h]; exact l_tab (off := 1358) (tgt := 1390) C (by decide) (by decide) rfl rfl (w_42 C ih hih a)) (fun h42 => ?_)
  refine l_case (fun h => by rw [h]; exact l_tab (off := 1417) (tgt := 1449) C (by decide) (by decide) rfl rfl (w_43 C ih hih a)) (fun h43 => ?_)
  refine l_case (fun h => by rw [h]; exact l_tab (off := 1440) (tgt := 1472) C (by decide) (by decide) rfl rfl (w_44 C ih hih a)) (fun h44 => ?_)
  refine l_case (fun h => by rw [h]; exact l_tab (off := 1473) (tgt := 1505) C (by decide) (by decide) rfl rfl (w_45 C ih hih a)) (fun h45 => ?_)
  refine l_case (fun h => by rw [h]; exact l_tab (off := 1506) (tgt := 1538) C (by decide) (by decide) rfl rfl (w_46 C ih hih a)) (fun h46 => ?_)
  refine l_case (fun h => by rw [h]; exact l_tab (off := 1539) (tgt := 1571) C (by decide) (by decide) rfl rfl (w_47 C ih hih a)) (fun h47 => ?_)
  refine l_case (fun h => by rw [h]; exact l_tab (off := 1572) (tgt := 1604) C (by decide) (by decide) rfl rfl (w_48 C ih hih a)) (fun h48 => ?_)
  refine l_case (fun h => by rw [h]; exact l_tab (off := 1605) (tgt := 1637) C (by decide) (by decide) rfl rfl (w_49 C ih hih a)) (fun h49 => ?_)
  refine l_case (fun h => by rw [h]; exact l_tab (off := 1638) (tgt := 1670) C (by decide) (by decide) rfl rfl (w_50 C ih hih a)) (fun h50 => ?_)
  refine l_case (fun h => by rw [h]; exact l_tab (off := 1671) (tgt := 1703) C (by decide) (by decide) rfl rfl (w_51 C ih hih a)) (fun h51 => ?_)
  refine l_case (fun h => by rw [h]; exact l_tab (off := 1704) (tgt := 1736) C (by decide) (by decide) rfl rfl (w_52 C ih hih a)) (fun h52 => ?_)
  refine l_case (fun h => by rw [h]; exact l_tab (off := 1737) (tgt := 1769) C (by decide) (by decide) rfl rfl (w_53 C ih hih a)) (fun h53 => ?_)
  refine l_case (fun h => by rw [h]; exact l_tab (off := 1780) (tgt := 1812) C (by decide) (by decide) rfl rfl (w_54 C ih hih a)) (fun h54 => ?_)
  refine l_case (fun h => by rw [h]; exact l_tab (off := 1813) (tgt := 1845) C (by decide) (by decide) rfl rfl (w_55 C ih hih a)) (fun h55 => ?_)
  refine l_case (fun h => by rw [h]; exact l_tab (off := 1836) (tgt := 1868) C (by decide) (by decide) rfl rfl (w_56 C ih hih a)) (fun h56 => ?_)
  refine l_case (fun h => by rw [h]; exact l_tab (off := 1859) (tgt := 1891) C (by decide) (by decide) rfl rfl (w_57 C ih hih a)) (fun h57 => ?_)
  refine l_case (fun h => by rw [h]; exact l_tab (off := 1882) (tgt := 1914) C (by decide) (by decide) rfl rfl (w_58 C ih hih a)) (fun h58 => ?_)
  refine l_case (fun h => by rw [h]; exact l_tab (off := 1905) (tgt := 1937) C (by decide) (by decide) rfl rfl (w_59 C ih hih a)) (fun h59 => ?_)
  refine l_tabO C ?_ (w_end C hih a.1 a.2.1 a.2.2)
  rcases Int.lt_or_le k.toInt 0 with h | h
  · exact Or.inl h
  · refine Or.inr (Int.not_le.mp (fun hq9 => ?_))
    have n0 : k.toInt ≠ 0 := fun e => h0 (Int32.toInt_inj.mp (e.trans (by decide)))
    have n1 : k.toInt ≠ 1 := fun e => h1 (Int32.toInt_inj.mp (e.trans (by decide)))
    have n2 : k.toInt ≠ 2 := fun e => h2 (Int32.toInt_inj.mp (e.trans (by decide)))
    have n3 : k.toInt ≠ 3 := fun e => h3 (Int32.toInt_inj.mp (e.trans (by decide)))
    have n4 : k.toInt ≠ 4 := fun e => h4 (Int32.toInt_inj.mp (e.trans (by decide)))
    have n5 : k.toInt ≠ 5 := fun e => h5 (Int32.toInt_inj.mp (e.trans (by decide)))
    have n6 : k.toInt ≠ 6 := fun e => h6 (Int32.toInt_inj.mp (e.trans (by decide)))
    have n7 : k.toInt ≠ 7 := fun e => h7 (Int32.toInt_inj.mp (e.trans (by decide)))
    have n8 : k.toInt ≠ 8 := fun e => h8 (Int32.toInt_inj.mp (e.trans (by decide)))
    have n9 : k.toInt ≠ 9 := fun e => h9 (Int32.toInt_inj.mp (e.trans (by decide)))
    have n10 : k.toInt ≠ 10 := fun e => h10 (Int32.toInt_inj.mp (e.trans (by decide)))
    have n11 : k.toInt ≠ 11 := fun e => h11 (Int32.toInt_inj.mp (e.trans (by decide)))
    have n12 : k.toInt ≠ 12 := fun e => h12 (Int32.toInt_inj.mp (e.trans (by decide)))
    have n13 : k.toInt ≠ 13 := fun e => h13 (Int32.toInt_inj.mp (e.trans (by decide)))
    have n14 : k.toInt ≠ 14 := fun e => h14 (Int32.toInt_inj.mp (e.trans (by decide)))
    have n15 : k.toInt ≠ 15 := fun e => h15 (Int32.toInt_inj.mp (e.trans (by decide)))
    have n16 : k.toInt ≠ 16 := fun e => h16 (Int32.toInt_inj.mp (e.trans (by decide)))
    have n17 : k.toInt ≠ 17 := fun e => h17 (Int32.toInt_inj.mp (e.trans (by decide)))
    have n18 : k.toInt ≠ 18 := fun e => h18 (Int32.toInt_inj.mp (e.trans (by decide)))
    have n19 : k.toInt ≠ 19 := fun e => h19 (Int32.toInt_inj.mp (e.trans (by decide)))
    have n20 : k.toInt ≠ 20 := fun e => h20 (Int32.toInt_inj.mp (e.trans (by decide)))
    have n21 : k.toInt ≠ 21 := fun e => h21 (Int32.toInt_inj.mp (e.trans (by decide)))
    have n22 : k.toInt ≠ 22 := fun e => h22 (Int32.toInt_inj.mp (e.trans (by decide)))
    have n23 : k.toInt ≠ 23 := fun e => h23 (Int32.toInt_inj.mp (e.trans (by decide)))
    have n24 : k.toInt ≠ 24 := fun e => h24 (Int32.toInt_inj.mp (e.trans (by decide)))
    have n25 : k.toInt ≠ 25 := fun e => h25 (Int32.toInt_inj.mp (e.trans (by decide)))
    have n26 : k.toInt ≠ 26 := fun e => h26 (Int32.toInt_inj.mp (e.trans (by decide)))
    have n27 : k.toInt ≠ 27 := fun e => h27 (Int32.toInt_inj.mp (e.trans (by decide)))
    have n28 : k.toInt ≠ 28 := fun e => h28 (Int32.toInt_inj.mp (e.trans (by decide)))
    have n29 : k.toInt ≠ 29 := fun e => h29 (Int32.toInt_inj.mp (e.trans (by decide)))
    have n30 : k.toInt ≠ 30 := fun e => h30 (Int32.toInt_inj.mp (e.trans (by decide)))
    have n31 : k.toInt ≠ 31 := fun e => h31 (Int32.toInt_inj.mp (e.trans (by decide)))
    have n32 : k.toInt ≠ 32 := fun e => h32 (Int32.toInt_inj.mp (e.trans (by decide)))
    have n33 : k.toInt ≠ 33 := fun e => h33 (Int32.toInt_inj.mp (e.trans (by decide)))
    have n34 : k.toInt ≠ 34 := fun e => h34 (Int32.toInt_inj.mp (e.trans (by decide)))
    have n35 : k.toInt ≠ 35 := fun e => h35 (Int32.toInt_inj.mp (e.trans (by decide)))
    have n36 : k.toInt ≠ 36 := fun e => h36 (Int32.toInt_inj.mp (e.trans (by decide)))
    have n37 : k.toInt ≠ 37 := fun e => h37 (Int32.toInt_inj.mp (e.trans (by decide)))
    have n38 : k.toInt ≠ 38 := fun e => h38 (Int32.toInt_inj.mp (e.trans (by decide)))
    have n39 : k.toInt ≠ 39 := fun e => h39 (Int32.toInt_inj.mp (e.trans (by decide)))
    have n40 : k.toInt ≠ 40 := fun e => h40 (Int32.toInt_inj.mp (e.trans (by decide)))
    have n41 : k.toInt ≠ 41 := fun e => h41 (Int32.toInt_inj.mp (e.trans (by decide)))
    have n42 : k.toInt ≠ 42 := fun e => h42 (Int32.toInt_inj.mp (e.trans (by decide)))
    have n43 : k.toInt ≠ 43 := fun e => h43 (Int32.toInt_inj.mp (e.trans (by decide)))
    have n44 : k.toInt ≠ 44 := fun e => h44 (Int32.toInt_inj.mp (e.trans (by decide)))
    have n45 : k.toInt ≠ 45 := fun e => h45 (Int32.toInt_inj.mp (e.trans (by decide)))
    have n46 : k.toInt ≠ 46 := fun e => h46 (Int32.toInt_inj.mp (e.trans (by decide)))
    have n47 : k.toInt ≠ 47 := fun e => h47 (Int32.toInt_inj.mp (e.trans (by decide)))
    have n48 : k.toInt ≠ 48 := fun e => h48 (Int32.toInt_inj.mp (e.trans (by decide)))
    have n49 : k.toInt ≠ 49 := fun e => h49 (Int32.toInt_inj.mp (e.trans (by decide)))
    have n50 : k.toInt ≠ 50 := fun e => h50 (Int32.toInt_inj.mp (e.trans (by decide)))
    have n51 : k.toInt ≠ 51 := fun e => h51 (Int32.toInt_inj.mp (e.trans (by decide)))
    have n52 : k.toInt ≠ 52 := fun e => h52 (Int32.toInt_inj.mp (e.trans (by decide)))
    have n53 : k.toInt ≠ 53 := fun e => h53 (Int32.toInt_inj.mp (e.trans (by decide)))
    have n54 : k.toInt ≠ 54 := fun e => h54 (Int32.toInt_inj.mp (e.trans (by decide)))
    have n55 : k.toInt ≠ 55 := fun e => h55 (Int32.toInt_inj.mp (e.trans (by decide)))
    have n56 : k.toInt ≠ 56 := fun e => h56 (Int32.toInt_inj.mp (e.trans (by decide)))
    have n57 : k.toInt ≠ 57 := fun e => h57 (Int32.toInt_inj.mp (e.trans (by decide)))
    have n58 : k.toInt ≠ 58 := fun e => h58 (Int32.toInt_inj.mp (e.trans (by decide)))
    have n59 : k.toInt ≠ 59 := fun e => h59 (Int32.toInt_inj.mp (e.trans (by decide)))
    omega
set_option maxHeartbeats 8000000 in
set_option maxRecDepth 100000 in
theorem w_loop {v : Zl} {G : Gl} (C : Lc v G) (c m : St) : Lw v G 18 [(0, .ref G.2.2.1), (1, .ref (G.1.1 0)), (2, .ref (G.2.1.1 0)), (3, .int 0)] [] c m (law_f G.2.2.2.1 G.2.2.2.2 c m) := by
  unfold law_f
  refine l_lp (fun a : Int32 × St × St => [(0, .ref G.2.2.1), (1, .ref (G.1.1 0)), (2, .ref (G.2.1.1 0)), (3, .int a.1)]) (fun a => a.2.1) (fun a => a.2.2) (fun ih hih a => ?_) 4000 ((0 : Int32), c, m)
  refine l_iload_n (pc' := 19) C 3 dL_18 rfl rfl ?_
  refine l_aload_n (pc' := 20) C 0 dL_19 rfl rfl ?_
  refine l_slen (pc' := 21) C dL_20 rfl ?_
  refine l_iconst (pc' := 22) C dL_21 lo4 rfl ?_
  refine l_isub (pc' := 23) C dL_22 rfl ?_
  refine l_icmp_gt (tgt := 1966) (pc' := 26) C dL_23 rfl rfl ?_ ?_
  · refine l_iconst (pc' := 1967) C dL_1966 ki_1 rfl ?_
    exact l_ret1 C dL_1967
  · refine l_aload_n (pc' := 27) C 0 dL_26 rfl rfl ?_
    refine l_iload_n (pc' := 28) C 3 dL_27 rfl rfl ?_
    refine l_sld (pc' := 29) C dL_28 rfl ?_
    refine l_bipush (pc' := 31) C dL_29 lb63 rfl ?_
    refine l_iand (pc' := 32) C dL_31 rfl ?_
    exact w_sw C ih hih a _
