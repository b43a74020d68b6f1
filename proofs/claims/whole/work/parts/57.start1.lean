/-! what the statement gives of the statics, and of the kinds -/
theorem mt1 {x : Cond} (i : Nat) (h : tables_1_1[i]? = some x) : x ∈ lw_tbl := List.mem_append_right _ (List.mem_append_left _ (List.mem_of_getElem? h))
theorem mt2 {x : Cond} (i : Nat) (h : tables_1_2[i]? = some x) : x ∈ lw_tbl := List.mem_append_right _ (List.mem_append_right _ (List.mem_append_left _ (List.mem_of_getElem? h)))
theorem mt3 {x : Cond} (i : Nat) (h : tables_1_3[i]? = some x) : x ∈ lw_tbl := List.mem_append_right _ (List.mem_append_right _ (List.mem_append_right _ (List.mem_append_left _ (List.mem_of_getElem? h))))
theorem mt4 {x : Cond} (i : Nat) (h : tables_1_4[i]? = some x) : x ∈ lw_tbl := List.mem_append_right _ (List.mem_append_right _ (List.mem_append_right _ (List.mem_append_right _ (List.mem_append_left _ (List.mem_of_getElem? h)))))
theorem mt5 {x : Cond} (i : Nat) (h : tables_1_5[i]? = some x) : x ∈ lw_tbl := List.mem_append_right _ (List.mem_append_right _ (List.mem_append_right _ (List.mem_append_right _ (List.mem_append_right _ (List.mem_append_left _ (List.mem_of_getElem? h))))))
theorem mt6 {x : Cond} (i : Nat) (h : tables_1_6[i]? = some x) : x ∈ lw_tbl := List.mem_append_right _ (List.mem_append_right _ (List.mem_append_right _ (List.mem_append_right _ (List.mem_append_right _ (List.mem_append_right _ (List.mem_append_left _ (List.mem_of_getElem? h)))))))
theorem mt7 {x : Cond} (i : Nat) (h : tables_1_7[i]? = some x) : x ∈ lw_tbl := List.mem_append_right _ (List.mem_append_right _ (List.mem_append_right _ (List.mem_append_right _ (List.mem_append_right _ (List.mem_append_right _ (List.mem_append_right _ (List.mem_append_left _ (List.mem_of_getElem? h))))))))
theorem mt8 {x : Cond} (i : Nat) (h : tables_1_8[i]? = some x) : x ∈ lw_tbl := List.mem_append_right _ (List.mem_append_right _ (List.mem_append_right _ (List.mem_append_right _ (List.mem_append_right _ (List.mem_append_right _ (List.mem_append_right _ (List.mem_append_right _ (List.mem_append_left _ (List.mem_of_getElem? h)))))))))
theorem mt9 {x : Cond} (i : Nat) (h : tables_1_9[i]? = some x) : x ∈ lw_tbl := List.mem_append_right _ (List.mem_append_right _ (List.mem_append_right _ (List.mem_append_right _ (List.mem_append_right _ (List.mem_append_right _ (List.mem_append_right _ (List.mem_append_right _ (List.mem_append_right _ (List.mem_of_getElem? h)))))))))
set_option maxHeartbeats 8000000 in
set_option maxRecDepth 100000 in
theorem st_facts {s : State} {b : Nat} {A : Nat → Prop} (hA : ∀ a : Nat, a < s.heap.size → ¬ A a) (hts : ∀ w ∈ lw_tbl, w.before #[Value.ref b] s = true) (hgv : (Jvm.Cond.and given_1 narrow_1).before #[Value.ref b] s = true) : (∃ (X : Nat → Nat) (F : Option Nat), SFc X F A s s.heap) ∧ NWc s := by
  have hs := flat_of_before _ hgv
  obtain ⟨t0, ht0, hT0⟩ := (va_Tof (tm := (.static "FlightLegs$Compass" "SINES" "[I")) (ty := .int) (N := 24) (f := fun j => .int (SINS.getD j 0)) (A := A) (by decide) (hs _ (by decide +kernel)) (va_eqt (hs _ (by decide +kernel))) (fun j hj => va_eqt (hs _ ((by decide +kernel : ∀ j, j < 24 → Cond.eq (.elem (.static "FlightLegs$Compass" "SINES" "[I") (.int (Int32.ofNat j))) (.int (SINS.getD j 0)) ∈ flatC (Cond.and given_1 narrow_1)) j hj))) hA)
  obtain ⟨t1, ht1, hT1⟩ := (va_Tof (tm := (.static "FlightLegs$Track" "LEADS" "[I")) (ty := .int) (N := 9) (f := fun j => .int (LEDS.getD j 0)) (A := A) (by decide) (hs _ (by decide +kernel)) (va_eqt (hs _ (by decide +kernel))) (fun j hj => va_eqt (hs _ ((by decide +kernel : ∀ j, j < 9 → Cond.eq (.elem (.static "FlightLegs$Track" "LEADS" "[I") (.int (Int32.ofNat j))) (.int (LEDS.getD j 0)) ∈ flatC (Cond.and given_1 narrow_1)) j hj))) hA)
  have z0 := va_Zof (A := A) (hts _ (mt3 158 rfl)) (hts _ (mt1 19 rfl)) ht0 hA
  have z1 := va_Zof (A := A) (hts _ (mt4 0 rfl)) (hts _ (mt1 8 rfl)) ht1 hA
  have z2 := va_Zof (A := A) (hts _ (mt2 233 rfl)) (hts _ (mt1 14 rfl)) (va_eqi (z := 1) (hs (Cond.eq (.static "java/lang/String" "COMPACT_STRINGS" "Z") (.int 1)) (by decide +kernel))) hA
  have z3 := va_Zqof (A := A) (hts _ (mt3 9 rfl)) (hts _ (mt1 16 rfl)) (hs (Cond.isRef (.static "jdk/internal/util/Preconditions" "SIOOBE_FORMATTER" "Ljava/util/function/BiFunction;")) (by decide +kernel)) hA
  obtain ⟨adK, adV, hK, hKe⟩ := vk_Sof (N := 1) (tm := fun _ => (.string "FlightLegs$RouteText" 85)) (len := [16]) (byt := [KNDS]) (A := A) (args := #[Value.ref b]) (s := s) (by decide)
    (fun i hi => hs _ (by decide +kernel)) (fun i hi => hs _ (by decide +kernel)) (fun i hi => hs _ (by decide +kernel))
    (fun i hi => by obtain rfl : i = 0 := by omega
                    exact hs _ (by decide +kernel))
    (fun i hi j hj => by obtain rfl : i = 0 := by omega
                         exact hs _ ((by decide +kernel : ∀ j, j < 16 → Cond.eq (.elem (.field (.string "FlightLegs$RouteText" 85) "java/lang/String" "value" "[B") (.int (Int32.ofNat j))) (.int (KNDS.getD j 0)) ∈ flatC (Cond.and given_1 narrow_1)) j hj))
    (fun i j hi hj hij => by omega) hA
  have hR := vk_R.of (hts _ (mt2 223 rfl)) (hKe 0 (by decide))
  have hK2 : vk_S 1 [16] [KNDS] (fun _ => adK 0) (fun _ => adV 0) A s s.heap := by
    refine ⟨fun i hi => ?_, fun i j hi hj _ => by omega⟩
    have hi0 : i = 0 := by omega
    subst hi0
    exact hK.1 0 hi
  have n1 := va_Nw.of rfl (hts _ (mt3 211 rfl))
  have n2 := va_Nw.of rfl (hts _ (mt3 53 rfl))
  have n3 := va_Nw.of rfl (hts _ (mt1 31 rfl))
  have n4 := va_Nw.of rfl (hts _ (mt2 92 rfl))
  refine ⟨?_, n3, n4⟩
  rcases z3 with z3 | ⟨t3, z3⟩
  · exact ⟨fun k => [t0, t1, adK 0, adV 0].getD k 0, none, z0, hT0, z1, hT1, hR, hK2, z2, z3, n1, n2⟩
  · exact ⟨fun k => [t0, t1, adK 0, adV 0].getD k 0, some t3, z0, hT0, z1, hT1, hR, hK2, z2, z3, n1, n2⟩
theorem st_K {s : State} {b : Nat} (htg : ∀ w ∈ lw_g, w.before #[Value.ref b] s = true) : ∃ (D : va_G) (cI cZ : ClassId), va_K D clA [(cI, .int), (cZ, .boolean)] s := by
  obtain ⟨c0, i0, h0⟩ := u_known (C := Rk0) (T := Tk0) (N := 4) (n := 4) htg ik0 (htg _ lnI_0)
  obtain ⟨c1, i1, h1⟩ := u_known (C := Rk1) (T := Tk1) (N := 6) (n := 6) htg ik1 (htg _ lnI_1)
  obtain ⟨c2, i2, h2⟩ := u_known (C := Rk2) (T := Tk2) (N := 11) (n := 11) htg ik2 (htg _ lnI_2)
  obtain ⟨c3, i3, h3⟩ := u_known (C := Rk3) (T := Tk3) (N := 4) (n := 4) htg ik3 (htg _ lnI_3)
  obtain ⟨c4, i4, h4⟩ := u_known (C := Rk4) (T := Tk4) (N := 3) (n := 3) htg ik4 (htg _ lnI_4)
  obtain ⟨c5, i5, h5⟩ := u_known (C := Rk5) (T := Tk5) (N := 6) (n := 6) htg ik5 (htg _ lnI_5)
  obtain ⟨c6, i6, h6⟩ := u_known (C := Rk6) (T := Tk6) (N := 8) (n := 8) htg ik6 (htg _ lnI_6)
  obtain ⟨c7, i7, h7⟩ := u_known (C := Rk7) (T := Tk7) (N := 11) (n := 11) htg ik7 (htg _ lnI_7)
  obtain ⟨c8, i8, h8⟩ := u_known (C := Rk8) (T := Tk8) (N := 3) (n := 3) htg ik8 (htg _ lnI_8)
  obtain ⟨c9, i9, h9⟩ := u_known (C := Rk9) (T := Tk9) (N := 12) (n := 12) htg ik9 (htg _ lnI_9)
  obtain ⟨c10, i10, h10⟩ := u_known (C := Rk10) (T := Tk10) (N := 11) (n := 11) htg ik10 (htg _ lnI_10)
  obtain ⟨c11, i11, h11⟩ := u_known (C := Rk11) (T := Tk11) (N := 75) (n := 75) htg ik11 (htg _ lnI_11)
  obtain ⟨cI, kI, pI, a1, a2, a3⟩ := Cond.arrayClass_spec (htg _ laI)
  obtain ⟨cZ, kZ, pZ, b1, b2, b3⟩ := Cond.arrayClass_spec (htg _ laZ)
  refine ⟨(fun k => [c0, c1, c2, c3, c4, c5, c6, c7, c8, c9, c10, c11].getD k c0, fun k => [i0, i1, i2, i3, i4, i5, i6, i7, i8, i9, i10, i11].getD k i0), cI, cZ, fun k q hq => ?_, fun k q hk => ?_⟩
  · match k, hq with
    | 0, hq => cases hq; exact h0
    | 1, hq => cases hq; exact h1
    | 2, hq => cases hq; exact h2
    | 3, hq => cases hq; exact h3
    | 4, hq => cases hq; exact h4
    | 5, hq => cases hq; exact h5
    | 6, hq => cases hq; exact h6
    | 7, hq => cases hq; exact h7
    | 8, hq => cases hq; exact h8
    | 9, hq => cases hq; exact h9
    | 10, hq => cases hq; exact h10
    | 11, hq => cases hq; exact h11
    | k + 12, hq => simp [clA] at hq
  · match k, hk with
    | 0, hk => cases hk; exact ⟨fun n z => ⟨fun k h => (by cases h), kI, a2, pI, a3⟩, a1⟩
    | 1, hk => cases hk; exact ⟨fun n z => ⟨fun k h => (by cases h), kZ, b2, pZ, b3⟩, b1⟩
    | k + 2, hk => simp at hk
