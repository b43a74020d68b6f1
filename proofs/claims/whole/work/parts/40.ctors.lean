/-! constructors: their worlds are explicit lists -/
abbrev v0 : Value := .int 0
abbrev aI (g : Ge) (n : Nat) : va_E := .inl (g.2.1.1, n, .inl (fun _ => 0))
abbrev aZ (g : Ge) (n : Nat) : va_E := .inl (g.2.1.2, n, .inl (fun _ => 0))
def NWc (U : State) : Prop := va_Nw (.methodLinkNest "FlightLegs" 9 ⟨"FlightLegs$Settings", "<init>", "()V"⟩ "FlightLegs") U ∧ va_Nw (.methodLinkNest "FlightLegs" 57 ⟨"FlightLegs$History", "<init>", "()V"⟩ "FlightLegs") U
def Pk (nb : Bool) (g : Ge) (av : List Value) (sz : Nat) (ws : va_W) : Array Value → State → Prop := va_Pc av (fun U => U.heap.size = sz ∧ va_P g.2.2.1 clA ws U.heap ∧ va_K g.2.2.1 clA (tys0 g) U ∧ va_D (fun _ => True) ws ∧ (nb = true → NWc U))
abbrev Qk (g : Ge) (A : Nat → Prop) (post : va_W → Prop) : Array Value → State → Outcome → State → Prop := va_Qv post (fun ws9 t => va_P g.2.2.1 clA ws9 t.heap ∧ va_K g.2.2.1 clA (tys0 g) t ∧ va_D A ws9) A
theorem Pk_blind (nb : Bool) (g : Ge) (av : List Value) (sz : Nat) (ws : va_W) : FrameBlind (Pk nb g av sz ws) := fun a U _ mk h => ⟨h.1, h.2.1, h.2.2.1, va_K.moved (u := U) (U := U.calling _ mk a) (Vm.Alike.refl U.vm) h.2.2.2.1, h.2.2.2.2.1, fun q => ⟨(h.2.2.2.2.2 q).1.same (u := U) (U := U.calling _ mk a) rfl rfl, (h.2.2.2.2.2 q).2.same (u := U) (U := U.calling _ mk a) rfl rfl⟩⟩
theorem laI : Cond.arrayClass .int ∈ lw_g := mg1 57 rfl rfl
theorem laZ : Cond.arrayClass .boolean ∈ lw_g := mg7 41 rfl rfl
section NA
variable {p : Program} {l : Launch} {e : Env} {R : Room} {s : State} {m : MethodId} {args : Array Value} {below : List Frame} {meth : Method} {c : Code} {H : Heap} {locs : List Loc} {cells slots : Nat} {Q : State → Prop}
variable {cc : ByteArray} {pc : Nat} {ls : Array Slot} {rest : List Value} {A : Nat → Prop} {ws : va_W} {H0 : Heap} {g : Ge}
theorem na_I (hx : p.tables.exec = Jvm.exec) (hb : c.code = cc) (hts : ∀ x ∈ lw_g, x.before args s = true) (hK : va_K g.2.2.1 clA (tys0 g) s) (hP : va_P g.2.2.1 clA ws H) (hD : va_D A ws) (hS : va_S A H0 H locs) (hA : ∀ q, H0.size ≤ q → A q)
    {n : Int32} {N : Nat} (hn : ¬ n < 0) (hN : n.toNatClampNeg = N) (hby : N * 4 ≤ 536870912) (hc : cells + 1 ≤ R.cells) (hs : slots + N ≤ R.slots) (hd : decode cc pc = .ok (.newarray .int, 2))
    (kk : ∀ (q : Nat) (H1 : Heap), va_P g.2.2.1 clA (ws ++ [(q, .inl (g.2.1.1, N, .inl (fun _ => 0)))]) H1 → va_D A (ws ++ [(q, .inl (g.2.1.1, N, .inl (fun _ => 0)))]) → va_S A H0 H1 locs → W p l e R s m args below meth c H1 locs (cells + 1) (slots + N) Q (F0 m (pc + 2) ls (.ref q :: rest))) : W p l e R s m args below meth c H locs cells slots Q (F0 m pc ls (.int n :: rest)) := by
  refine va_newa (D := g.2.2.1) (atype := .int) (ty := .int) (a0 := (N, .inl (fun _ => 0))) hx hb (hts _ laI) rfl hK hP hD hS hA (fun _ => rfl) hn hN hby hc hs hd (fun q cA H1 hK1 hP1 hD1 hS1 => ?_)
  have e1 : s.vm.findClass ("[" ++ FieldType.int.toString) = some cA := (hK1.2 2 _ rfl).2
  have e2 : s.vm.findClass ("[" ++ FieldType.int.toString) = some g.2.1.1 := (hK.2 0 _ rfl).2
  have e3 : cA = g.2.1.1 := Option.some.inj (e1.symm.trans e2)
  subst e3
  exact kk q H1 hP1 hD1 hS1
theorem na_Z (hx : p.tables.exec = Jvm.exec) (hb : c.code = cc) (hts : ∀ x ∈ lw_g, x.before args s = true) (hK : va_K g.2.2.1 clA (tys0 g) s) (hP : va_P g.2.2.1 clA ws H) (hD : va_D A ws) (hS : va_S A H0 H locs) (hA : ∀ q, H0.size ≤ q → A q)
    {n : Int32} {N : Nat} (hn : ¬ n < 0) (hN : n.toNatClampNeg = N) (hby : N * 1 ≤ 536870912) (hc : cells + 1 ≤ R.cells) (hs : slots + N ≤ R.slots) (hd : decode cc pc = .ok (.newarray .boolean, 2))
    (kk : ∀ (q : Nat) (H1 : Heap), va_P g.2.2.1 clA (ws ++ [(q, .inl (g.2.1.2, N, .inl (fun _ => 0)))]) H1 → va_D A (ws ++ [(q, .inl (g.2.1.2, N, .inl (fun _ => 0)))]) → va_S A H0 H1 locs → W p l e R s m args below meth c H1 locs (cells + 1) (slots + N) Q (F0 m (pc + 2) ls (.ref q :: rest))) : W p l e R s m args below meth c H locs cells slots Q (F0 m pc ls (.int n :: rest)) := by
  refine va_newa (D := g.2.2.1) (atype := .boolean) (ty := .boolean) (a0 := (N, .inl (fun _ => 0))) hx hb (hts _ laZ) rfl hK hP hD hS hA (fun _ => rfl) hn hN hby hc hs hd (fun q cA H1 hK1 hP1 hD1 hS1 => ?_)
  have e1 : s.vm.findClass ("[" ++ FieldType.boolean.toString) = some cA := (hK1.2 2 _ rfl).2
  have e2 : s.vm.findClass ("[" ++ FieldType.boolean.toString) = some g.2.1.2 := (hK.2 1 _ rfl).2
  have e3 : cA = g.2.1.2 := Option.some.inj (e1.symm.trans e2)
  subst e3
  exact kk q H1 hP1 hD1 hS1
end NA
theorem loi : Cond.instanceMethod objectInit ∈ lw_g := mg1 27 rfl rfl
theorem loc : Cond.code objectInit ⟨#[0xb1]⟩ 1 none ∈ lw_g := mg1 28 rfl rfl
theorem dv_0 : ∀ j, j < 4 → defaultValue (ty0 j) = vp_V [.null, .null, .int 0, .int 0] j := by decide +kernel
theorem lnI_0 : Cond.instantiable Rk0 4 ∈ lw_g := mg2 91 rfl rfl
theorem dv_1 : ∀ j, j < 6 → defaultValue (ty1 j) = vp_V [.null, .null, .null, .null, .null, .int 0] j := by decide +kernel
theorem lnI_1 : Cond.instantiable Rk1 6 ∈ lw_g := mg1 187 rfl rfl
theorem dv_2 : ∀ j, j < 11 → defaultValue (ty2 j) = vp_V [.null, .null, .null, .null, .null, .int 0, .int 0, .int 0, .int 0, .int 0, .int 0] j := by decide +kernel
theorem lnI_2 : Cond.instantiable Rk2 11 ∈ lw_g := mg2 4 rfl rfl
theorem dv_3 : ∀ j, j < 4 → defaultValue (ty3 j) = vp_V [.null, .int 0, .int 0, .int 0] j := by decide +kernel
theorem lnI_3 : Cond.instantiable Rk3 4 ∈ lw_g := mg1 150 rfl rfl
theorem dv_4 : ∀ j, j < 3 → defaultValue (ty4 j) = vp_V [.null, .null, .null] j := by decide +kernel
theorem lnI_4 : Cond.instantiable Rk4 3 ∈ lw_g := mg2 50 rfl rfl
theorem dv_5 : ∀ j, j < 6 → defaultValue (ty5 j) = vp_V [.null, .null, .int 0, .int 0, .int 0, .int 0] j := by decide +kernel
theorem lnI_5 : Cond.instantiable Rk5 6 ∈ lw_g := mg2 113 rfl rfl
theorem dv_6 : ∀ j, j < 8 → defaultValue (ty6 j) = vp_V [.null, .null, .null, .int 0, .int 0, .int 0, .int 0, .int 0] j := by decide +kernel
theorem lnI_6 : Cond.instantiable Rk6 8 ∈ lw_g := mg1 114 rfl rfl
theorem dv_7 : ∀ j, j < 11 → defaultValue (ty7 j) = vp_V [.null, .int 0, .int 0, .int 0, .int 0, .int 0, .int 0, .int 0, .int 0, .int 0, .int 0] j := by decide +kernel
theorem lnI_7 : Cond.instantiable Rk7 11 ∈ lw_g := mg1 30 rfl rfl
theorem dv_8 : ∀ j, j < 3 → defaultValue (ty8 j) = vp_V [.int 0, .int 0, .null] j := by decide +kernel
theorem lnI_8 : Cond.instantiable Rk8 3 ∈ lw_g := mg1 36 rfl rfl
theorem dv_9 : ∀ j, j < 12 → defaultValue (ty9 j) = vp_V [.null, .null, .null, .null, .int 0, .int 0, .int 0, .int 0, .int 0, .int 0, .int 0, .int 0] j := by decide +kernel
theorem lnI_9 : Cond.instantiable Rk9 12 ∈ lw_g := mg1 195 rfl rfl
theorem dv_10 : ∀ j, j < 11 → defaultValue (ty10 j) = vp_V [.null, .null, .null, .null, .null, .null, .null, .null, .null, .null, .int 0] j := by decide +kernel
theorem lnI_10 : Cond.instantiable Rk10 11 ∈ lw_g := mg1 22 rfl rfl
theorem dv_11 : ∀ j, j < 75 → defaultValue (ty11 j) = vp_V [.null, .int 0, .int 0, .null, .int 0, .null, .null, .int 0, .int 0, .int 0, .int 0, .int 0, .int 0, .int 0, .int 0, .int 0, .int 0, .null, .null, .null, .null, .null, .null, .null, .null, .null, .null, .null, .null, .null, .int 0, .int 0, .int 0, .int 0, .int 0, .null, .null, .null, .null, .null, .null, .int 0, .int 0, .int 0, .null, .null, .null, .null, .null, .null, .null, .null, .null, .null, .null, .null, .null, .int 0, .int 0, .int 0, .null, .null, .null, .null, .int 0, .int 0, .int 0, .null, .int 0, .int 0, .int 0, .null, .null, .int 0, .int 0] j := by decide +kernel
theorem lnI_11 : Cond.instantiable Rk11 75 ∈ lw_g := mg6 50 rfl rfl
theorem lj_max_Tb_13 : Lmx Rk8 13 := ⟨mg1 44 rfl rfl, mg1 45 rfl rfl, mg1 4 rfl rfl, mg1 46 rfl rfl⟩
theorem lj_min_Tb_7 : Lmn Rk8 7 := ⟨mg1 41 rfl rfl, mg1 42 rfl rfl, mg1 4 rfl rfl, mg1 43 rfl rfl⟩
theorem lfI_FL_10 : Cond.fieldLink Rk10 10 (Tk10 0).1 (Tk10 0).2.1 (Tk10 0).2.2.1 ∈ lw_g := mg2 141 rfl rfl
theorem lfI_FL_21 : Cond.fieldLink Rk10 21 (Tk10 1).1 (Tk10 1).2.1 (Tk10 1).2.2.1 ∈ lw_g := mg2 142 rfl rfl
theorem lfI_FL_30 : Cond.fieldLink Rk10 30 (Tk10 2).1 (Tk10 2).2.1 (Tk10 2).2.2.1 ∈ lw_g := mg2 143 rfl rfl
theorem lfI_FL_34 : Cond.fieldLink Rk10 34 (Tk10 3).1 (Tk10 3).2.1 (Tk10 3).2.2.1 ∈ lw_g := mg2 144 rfl rfl
theorem lfI_FL_37 : Cond.fieldLink Rk10 37 (Tk10 4).1 (Tk10 4).2.1 (Tk10 4).2.2.1 ∈ lw_g := mg2 145 rfl rfl
theorem lfI_FL_45 : Cond.fieldLink Rk10 45 (Tk10 5).1 (Tk10 5).2.1 (Tk10 5).2.2.1 ∈ lw_g := mg2 146 rfl rfl
theorem lfI_FL_49 : Cond.fieldLink Rk10 49 (Tk10 6).1 (Tk10 6).2.1 (Tk10 6).2.2.1 ∈ lw_g := mg2 147 rfl rfl
theorem lfI_FL_52 : Cond.fieldLink Rk10 52 (Tk10 7).1 (Tk10 7).2.1 (Tk10 7).2.2.1 ∈ lw_g := mg2 148 rfl rfl
theorem lfI_FL_58 : Cond.fieldLink Rk10 58 (Tk10 8).1 (Tk10 8).2.1 (Tk10 8).2.2.1 ∈ lw_g := mg2 149 rfl rfl
theorem lfI_FL_67 : Cond.fieldLink Rk10 67 (Tk10 9).1 (Tk10 9).2.1 (Tk10 9).2.2.1 ∈ lw_g := mg2 150 rfl rfl
theorem lfI_FL_71 : Cond.fieldLink Rk10 71 (Tk10 10).1 (Tk10 10).2.1 (Tk10 10).2.2.1 ∈ lw_g := mg2 151 rfl rfl
theorem lfI_Hi_16 : Cond.fieldLink Rk0 16 (Tk0 0).1 (Tk0 0).2.1 (Tk0 0).2.2.1 ∈ lw_g := mg2 98 rfl rfl
theorem lfI_Hi_22 : Cond.fieldLink Rk0 22 (Tk0 1).1 (Tk0 1).2.1 (Tk0 1).2.2.1 ∈ lw_g := mg2 99 rfl rfl
theorem lfI_Hi_25 : Cond.fieldLink Rk0 25 (Tk0 2).1 (Tk0 2).2.1 (Tk0 2).2.2.1 ∈ lw_g := mg2 100 rfl rfl
theorem lfI_Hi_29 : Cond.fieldLink Rk0 29 (Tk0 3).1 (Tk0 3).2.1 (Tk0 3).2.2.1 ∈ lw_g := mg2 101 rfl rfl
theorem lfI_Pa_9 : Cond.fieldLink Rk1 9 (Tk1 5).1 (Tk1 5).2.1 (Tk1 5).2.2.1 ∈ lw_g := mg2 75 rfl rfl
theorem lfI_Pa_15 : Cond.fieldLink Rk1 15 (Tk1 0).1 (Tk1 0).2.1 (Tk1 0).2.2.1 ∈ lw_g := mg2 65 rfl rfl
theorem lfI_Pa_24 : Cond.fieldLink Rk1 24 (Tk1 1).1 (Tk1 1).2.1 (Tk1 1).2.2.1 ∈ lw_g := mg2 66 rfl rfl
theorem lfI_Pa_33 : Cond.fieldLink Rk1 33 (Tk1 2).1 (Tk1 2).2.1 (Tk1 2).2.2.1 ∈ lw_g := mg2 69 rfl rfl
theorem lfI_Pa_42 : Cond.fieldLink Rk1 42 (Tk1 3).1 (Tk1 3).2.1 (Tk1 3).2.2.1 ∈ lw_g := mg2 70 rfl rfl
theorem lfI_Pa_51 : Cond.fieldLink Rk1 51 (Tk1 4).1 (Tk1 4).2.1 (Tk1 4).2.2.1 ∈ lw_g := mg2 73 rfl rfl
theorem lfI_Pc_9 : Cond.fieldLink Rk2 9 (Tk2 5).1 (Tk2 5).2.1 (Tk2 5).2.2.1 ∈ lw_g := mg2 18 rfl rfl
theorem lfI_Pc_15 : Cond.fieldLink Rk2 15 (Tk2 6).1 (Tk2 6).2.1 (Tk2 6).2.2.1 ∈ lw_g := mg2 21 rfl rfl
theorem lfI_Pc_18 : Cond.fieldLink Rk2 18 (Tk2 7).1 (Tk2 7).2.1 (Tk2 7).2.2.1 ∈ lw_g := mg2 22 rfl rfl
theorem lfI_Pc_21 : Cond.fieldLink Rk2 21 (Tk2 8).1 (Tk2 8).2.1 (Tk2 8).2.2.1 ∈ lw_g := mg2 23 rfl rfl
theorem lfI_Pc_24 : Cond.fieldLink Rk2 24 (Tk2 9).1 (Tk2 9).2.1 (Tk2 9).2.2.1 ∈ lw_g := mg2 24 rfl rfl
theorem lfI_Pc_27 : Cond.fieldLink Rk2 27 (Tk2 10).1 (Tk2 10).2.1 (Tk2 10).2.2.1 ∈ lw_g := mg2 25 rfl rfl
theorem lfI_Pc_30 : Cond.fieldLink Rk2 30 (Tk2 0).1 (Tk2 0).2.1 (Tk2 0).2.2.1 ∈ lw_g := mg2 11 rfl rfl
theorem lfI_Pc_34 : Cond.fieldLink Rk2 34 (Tk2 1).1 (Tk2 1).2.1 (Tk2 1).2.2.1 ∈ lw_g := mg2 12 rfl rfl
theorem lfI_Pc_38 : Cond.fieldLink Rk2 38 (Tk9 2).1 (Tk9 2).2.1 (Tk9 2).2.2.1 ∈ lw_g := mg1 204 rfl rfl
theorem lfI_Pc_44 : Cond.fieldLink Rk2 44 (Tk2 2).1 (Tk2 2).2.1 (Tk2 2).2.2.1 ∈ lw_g := mg2 13 rfl rfl
theorem lfI_Pc_45 : Cond.fieldLink Rk2 45 (Tk9 3).1 (Tk9 3).2.1 (Tk9 3).2.2.1 ∈ lw_g := mg1 206 rfl rfl
theorem lfI_Pc_48 : Cond.fieldLink Rk2 48 (Tk2 3).1 (Tk2 3).2.1 (Tk2 3).2.2.1 ∈ lw_g := mg2 14 rfl rfl
theorem lfI_Pc_54 : Cond.fieldLink Rk2 54 (Tk2 4).1 (Tk2 4).2.1 (Tk2 4).2.2.1 ∈ lw_g := mg2 15 rfl rfl
theorem lfI_Pl_9 : Cond.fieldLink Rk3 9 (Tk3 1).1 (Tk3 1).2.1 (Tk3 1).2.2.1 ∈ lw_g := mg1 164 rfl rfl
theorem lfI_Pl_15 : Cond.fieldLink Rk3 15 (Tk3 2).1 (Tk3 2).2.1 (Tk3 2).2.2.1 ∈ lw_g := mg1 170 rfl rfl
theorem lfI_Pl_18 : Cond.fieldLink Rk3 18 (Tk3 3).1 (Tk3 3).2.1 (Tk3 3).2.2.1 ∈ lw_g := mg1 174 rfl rfl
theorem lfI_Pl_27 : Cond.fieldLink Rk3 27 (Tk3 0).1 (Tk3 0).2.1 (Tk3 0).2.2.1 ∈ lw_g := mg1 157 rfl rfl
theorem lfI_Pf_9 : Cond.fieldLink Rk4 9 (Tk4 0).1 (Tk4 0).2.1 (Tk4 0).2.2.1 ∈ lw_g := mg2 55 rfl rfl
theorem lfI_Pf_15 : Cond.fieldLink Rk4 15 (Tk4 1).1 (Tk4 1).2.1 (Tk4 1).2.2.1 ∈ lw_g := mg2 56 rfl rfl
theorem lfI_Pf_19 : Cond.fieldLink Rk4 19 (Tk4 2).1 (Tk4 2).2.1 (Tk4 2).2.2.1 ∈ lw_g := mg2 57 rfl rfl
theorem lfI_Pg_9 : Cond.fieldLink Rk5 9 (Tk5 2).1 (Tk5 2).2.1 (Tk5 2).2.2.1 ∈ lw_g := mg2 120 rfl rfl
theorem lfI_Pg_15 : Cond.fieldLink Rk5 15 (Tk5 3).1 (Tk5 3).2.1 (Tk5 3).2.2.1 ∈ lw_g := mg2 122 rfl rfl
theorem lfI_Pg_18 : Cond.fieldLink Rk5 18 (Tk5 4).1 (Tk5 4).2.1 (Tk5 4).2.2.1 ∈ lw_g := mg2 124 rfl rfl
theorem lfI_Pg_21 : Cond.fieldLink Rk5 21 (Tk5 5).1 (Tk5 5).2.1 (Tk5 5).2.2.1 ∈ lw_g := mg2 126 rfl rfl
theorem lfI_Pg_24 : Cond.fieldLink Rk5 24 (Tk5 0).1 (Tk5 0).2.1 (Tk5 0).2.2.1 ∈ lw_g := mg2 118 rfl rfl
theorem lfI_Pg_28 : Cond.fieldLink Rk5 28 (Tk5 1).1 (Tk5 1).2.1 (Tk5 1).2.2.1 ∈ lw_g := mg2 119 rfl rfl
theorem lfI_Rx_9 : Cond.fieldLink Rk6 9 (Tk6 1).1 (Tk6 1).2.1 (Tk6 1).2.2.1 ∈ lw_g := mg1 122 rfl rfl
theorem lfI_Rx_22 : Cond.fieldLink Rk6 22 (Tk6 2).1 (Tk6 2).2.1 (Tk6 2).2.2.1 ∈ lw_g := mg1 123 rfl rfl
theorem lfI_Rx_26 : Cond.fieldLink Rk6 26 (Tk6 3).1 (Tk6 3).2.1 (Tk6 3).2.2.1 ∈ lw_g := mg1 125 rfl rfl
theorem lfI_Rx_30 : Cond.fieldLink Rk6 30 (Tk6 4).1 (Tk6 4).2.1 (Tk6 4).2.2.1 ∈ lw_g := mg1 127 rfl rfl
theorem lfI_Rx_33 : Cond.fieldLink Rk6 33 (Tk6 5).1 (Tk6 5).2.1 (Tk6 5).2.2.1 ∈ lw_g := mg1 129 rfl rfl
theorem lfI_Rx_36 : Cond.fieldLink Rk6 36 (Tk6 6).1 (Tk6 6).2.1 (Tk6 6).2.2.1 ∈ lw_g := mg1 130 rfl rfl
theorem lfI_Rx_39 : Cond.fieldLink Rk6 39 (Tk6 7).1 (Tk6 7).2.1 (Tk6 7).2.2.1 ∈ lw_g := mg1 131 rfl rfl
theorem lfI_Rx_42 : Cond.fieldLink Rk6 42 (Tk6 0).1 (Tk6 0).2.1 (Tk6 0).2.2.1 ∈ lw_g := mg1 121 rfl rfl
theorem lfI_Sg_14 : Cond.fieldLink Rk7 14 (Tk7 0).1 (Tk7 0).2.1 (Tk7 0).2.2.1 ∈ lw_g := mg1 58 rfl rfl
theorem lfI_Sg_20 : Cond.fieldLink Rk7 20 (Tk7 1).1 (Tk7 1).2.1 (Tk7 1).2.2.1 ∈ lw_g := mg1 61 rfl rfl
theorem lfI_Sg_24 : Cond.fieldLink Rk7 24 (Tk7 2).1 (Tk7 2).2.1 (Tk7 2).2.2.1 ∈ lw_g := mg1 64 rfl rfl
theorem lfI_Sg_27 : Cond.fieldLink Rk7 27 (Tk7 3).1 (Tk7 3).2.1 (Tk7 3).2.2.1 ∈ lw_g := mg1 66 rfl rfl
theorem lfI_Sg_30 : Cond.fieldLink Rk7 30 (Tk7 4).1 (Tk7 4).2.1 (Tk7 4).2.2.1 ∈ lw_g := mg1 68 rfl rfl
theorem lfI_Sg_33 : Cond.fieldLink Rk7 33 (Tk7 5).1 (Tk7 5).2.1 (Tk7 5).2.2.1 ∈ lw_g := mg1 71 rfl rfl
theorem lfI_Sg_36 : Cond.fieldLink Rk7 36 (Tk7 6).1 (Tk7 6).2.1 (Tk7 6).2.2.1 ∈ lw_g := mg1 73 rfl rfl
theorem lfI_Sg_39 : Cond.fieldLink Rk7 39 (Tk7 7).1 (Tk7 7).2.1 (Tk7 7).2.2.1 ∈ lw_g := mg1 77 rfl rfl
theorem lfI_Sg_42 : Cond.fieldLink Rk7 42 (Tk7 8).1 (Tk7 8).2.1 (Tk7 8).2.2.1 ∈ lw_g := mg1 80 rfl rfl
theorem lfI_Sg_45 : Cond.fieldLink Rk7 45 (Tk7 9).1 (Tk7 9).2.1 (Tk7 9).2.2.1 ∈ lw_g := mg1 83 rfl rfl
theorem lfI_Sg_48 : Cond.fieldLink Rk7 48 (Tk7 10).1 (Tk7 10).2.1 (Tk7 10).2.2.1 ∈ lw_g := mg1 87 rfl rfl
theorem lfI_Tb_16 : Cond.fieldLink Rk8 16 (Tk8 0).1 (Tk8 0).2.1 (Tk8 0).2.2.1 ∈ lw_g := mg1 47 rfl rfl
theorem lfI_Tb_22 : Cond.fieldLink Rk8 22 (Tk8 1).1 (Tk8 1).2.1 (Tk8 1).2.2.1 ∈ lw_g := mg1 48 rfl rfl
theorem lfI_Tb_25 : Cond.fieldLink Rk8 25 (Tk8 2).1 (Tk8 2).2.1 (Tk8 2).2.2.1 ∈ lw_g := mg1 49 rfl rfl
theorem lfI_Tk_9 : Cond.fieldLink Rk9 9 (Tk9 4).1 (Tk9 4).2.1 (Tk9 4).2.2.1 ∈ lw_g := mg1 209 rfl rfl
theorem lfI_Tk_15 : Cond.fieldLink Rk9 15 (Tk9 5).1 (Tk9 5).2.1 (Tk9 5).2.2.1 ∈ lw_g := mg1 211 rfl rfl
theorem lfI_Tk_18 : Cond.fieldLink Rk9 18 (Tk9 6).1 (Tk9 6).2.1 (Tk9 6).2.2.1 ∈ lw_g := mg1 212 rfl rfl
theorem lfI_Tk_21 : Cond.fieldLink Rk9 21 (Tk9 7).1 (Tk9 7).2.1 (Tk9 7).2.2.1 ∈ lw_g := mg1 213 rfl rfl
theorem lfI_Tk_24 : Cond.fieldLink Rk9 24 (Tk9 8).1 (Tk9 8).2.1 (Tk9 8).2.2.1 ∈ lw_g := mg1 214 rfl rfl
theorem lfI_Tk_27 : Cond.fieldLink Rk9 27 (Tk9 9).1 (Tk9 9).2.1 (Tk9 9).2.2.1 ∈ lw_g := mg1 215 rfl rfl
theorem lfI_Tk_30 : Cond.fieldLink Rk9 30 (Tk9 10).1 (Tk9 10).2.1 (Tk9 10).2.2.1 ∈ lw_g := mg1 216 rfl rfl
theorem lfI_Tk_34 : Cond.fieldLink Rk9 34 (Tk9 11).1 (Tk9 11).2.1 (Tk9 11).2.2.1 ∈ lw_g := mg1 217 rfl rfl
theorem lfI_Tk_37 : Cond.fieldLink Rk9 37 (Tk9 0).1 (Tk9 0).2.1 (Tk9 0).2.2.1 ∈ lw_g := mg1 202 rfl rfl
theorem lfI_Tk_41 : Cond.fieldLink Rk9 41 (Tk9 1).1 (Tk9 1).2.1 (Tk9 1).2.2.1 ∈ lw_g := mg1 203 rfl rfl
theorem lfI_Tk_45 : Cond.fieldLink Rk9 45 (Tk9 2).1 (Tk9 2).2.1 (Tk9 2).2.2.1 ∈ lw_g := mg1 205 rfl rfl
theorem lfI_Tk_54 : Cond.fieldLink Rk9 54 (Tk9 3).1 (Tk9 3).2.1 (Tk9 3).2.2.1 ∈ lw_g := mg1 207 rfl rfl
theorem lfI_M_7 : Cond.fieldLink Rk11 7 (Tk11 0).1 (Tk11 0).2.1 (Tk11 0).2.2.1 ∈ lw_g := mg6 55 rfl rfl
theorem lfI_M_13 : Cond.fieldLink Rk11 13 (Tk11 3).1 (Tk11 3).2.1 (Tk11 3).2.2.1 ∈ lw_g := mg6 58 rfl rfl
theorem lfI_M_17 : Cond.fieldLink Rk11 17 (Tk11 5).1 (Tk11 5).2.1 (Tk11 5).2.2.1 ∈ lw_g := mg6 60 rfl rfl
theorem lfI_M_20 : Cond.fieldLink Rk11 20 (Tk11 6).1 (Tk11 6).2.1 (Tk11 6).2.2.1 ∈ lw_g := mg6 61 rfl rfl
theorem lfI_M_23 : Cond.fieldLink Rk11 23 (Tk11 10).1 (Tk11 10).2.1 (Tk11 10).2.2.1 ∈ lw_g := mg6 65 rfl rfl
theorem lfI_M_27 : Cond.fieldLink Rk11 27 (Tk11 11).1 (Tk11 11).2.1 (Tk11 11).2.2.1 ∈ lw_g := mg6 66 rfl rfl
theorem lfI_M_30 : Cond.fieldLink Rk11 30 (Tk11 12).1 (Tk11 12).2.1 (Tk11 12).2.2.1 ∈ lw_g := mg6 67 rfl rfl
theorem lfI_M_33 : Cond.fieldLink Rk11 33 (Tk11 13).1 (Tk11 13).2.1 (Tk11 13).2.2.1 ∈ lw_g := mg6 68 rfl rfl
theorem lfI_M_36 : Cond.fieldLink Rk11 36 (Tk11 14).1 (Tk11 14).2.1 (Tk11 14).2.2.1 ∈ lw_g := mg6 69 rfl rfl
theorem lfI_M_39 : Cond.fieldLink Rk11 39 (Tk11 17).1 (Tk11 17).2.1 (Tk11 17).2.2.1 ∈ lw_g := mg6 72 rfl rfl
theorem lfI_M_42 : Cond.fieldLink Rk11 42 (Tk11 18).1 (Tk11 18).2.1 (Tk11 18).2.2.1 ∈ lw_g := mg6 73 rfl rfl
theorem lfI_M_45 : Cond.fieldLink Rk11 45 (Tk11 19).1 (Tk11 19).2.1 (Tk11 19).2.2.1 ∈ lw_g := mg6 74 rfl rfl
theorem lfI_M_48 : Cond.fieldLink Rk11 48 (Tk11 20).1 (Tk11 20).2.1 (Tk11 20).2.2.1 ∈ lw_g := mg6 75 rfl rfl
theorem lfI_M_51 : Cond.fieldLink Rk11 51 (Tk11 21).1 (Tk11 21).2.1 (Tk11 21).2.2.1 ∈ lw_g := mg6 76 rfl rfl
theorem lfI_M_54 : Cond.fieldLink Rk11 54 (Tk11 22).1 (Tk11 22).2.1 (Tk11 22).2.2.1 ∈ lw_g := mg6 77 rfl rfl
theorem lfI_M_57 : Cond.fieldLink Rk11 57 (Tk11 23).1 (Tk11 23).2.1 (Tk11 23).2.2.1 ∈ lw_g := mg6 78 rfl rfl
theorem lfI_M_60 : Cond.fieldLink Rk11 60 (Tk11 24).1 (Tk11 24).2.1 (Tk11 24).2.2.1 ∈ lw_g := mg6 79 rfl rfl
theorem lfI_M_63 : Cond.fieldLink Rk11 63 (Tk11 25).1 (Tk11 25).2.1 (Tk11 25).2.2.1 ∈ lw_g := mg6 80 rfl rfl
theorem lfI_M_66 : Cond.fieldLink Rk11 66 (Tk11 26).1 (Tk11 26).2.1 (Tk11 26).2.2.1 ∈ lw_g := mg6 81 rfl rfl
theorem lfI_M_69 : Cond.fieldLink Rk11 69 (Tk11 27).1 (Tk11 27).2.1 (Tk11 27).2.2.1 ∈ lw_g := mg6 82 rfl rfl
theorem lfI_M_72 : Cond.fieldLink Rk11 72 (Tk11 28).1 (Tk11 28).2.1 (Tk11 28).2.2.1 ∈ lw_g := mg6 83 rfl rfl
theorem lfI_M_75 : Cond.fieldLink Rk11 75 (Tk11 29).1 (Tk11 29).2.1 (Tk11 29).2.2.1 ∈ lw_g := mg6 84 rfl rfl
theorem lfI_M_78 : Cond.fieldLink Rk11 78 (Tk11 35).1 (Tk11 35).2.1 (Tk11 35).2.2.1 ∈ lw_g := mg6 90 rfl rfl
theorem lfI_M_81 : Cond.fieldLink Rk11 81 (Tk11 36).1 (Tk11 36).2.1 (Tk11 36).2.2.1 ∈ lw_g := mg6 91 rfl rfl
theorem lfI_M_84 : Cond.fieldLink Rk11 84 (Tk11 37).1 (Tk11 37).2.1 (Tk11 37).2.2.1 ∈ lw_g := mg6 92 rfl rfl
theorem lfI_M_87 : Cond.fieldLink Rk11 87 (Tk11 38).1 (Tk11 38).2.1 (Tk11 38).2.2.1 ∈ lw_g := mg6 93 rfl rfl
theorem lfI_M_90 : Cond.fieldLink Rk11 90 (Tk11 39).1 (Tk11 39).2.1 (Tk11 39).2.2.1 ∈ lw_g := mg6 94 rfl rfl
theorem lfI_M_93 : Cond.fieldLink Rk11 93 (Tk11 40).1 (Tk11 40).2.1 (Tk11 40).2.2.1 ∈ lw_g := mg6 95 rfl rfl
theorem lfI_M_96 : Cond.fieldLink Rk11 96 (Tk11 44).1 (Tk11 44).2.1 (Tk11 44).2.2.1 ∈ lw_g := mg6 99 rfl rfl
theorem lfI_M_99 : Cond.fieldLink Rk11 99 (Tk11 45).1 (Tk11 45).2.1 (Tk11 45).2.2.1 ∈ lw_g := mg6 100 rfl rfl
theorem lfI_M_102 : Cond.fieldLink Rk11 102 (Tk11 46).1 (Tk11 46).2.1 (Tk11 46).2.2.1 ∈ lw_g := mg6 101 rfl rfl
theorem lfI_M_105 : Cond.fieldLink Rk11 105 (Tk11 47).1 (Tk11 47).2.1 (Tk11 47).2.2.1 ∈ lw_g := mg6 102 rfl rfl
theorem lfI_M_108 : Cond.fieldLink Rk11 108 (Tk11 48).1 (Tk11 48).2.1 (Tk11 48).2.2.1 ∈ lw_g := mg6 103 rfl rfl
theorem lfI_M_111 : Cond.fieldLink Rk11 111 (Tk11 49).1 (Tk11 49).2.1 (Tk11 49).2.2.1 ∈ lw_g := mg6 104 rfl rfl
theorem lfI_M_114 : Cond.fieldLink Rk11 114 (Tk11 50).1 (Tk11 50).2.1 (Tk11 50).2.2.1 ∈ lw_g := mg6 105 rfl rfl
theorem lfI_M_117 : Cond.fieldLink Rk11 117 (Tk11 51).1 (Tk11 51).2.1 (Tk11 51).2.2.1 ∈ lw_g := mg6 106 rfl rfl
theorem lfI_M_120 : Cond.fieldLink Rk11 120 (Tk11 52).1 (Tk11 52).2.1 (Tk11 52).2.2.1 ∈ lw_g := mg6 107 rfl rfl
theorem lfI_M_123 : Cond.fieldLink Rk11 123 (Tk11 53).1 (Tk11 53).2.1 (Tk11 53).2.2.1 ∈ lw_g := mg6 108 rfl rfl
theorem lfI_M_126 : Cond.fieldLink Rk11 126 (Tk11 54).1 (Tk11 54).2.1 (Tk11 54).2.2.1 ∈ lw_g := mg6 109 rfl rfl
theorem lfI_M_129 : Cond.fieldLink Rk11 129 (Tk11 55).1 (Tk11 55).2.1 (Tk11 55).2.2.1 ∈ lw_g := mg6 110 rfl rfl
theorem lfI_M_132 : Cond.fieldLink Rk11 132 (Tk11 56).1 (Tk11 56).2.1 (Tk11 56).2.2.1 ∈ lw_g := mg6 111 rfl rfl
theorem lfI_M_135 : Cond.fieldLink Rk11 135 (Tk11 60).1 (Tk11 60).2.1 (Tk11 60).2.2.1 ∈ lw_g := mg6 115 rfl rfl
theorem lfI_M_138 : Cond.fieldLink Rk11 138 (Tk11 61).1 (Tk11 61).2.1 (Tk11 61).2.2.1 ∈ lw_g := mg6 116 rfl rfl
theorem lfI_M_141 : Cond.fieldLink Rk11 141 (Tk11 62).1 (Tk11 62).2.1 (Tk11 62).2.2.1 ∈ lw_g := mg6 117 rfl rfl
theorem lfI_M_144 : Cond.fieldLink Rk11 144 (Tk11 63).1 (Tk11 63).2.1 (Tk11 63).2.2.1 ∈ lw_g := mg6 118 rfl rfl
theorem lfI_M_147 : Cond.fieldLink Rk11 147 (Tk11 67).1 (Tk11 67).2.1 (Tk11 67).2.2.1 ∈ lw_g := mg6 122 rfl rfl
theorem lfI_M_150 : Cond.fieldLink Rk11 150 (Tk11 71).1 (Tk11 71).2.1 (Tk11 71).2.2.1 ∈ lw_g := mg6 126 rfl rfl
theorem lfI_M_153 : Cond.fieldLink Rk11 153 (Tk11 72).1 (Tk11 72).2.1 (Tk11 72).2.2.1 ∈ lw_g := mg6 127 rfl rfl
def yI_Tb : MethodName := ⟨Rk8, "<init>", "(II)V"⟩
def qI_Tb : Mq := (prog_11_method_1_code, 3, Rk8, none)
theorem FI_I_Tb : Cond.code yI_Tb qI_Tb.1 qI_Tb.2.1 qI_Tb.2.2.2 ∈ lw_g ∧ Cond.initialized yI_Tb.cls ∈ lw_g ∧ (yI_Tb.cls ≠ "java/lang/invoke/MethodHandle" ∧ yI_Tb.cls ≠ "java/lang/invoke/VarHandle" ∧ (parseMethodDescriptor yI_Tb.desc).map (fun d => d.parameters.length) = some 2) ∧ plainName yI_Tb.cls = true ∧ Cond.instanceMethod yI_Tb ∈ lw_g := ⟨mg1 39 rfl rfl, lin8, ⟨lne8.1, lne8.2.1, by decide +kernel⟩, lne8.2.2, mg1 38 rfl rfl⟩
def yI_Sg : MethodName := ⟨Rk7, "<init>", "()V"⟩
def qI_Sg : Mq := (prog_10_method_1_code, 1, Rk7, none)
theorem FI_I_Sg : Cond.code yI_Sg qI_Sg.1 qI_Sg.2.1 qI_Sg.2.2.2 ∈ lw_g ∧ Cond.initialized yI_Sg.cls ∈ lw_g ∧ (yI_Sg.cls ≠ "java/lang/invoke/MethodHandle" ∧ yI_Sg.cls ≠ "java/lang/invoke/VarHandle" ∧ (parseMethodDescriptor yI_Sg.desc).map (fun d => d.parameters.length) = some 0) ∧ plainName yI_Sg.cls = true ∧ Cond.instanceMethod yI_Sg ∈ lw_g := ⟨mg1 33 rfl rfl, lin7, ⟨lne7.1, lne7.2.1, by decide +kernel⟩, lne7.2.2, mg1 32 rfl rfl⟩
def yI_Rx : MethodName := ⟨Rk6, "<init>", "(LFlightLegs$Settings;)V"⟩
def qI_Rx : Mq := (prog_9_method_1_code, 2, Rk6, none)
theorem FI_I_Rx : Cond.code yI_Rx qI_Rx.1 qI_Rx.2.1 qI_Rx.2.2.2 ∈ lw_g ∧ Cond.initialized yI_Rx.cls ∈ lw_g ∧ (yI_Rx.cls ≠ "java/lang/invoke/MethodHandle" ∧ yI_Rx.cls ≠ "java/lang/invoke/VarHandle" ∧ (parseMethodDescriptor yI_Rx.desc).map (fun d => d.parameters.length) = some 1) ∧ plainName yI_Rx.cls = true ∧ Cond.instanceMethod yI_Rx ∈ lw_g := ⟨mg1 117 rfl rfl, lin6, ⟨lne6.1, lne6.2.1, by decide +kernel⟩, lne6.2.2, mg1 116 rfl rfl⟩
def yI_Pl : MethodName := ⟨Rk3, "<init>", "(I)V"⟩
def qI_Pl : Mq := (prog_6_method_1_code, 2, Rk3, none)
theorem FI_I_Pl : Cond.code yI_Pl qI_Pl.1 qI_Pl.2.1 qI_Pl.2.2.2 ∈ lw_g ∧ Cond.initialized yI_Pl.cls ∈ lw_g ∧ (yI_Pl.cls ≠ "java/lang/invoke/MethodHandle" ∧ yI_Pl.cls ≠ "java/lang/invoke/VarHandle" ∧ (parseMethodDescriptor yI_Pl.desc).map (fun d => d.parameters.length) = some 1) ∧ plainName yI_Pl.cls = true ∧ Cond.instanceMethod yI_Pl ∈ lw_g := ⟨mg1 153 rfl rfl, lin3, ⟨lne3.1, lne3.2.1, by decide +kernel⟩, lne3.2.2, mg1 152 rfl rfl⟩
def yI_Tk : MethodName := ⟨Rk9, "<init>", "(LFlightLegs$Plan;LFlightLegs$Settings;LFlightLegs$Table;I)V"⟩
def qI_Tk : Mq := (prog_12_method_1_code, 5, Rk9, none)
theorem FI_I_Tk : Cond.code yI_Tk qI_Tk.1 qI_Tk.2.1 qI_Tk.2.2.2 ∈ lw_g ∧ Cond.initialized yI_Tk.cls ∈ lw_g ∧ (yI_Tk.cls ≠ "java/lang/invoke/MethodHandle" ∧ yI_Tk.cls ≠ "java/lang/invoke/VarHandle" ∧ (parseMethodDescriptor yI_Tk.desc).map (fun d => d.parameters.length) = some 4) ∧ plainName yI_Tk.cls = true ∧ Cond.instanceMethod yI_Tk ∈ lw_g := ⟨mg1 198 rfl rfl, lin9, ⟨lne9.1, lne9.2.1, by decide +kernel⟩, lne9.2.2, mg1 197 rfl rfl⟩
def yI_Pc : MethodName := ⟨Rk2, "<init>", "(LFlightLegs$Plan;LFlightLegs$Settings;LFlightLegs$Track;I)V"⟩
def qI_Pc : Mq := (prog_5_method_1_code, 5, Rk2, none)
theorem FI_I_Pc : Cond.code yI_Pc qI_Pc.1 qI_Pc.2.1 qI_Pc.2.2.2 ∈ lw_g ∧ Cond.initialized yI_Pc.cls ∈ lw_g ∧ (yI_Pc.cls ≠ "java/lang/invoke/MethodHandle" ∧ yI_Pc.cls ≠ "java/lang/invoke/VarHandle" ∧ (parseMethodDescriptor yI_Pc.desc).map (fun d => d.parameters.length) = some 4) ∧ plainName yI_Pc.cls = true ∧ Cond.instanceMethod yI_Pc ∈ lw_g := ⟨mg2 7 rfl rfl, lin2, ⟨lne2.1, lne2.2.1, by decide +kernel⟩, lne2.2.2, mg2 6 rfl rfl⟩
def yI_Pf : MethodName := ⟨Rk4, "<init>", "(LFlightLegs$Plan;LFlightLegs$Settings;LFlightLegs$Table;)V"⟩
def qI_Pf : Mq := (prog_7_method_1_code, 4, Rk4, none)
theorem FI_I_Pf : Cond.code yI_Pf qI_Pf.1 qI_Pf.2.1 qI_Pf.2.2.2 ∈ lw_g ∧ Cond.initialized yI_Pf.cls ∈ lw_g ∧ (yI_Pf.cls ≠ "java/lang/invoke/MethodHandle" ∧ yI_Pf.cls ≠ "java/lang/invoke/VarHandle" ∧ (parseMethodDescriptor yI_Pf.desc).map (fun d => d.parameters.length) = some 3) ∧ plainName yI_Pf.cls = true ∧ Cond.instanceMethod yI_Pf ∈ lw_g := ⟨mg2 53 rfl rfl, lin4, ⟨lne4.1, lne4.2.1, by decide +kernel⟩, lne4.2.2, mg2 52 rfl rfl⟩
def yI_Pa : MethodName := ⟨Rk1, "<init>", "(LFlightLegs$Plan;LFlightLegs$Settings;I)V"⟩
def qI_Pa : Mq := (prog_4_method_1_code, 4, Rk1, none)
theorem FI_I_Pa : Cond.code yI_Pa qI_Pa.1 qI_Pa.2.1 qI_Pa.2.2.2 ∈ lw_g ∧ Cond.initialized yI_Pa.cls ∈ lw_g ∧ (yI_Pa.cls ≠ "java/lang/invoke/MethodHandle" ∧ yI_Pa.cls ≠ "java/lang/invoke/VarHandle" ∧ (parseMethodDescriptor yI_Pa.desc).map (fun d => d.parameters.length) = some 3) ∧ plainName yI_Pa.cls = true ∧ Cond.instanceMethod yI_Pa ∈ lw_g := ⟨mg1 190 rfl rfl, lin1, ⟨lne1.1, lne1.2.1, by decide +kernel⟩, lne1.2.2, mg1 189 rfl rfl⟩
def yI_Hi : MethodName := ⟨Rk0, "<init>", "()V"⟩
def qI_Hi : Mq := (prog_3_method_1_code, 1, Rk0, none)
theorem FI_I_Hi : Cond.code yI_Hi qI_Hi.1 qI_Hi.2.1 qI_Hi.2.2.2 ∈ lw_g ∧ Cond.initialized yI_Hi.cls ∈ lw_g ∧ (yI_Hi.cls ≠ "java/lang/invoke/MethodHandle" ∧ yI_Hi.cls ≠ "java/lang/invoke/VarHandle" ∧ (parseMethodDescriptor yI_Hi.desc).map (fun d => d.parameters.length) = some 0) ∧ plainName yI_Hi.cls = true ∧ Cond.instanceMethod yI_Hi ∈ lw_g := ⟨mg2 94 rfl rfl, lin0, ⟨lne0.1, lne0.2.1, by decide +kernel⟩, lne0.2.2, mg2 93 rfl rfl⟩
def yI_Pg : MethodName := ⟨Rk5, "<init>", "(LFlightLegs$Plan;LFlightLegs$Path;)V"⟩
def qI_Pg : Mq := (prog_8_method_1_code, 3, Rk5, none)
theorem FI_I_Pg : Cond.code yI_Pg qI_Pg.1 qI_Pg.2.1 qI_Pg.2.2.2 ∈ lw_g ∧ Cond.initialized yI_Pg.cls ∈ lw_g ∧ (yI_Pg.cls ≠ "java/lang/invoke/MethodHandle" ∧ yI_Pg.cls ≠ "java/lang/invoke/VarHandle" ∧ (parseMethodDescriptor yI_Pg.desc).map (fun d => d.parameters.length) = some 2) ∧ plainName yI_Pg.cls = true ∧ Cond.instanceMethod yI_Pg ∈ lw_g := ⟨mg2 116 rfl rfl, lin5, ⟨lne5.1, lne5.2.1, by decide +kernel⟩, lne5.2.2, mg2 115 rfl rfl⟩
def yI_FL : MethodName := ⟨Rk10, "<init>", "()V"⟩
def qI_FL : Mq := (prog_1_method_1_code, 2, Rk10, none)
theorem FI_I_FL : Cond.code yI_FL qI_FL.1 qI_FL.2.1 qI_FL.2.2.2 ∈ lw_g ∧ Cond.initialized yI_FL.cls ∈ lw_g ∧ (yI_FL.cls ≠ "java/lang/invoke/MethodHandle" ∧ yI_FL.cls ≠ "java/lang/invoke/VarHandle" ∧ (parseMethodDescriptor yI_FL.desc).map (fun d => d.parameters.length) = some 0) ∧ plainName yI_FL.cls = true ∧ Cond.instanceMethod yI_FL ∈ lw_g := ⟨mg1 25 rfl rfl, lin10, ⟨lne10.1, lne10.2.1, by decide +kernel⟩, lne10.2.2, mg1 24 rfl rfl⟩
def yI_M : MethodName := ⟨Rk11, "<init>", "()V"⟩
def qI_M : Mq := (prog_14_method_1_code, 1, Rk11, none)
theorem FI_I_M : Cond.code yI_M qI_M.1 qI_M.2.1 qI_M.2.2.2 ∈ lw_g ∧ Cond.initialized yI_M.cls ∈ lw_g ∧ (yI_M.cls ≠ "java/lang/invoke/MethodHandle" ∧ yI_M.cls ≠ "java/lang/invoke/VarHandle" ∧ (parseMethodDescriptor yI_M.desc).map (fun d => d.parameters.length) = some 0) ∧ plainName yI_M.cls = true ∧ Cond.instanceMethod yI_M ∈ lw_g := ⟨mg6 53 rfl rfl, lin11, ⟨lne11.1, lne11.2.1, by decide +kernel⟩, lne11.2.2, mg6 52 rfl rfl⟩
theorem lo_8 : Cond.methodLink Rk8 1 objectInit ∈ lw_g := mg1 40 rfl rfl
theorem lo_7 : Cond.methodLink Rk7 3 objectInit ∈ lw_g := mg1 34 rfl rfl
theorem lkI_Sg_9 : Cond.classLink Rk7 9 Rk8 ∈ lw_g := mg1 35 rfl rfl
theorem lmI_Sg_11 : Cond.methodLink Rk7 11 yI_Tb ∈ lw_g := mg1 37 rfl rfl
theorem lo_6 : Cond.methodLink Rk6 3 objectInit ∈ lw_g := mg1 118 rfl rfl
theorem lkI_Rx_15 : Cond.classLink Rk6 15 Rk8 ∈ lw_g := mg1 119 rfl rfl
theorem lmI_Rx_19 : Cond.methodLink Rk6 19 yI_Tb ∈ lw_g := mg1 120 rfl rfl
theorem lo_3 : Cond.methodLink Rk3 3 objectInit ∈ lw_g := mg1 154 rfl rfl
theorem lkI_Pl_22 : Cond.classLink Rk3 22 Rk8 ∈ lw_g := mg1 155 rfl rfl
theorem lmI_Pl_24 : Cond.methodLink Rk3 24 yI_Tb ∈ lw_g := mg1 156 rfl rfl
theorem lo_9 : Cond.methodLink Rk9 3 objectInit ∈ lw_g := mg1 199 rfl rfl
theorem lkI_Tk_49 : Cond.classLink Rk9 49 Rk8 ∈ lw_g := mg1 200 rfl rfl
theorem lmI_Tk_51 : Cond.methodLink Rk9 51 yI_Tb ∈ lw_g := mg1 201 rfl rfl
theorem lo_2 : Cond.methodLink Rk2 3 objectInit ∈ lw_g := mg2 8 rfl rfl
theorem lkI_Pc_49 : Cond.classLink Rk2 49 Rk8 ∈ lw_g := mg2 9 rfl rfl
theorem lmI_Pc_51 : Cond.methodLink Rk2 51 yI_Tb ∈ lw_g := mg2 10 rfl rfl
theorem lo_4 : Cond.methodLink Rk4 3 objectInit ∈ lw_g := mg2 54 rfl rfl
theorem lo_1 : Cond.methodLink Rk1 3 objectInit ∈ lw_g := mg1 191 rfl rfl
theorem lkI_Pa_19 : Cond.classLink Rk1 19 Rk8 ∈ lw_g := mg1 192 rfl rfl
theorem lmI_Pa_21 : Cond.methodLink Rk1 21 yI_Tb ∈ lw_g := mg1 193 rfl rfl
theorem lkI_Pa_28 : Cond.classLink Rk1 28 Rk9 ∈ lw_g := mg1 194 rfl rfl
theorem lmI_Pa_30 : Cond.methodLink Rk1 30 yI_Tk ∈ lw_g := mg1 196 rfl rfl
theorem lkI_Pa_37 : Cond.classLink Rk1 37 Rk2 ∈ lw_g := mg2 3 rfl rfl
theorem lmI_Pa_39 : Cond.methodLink Rk1 39 yI_Pc ∈ lw_g := mg2 5 rfl rfl
theorem lkI_Pa_46 : Cond.classLink Rk1 46 Rk4 ∈ lw_g := mg2 49 rfl rfl
theorem lmI_Pa_48 : Cond.methodLink Rk1 48 yI_Pf ∈ lw_g := mg2 51 rfl rfl
theorem lo_0 : Cond.methodLink Rk0 3 objectInit ∈ lw_g := mg2 95 rfl rfl
theorem lkI_Hi_9 : Cond.classLink Rk0 9 Rk8 ∈ lw_g := mg2 96 rfl rfl
theorem lmI_Hi_13 : Cond.methodLink Rk0 13 yI_Tb ∈ lw_g := mg2 97 rfl rfl
theorem lo_5 : Cond.methodLink Rk5 3 objectInit ∈ lw_g := mg2 117 rfl rfl
theorem lo_10 : Cond.methodLink Rk10 1 objectInit ∈ lw_g := mg1 26 rfl rfl
theorem lkI_FL_7 : Cond.classLink Rk10 7 Rk7 ∈ lw_g := mg1 29 rfl rfl
theorem lkI_FL_16 : Cond.classLink Rk10 16 Rk6 ∈ lw_g := mg1 113 rfl rfl
theorem lmI_FL_18 : Cond.methodLink Rk10 18 yI_Rx ∈ lw_g := mg1 115 rfl rfl
theorem lkI_FL_25 : Cond.classLink Rk10 25 Rk3 ∈ lw_g := mg1 149 rfl rfl
theorem lmI_FL_27 : Cond.methodLink Rk10 27 yI_Pl ∈ lw_g := mg1 151 rfl rfl
theorem lkI_FL_40 : Cond.classLink Rk10 40 Rk1 ∈ lw_g := mg1 186 rfl rfl
theorem lmI_FL_42 : Cond.methodLink Rk10 42 yI_Pa ∈ lw_g := mg1 188 rfl rfl
theorem lkI_FL_55 : Cond.classLink Rk10 55 Rk0 ∈ lw_g := mg2 90 rfl rfl
theorem lkI_FL_62 : Cond.classLink Rk10 62 Rk5 ∈ lw_g := mg2 112 rfl rfl
theorem lmI_FL_64 : Cond.methodLink Rk10 64 yI_Pg ∈ lw_g := mg2 114 rfl rfl
theorem lo_11 : Cond.methodLink Rk11 1 objectInit ∈ lw_g := mg6 54 rfl rfl
