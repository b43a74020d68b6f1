/-! constructors of the class -/
theorem d_I_Tb_0 : decode qI_Tb.1 0 = .ok (.aload_n 0, 1) := by decide +kernel
theorem d_I_Tb_1 : decode qI_Tb.1 1 = .ok (.invokespecial 1, 3) := by decide +kernel
theorem d_I_Tb_4 : decode qI_Tb.1 4 = .ok (.aload_n 0, 1) := by decide +kernel
theorem d_I_Tb_5 : decode qI_Tb.1 5 = .ok (.iconst 0, 1) := by decide +kernel
theorem d_I_Tb_6 : decode qI_Tb.1 6 = .ok (.iload_n 1, 1) := by decide +kernel
theorem d_I_Tb_7 : decode qI_Tb.1 7 = .ok (.sipush 1000, 3) := by decide +kernel
theorem d_I_Tb_10 : decode qI_Tb.1 10 = .ok (.invokestatic 7, 3) := by decide +kernel
theorem d_I_Tb_13 : decode qI_Tb.1 13 = .ok (.invokestatic 13, 3) := by decide +kernel
theorem d_I_Tb_16 : decode qI_Tb.1 16 = .ok (.putfield 16, 3) := by decide +kernel
theorem d_I_Tb_19 : decode qI_Tb.1 19 = .ok (.aload_n 0, 1) := by decide +kernel
theorem d_I_Tb_20 : decode qI_Tb.1 20 = .ok (.iconst 0, 1) := by decide +kernel
theorem d_I_Tb_21 : decode qI_Tb.1 21 = .ok (.iload_n 2, 1) := by decide +kernel
theorem d_I_Tb_22 : decode qI_Tb.1 22 = .ok (.bipush 100, 2) := by decide +kernel
theorem d_I_Tb_24 : decode qI_Tb.1 24 = .ok (.invokestatic 7, 3) := by decide +kernel
theorem d_I_Tb_27 : decode qI_Tb.1 27 = .ok (.invokestatic 13, 3) := by decide +kernel
theorem d_I_Tb_30 : decode qI_Tb.1 30 = .ok (.putfield 22, 3) := by decide +kernel
theorem d_I_Tb_33 : decode qI_Tb.1 33 = .ok (.aload_n 0, 1) := by decide +kernel
theorem d_I_Tb_34 : decode qI_Tb.1 34 = .ok (.aload_n 0, 1) := by decide +kernel
theorem d_I_Tb_35 : decode qI_Tb.1 35 = .ok (.getfield 16, 3) := by decide +kernel
theorem d_I_Tb_38 : decode qI_Tb.1 38 = .ok (.aload_n 0, 1) := by decide +kernel
theorem d_I_Tb_39 : decode qI_Tb.1 39 = .ok (.getfield 22, 3) := by decide +kernel
theorem d_I_Tb_42 : decode qI_Tb.1 42 = .ok (.imul, 1) := by decide +kernel
theorem d_I_Tb_43 : decode qI_Tb.1 43 = .ok (.newarray .int, 2) := by decide +kernel
theorem d_I_Tb_45 : decode qI_Tb.1 45 = .ok (.putfield 25, 3) := by decide +kernel
theorem d_I_Tb_48 : decode qI_Tb.1 48 = .ok (.return_, 1) := by decide +kernel
set_option maxHeartbeats 8000000 in
set_option maxRecDepth 100000 in
theorem k_I_Tb (l : Launch) (g : Ge) (sz h0 : Nat) (rows width r w : Int32) (n : Nat) (e1 : imax 0 (imin rows 1000) = r) (e2 : imax 0 (imin width 100) = w) (e3 : ¬ r * w < 0) (e4 : (r * w).toNatClampNeg = n) (e5 : n * 4 ≤ 536870912) : Met l yI_Tb (wsq yI_Tb qI_Tb.1 qI_Tb.2.1 qI_Tb.2.2.2) { frames := 1, cells := 1, slots := n, locals := 21 } (Pk false g [.ref h0, .int rows, .int width] sz [(h0, .inr (8, [v0, v0, .null]))]) (Qk g (va_A [(h0, .inr (8, [v0, v0, .null]))] sz) (fun ws9 => ∃ q1 : Nat, ws9 = [(h0, .inr (8, [.int r, .int w, .ref q1])), (q1, aI g n)])) 1 n (va_A [(h0, .inr (8, [v0, v0, .null]))] sz) := by
  refine Met.ofW (cc := qI_Tb.1) (maxL := qI_Tb.2.1) (ret := qI_Tb.2.2.2) (ws' := lw_g) FI_I_Tb.2.2.2.1 rfl ?_
  intro p e s m args below meth c s₁ B hml hv
  obtain ⟨rfl, hsz, hP, hK, hD0, hnb⟩ := hv
  have hx := B.exec
  have hb := B.bytes
  have hr : meth.sig.returnType = none := B.returns
  have hts : ∀ x ∈ lw_g, x.before _ s = true := fun x hx => atoms_spec (ws := wsq yI_Tb qI_Tb.1 qI_Tb.2.1 qI_Tb.2.2.2) B.pre x (List.mem_cons_of_mem _ hx)
  have hown : s.vm.findClass Rk8 = some m.cls := findClass_of_methodNamed B.named
  have hlocks := B.notSynchronized
  have hin : meth.name = "<init>" := (name_of_methodNamed B.named B.method).1
  subst hsz
  have hD := hD0.self (sz := s.heap.size)
  generalize hAe : va_A [(h0, .inr (8, [v0, v0, .null]))] s.heap.size = A at hD ⊢
  have hA : ∀ q : Nat, s.heap.size ≤ q → A q := fun q h => by rw [← hAe]; exact Or.inr h
  have hS : va_S A s.heap s.heap [] := va_S.rf
  have hl := lv_entry ([.ref h0, .int rows, .int width]) (n := qI_Tb.2.1) (Nat.le_of_ble_eq_true rfl)
  rw [lg_entry_eq]
  generalize (lg_sl ([.ref h0, .int rows, .int width]) ++ List.replicate (qI_Tb.2.1 - (lg_sl ([.ref h0, .int rows, .int width])).length) Slot.unset).toArray = ls at hl ⊢
  have hl : lv_has ls qI_Tb.2.1 [(0, .ref h0), (1, .int rows), (2, .int width)] := hl
  refine lv_aload_n hx hb d_I_Tb_0 rfl (lv_at hl 0 rfl) ?_
  refine W.objInit hx hb hown (hts _ lo_8) (hts _ loi) (hts _ loc) rfl (by rw [hml]; exact hl.1) rfl d_I_Tb_1 (Nat.le_of_ble_eq_true rfl) (Nat.le_of_ble_eq_true rfl) ?_
  refine W.eq (g2 := F0 m 4 ls []) rfl ?_
  refine lv_aload_n hx hb d_I_Tb_4 rfl (lv_at hl 0 rfl) ?_
  refine lv_iconst (v := 0) hx hb d_I_Tb_5 (by decide) ?_
  refine lv_iload_n hx hb d_I_Tb_6 rfl (lv_at hl 1 rfl) ?_
  refine lv_sipush (v := 1000) hx hb d_I_Tb_7 (by decide) ?_
  refine va_mmin hx hb (hml.trans hl.1.symm) hown (hts _ lj_min_Tb_7.1) (hts _ lj_min_Tb_7.2.1) (hts _ lj_min_Tb_7.2.2.1) (hts _ lj_min_Tb_7.2.2.2) (Nat.le_of_ble_eq_true rfl) (Nat.le_of_ble_eq_true rfl) (Nat.zero_le _) (Nat.zero_le _) d_I_Tb_10 ?_
  change W _ _ _ _ _ _ _ _ _ _ _ _ _ _ _ (F0 m 13 ls (.int (imin rows 1000) :: _))
  refine va_mmax hx hb (hml.trans hl.1.symm) hown (hts _ lj_max_Tb_13.1) (hts _ lj_max_Tb_13.2.1) (hts _ lj_max_Tb_13.2.2.1) (hts _ lj_max_Tb_13.2.2.2) (Nat.le_of_ble_eq_true rfl) (Nat.le_of_ble_eq_true rfl) (Nat.zero_le _) (Nat.zero_le _) d_I_Tb_13 ?_
  rw [show (if 0 < (imin rows 1000) then (imin rows 1000) else 0) = r from e1]
  refine va_putF (D := g.2.2.1) (ci := 8) (v := .int r) (ty := .int) (C := Rk8) (T := Tk8) (N := 3) hx hb hts ik8 ty8 tk8 nk8 hown hK hP hD hS 0 rfl rfl 0 (by decide) (hts _ lfI_Tb_16) (fun _ h9 => h9) rfl hin rfl rfl rfl rfl (Nat.le_of_ble_eq_true rfl) d_I_Tb_16 (fun H locs hP hD hS => ?_)
  have hPD : (fun ws => va_P g.2.2.1 clA ws H ∧ va_D A ws) [(h0, .inr (8, [.int r, v0, .null]))] := ⟨hP, hD⟩
  obtain ⟨hP, hD⟩ := hPD
  refine lv_aload_n hx hb d_I_Tb_19 rfl (lv_at hl 0 rfl) ?_
  refine lv_iconst (v := 0) hx hb d_I_Tb_20 (by decide) ?_
  refine lv_iload_n hx hb d_I_Tb_21 rfl (lv_at hl 2 rfl) ?_
  refine lv_bipush (v := 100) hx hb d_I_Tb_22 (by decide) ?_
  refine va_mmin hx hb (hml.trans hl.1.symm) hown (hts _ lj_min_Tb_7.1) (hts _ lj_min_Tb_7.2.1) (hts _ lj_min_Tb_7.2.2.1) (hts _ lj_min_Tb_7.2.2.2) (Nat.le_of_ble_eq_true rfl) (Nat.le_of_ble_eq_true rfl) (Nat.zero_le _) (Nat.zero_le _) d_I_Tb_24 ?_
  change W _ _ _ _ _ _ _ _ _ _ _ _ _ _ _ (F0 m 27 ls (.int (imin width 100) :: _))
  refine va_mmax hx hb (hml.trans hl.1.symm) hown (hts _ lj_max_Tb_13.1) (hts _ lj_max_Tb_13.2.1) (hts _ lj_max_Tb_13.2.2.1) (hts _ lj_max_Tb_13.2.2.2) (Nat.le_of_ble_eq_true rfl) (Nat.le_of_ble_eq_true rfl) (Nat.zero_le _) (Nat.zero_le _) d_I_Tb_27 ?_
  rw [show (if 0 < (imin width 100) then (imin width 100) else 0) = w from e2]
  refine va_putF (D := g.2.2.1) (ci := 8) (v := .int w) (ty := .int) (C := Rk8) (T := Tk8) (N := 3) hx hb hts ik8 ty8 tk8 nk8 hown hK hP hD hS 0 rfl rfl 1 (by decide) (hts _ lfI_Tb_22) (fun _ h9 => h9) rfl hin rfl rfl rfl rfl (Nat.le_of_ble_eq_true rfl) d_I_Tb_30 (fun H locs hP hD hS => ?_)
  have hPD : (fun ws => va_P g.2.2.1 clA ws H ∧ va_D A ws) [(h0, .inr (8, [.int r, .int w, .null]))] := ⟨hP, hD⟩
  obtain ⟨hP, hD⟩ := hPD
  refine lv_aload_n hx hb d_I_Tb_33 rfl (lv_at hl 0 rfl) ?_
  refine lv_aload_n hx hb d_I_Tb_34 rfl (lv_at hl 0 rfl) ?_
  refine va_get (D := g.2.2.1) (ci := 8) (v := .int r) (C := Rk8) (T := Tk8) (N := 3) hx hb hts ik8 hown hK hP 0 rfl rfl 0 (by decide) (hts _ lfI_Tb_16) (fun _ h9 => h9) rfl d_I_Tb_35 ?_
  refine lv_aload_n hx hb d_I_Tb_38 rfl (lv_at hl 0 rfl) ?_
  refine va_get (D := g.2.2.1) (ci := 8) (v := .int w) (C := Rk8) (T := Tk8) (N := 3) hx hb hts ik8 hown hK hP 0 rfl rfl 1 (by decide) (hts _ lfI_Tb_22) (fun _ h9 => h9) rfl d_I_Tb_39 ?_
  refine lv_imul hx hb d_I_Tb_42 ?_
  refine na_I hx hb hts hK hP hD hS hA (n := (r * w)) (N := n) e3 e4 e5 (by first | exact Nat.le_of_ble_eq_true rfl | exact Nat.le_refl _) (by first | exact Nat.le_of_ble_eq_true rfl | exact Nat.le_of_eq (Nat.zero_add _)) d_I_Tb_43 (fun q1 H hP hD hS => ?_)
  have hPD : (fun ws => va_P g.2.2.1 clA ws H ∧ va_D A ws) [(h0, .inr (8, [.int r, .int w, .null])), (q1, aI g n)] := ⟨hP, hD⟩
  obtain ⟨hP, hD⟩ := hPD
  refine W.widen (k := 1) (n := n) (by omega) (by omega) ?_
  refine va_putF (D := g.2.2.1) (ci := 8) (v := .ref q1) (ty := .array .int) (C := Rk8) (T := Tk8) (N := 3) hx hb hts ik8 ty8 tk8 nk8 hown hK hP hD hS 0 rfl rfl 2 (by decide) (hts _ lfI_Tb_25) (fun _ h9 => h9) rfl hin rfl rfl rfl rfl (Nat.le_of_ble_eq_true rfl) d_I_Tb_45 (fun H locs hP hD hS => ?_)
  have hPD : (fun ws => va_P g.2.2.1 clA ws H ∧ va_D A ws) [(h0, .inr (8, [.int r, .int w, .ref q1])), (q1, aI g n)] := ⟨hP, hD⟩
  obtain ⟨hP, hD⟩ := hPD
  refine W.widen (k := 1) (n := n) (by omega) (by omega) ?_
  exact W.vret hx hb hr (fun t ht hW => ⟨⟨_, rfl, ⟨q1, rfl⟩, by rw [ht]; exact hP, va_K.moved hW.alike hK, hD⟩, hS.F ht⟩) hS.2.2 d_I_Tb_48
theorem d_I_Sg_0 : decode qI_Sg.1 0 = .ok (.aload_n 0, 1) := by decide +kernel
theorem d_I_Sg_1 : decode qI_Sg.1 1 = .ok (.invokespecial 3, 3) := by decide +kernel
theorem d_I_Sg_4 : decode qI_Sg.1 4 = .ok (.aload_n 0, 1) := by decide +kernel
theorem d_I_Sg_5 : decode qI_Sg.1 5 = .ok (.new 9, 3) := by decide +kernel
theorem d_I_Sg_8 : decode qI_Sg.1 8 = .ok (.dup, 1) := by decide +kernel
theorem d_I_Sg_9 : decode qI_Sg.1 9 = .ok (.bipush 16, 2) := by decide +kernel
theorem d_I_Sg_11 : decode qI_Sg.1 11 = .ok (.iconst 2, 1) := by decide +kernel
theorem d_I_Sg_12 : decode qI_Sg.1 12 = .ok (.invokespecial 11, 3) := by decide +kernel
theorem d_I_Sg_15 : decode qI_Sg.1 15 = .ok (.putfield 14, 3) := by decide +kernel
theorem d_I_Sg_18 : decode qI_Sg.1 18 = .ok (.aload_n 0, 1) := by decide +kernel
theorem d_I_Sg_19 : decode qI_Sg.1 19 = .ok (.iconst 0, 1) := by decide +kernel
theorem d_I_Sg_20 : decode qI_Sg.1 20 = .ok (.putfield 20, 3) := by decide +kernel
theorem d_I_Sg_23 : decode qI_Sg.1 23 = .ok (.aload_n 0, 1) := by decide +kernel
theorem d_I_Sg_24 : decode qI_Sg.1 24 = .ok (.iconst 0, 1) := by decide +kernel
theorem d_I_Sg_25 : decode qI_Sg.1 25 = .ok (.putfield 24, 3) := by decide +kernel
theorem d_I_Sg_28 : decode qI_Sg.1 28 = .ok (.aload_n 0, 1) := by decide +kernel
theorem d_I_Sg_29 : decode qI_Sg.1 29 = .ok (.iconst 0, 1) := by decide +kernel
theorem d_I_Sg_30 : decode qI_Sg.1 30 = .ok (.putfield 27, 3) := by decide +kernel
theorem d_I_Sg_33 : decode qI_Sg.1 33 = .ok (.aload_n 0, 1) := by decide +kernel
theorem d_I_Sg_34 : decode qI_Sg.1 34 = .ok (.sipush 300, 3) := by decide +kernel
theorem d_I_Sg_37 : decode qI_Sg.1 37 = .ok (.putfield 30, 3) := by decide +kernel
theorem d_I_Sg_40 : decode qI_Sg.1 40 = .ok (.aload_n 0, 1) := by decide +kernel
theorem d_I_Sg_41 : decode qI_Sg.1 41 = .ok (.sipush 400, 3) := by decide +kernel
theorem d_I_Sg_44 : decode qI_Sg.1 44 = .ok (.putfield 33, 3) := by decide +kernel
theorem d_I_Sg_47 : decode qI_Sg.1 47 = .ok (.aload_n 0, 1) := by decide +kernel
theorem d_I_Sg_48 : decode qI_Sg.1 48 = .ok (.sipush 300, 3) := by decide +kernel
theorem d_I_Sg_51 : decode qI_Sg.1 51 = .ok (.putfield 36, 3) := by decide +kernel
theorem d_I_Sg_54 : decode qI_Sg.1 54 = .ok (.aload_n 0, 1) := by decide +kernel
theorem d_I_Sg_55 : decode qI_Sg.1 55 = .ok (.sipush 318, 3) := by decide +kernel
theorem d_I_Sg_58 : decode qI_Sg.1 58 = .ok (.putfield 39, 3) := by decide +kernel
theorem d_I_Sg_61 : decode qI_Sg.1 61 = .ok (.aload_n 0, 1) := by decide +kernel
theorem d_I_Sg_62 : decode qI_Sg.1 62 = .ok (.sipush 500, 3) := by decide +kernel
theorem d_I_Sg_65 : decode qI_Sg.1 65 = .ok (.putfield 42, 3) := by decide +kernel
theorem d_I_Sg_68 : decode qI_Sg.1 68 = .ok (.aload_n 0, 1) := by decide +kernel
theorem d_I_Sg_69 : decode qI_Sg.1 69 = .ok (.iconst 0, 1) := by decide +kernel
theorem d_I_Sg_70 : decode qI_Sg.1 70 = .ok (.putfield 45, 3) := by decide +kernel
theorem d_I_Sg_73 : decode qI_Sg.1 73 = .ok (.aload_n 0, 1) := by decide +kernel
theorem d_I_Sg_74 : decode qI_Sg.1 74 = .ok (.iconst 0, 1) := by decide +kernel
theorem d_I_Sg_75 : decode qI_Sg.1 75 = .ok (.putfield 48, 3) := by decide +kernel
theorem d_I_Sg_78 : decode qI_Sg.1 78 = .ok (.return_, 1) := by decide +kernel
set_option maxHeartbeats 8000000 in
set_option maxRecDepth 100000 in
theorem k_I_Sg (l : Launch) (g : Ge) (sz h0 : Nat) : Met l yI_Sg (wsq yI_Sg qI_Sg.1 qI_Sg.2.1 qI_Sg.2.2.2) { frames := 2, cells := 2, slots := 35, locals := 43 } (Pk false g [.ref h0] sz [(h0, .inr (7, [.null, v0, v0, v0, v0, v0, v0, v0, v0, v0, v0]))]) (Qk g (va_A [(h0, .inr (7, [.null, v0, v0, v0, v0, v0, v0, v0, v0, v0, v0]))] sz) (fun ws9 => ∃ q1 q2 : Nat, ws9 = [(h0, .inr (7, [.ref q1, v0, v0, v0, .int 300, .int 400, .int 300, .int 318, .int 500, v0, v0])), (q1, .inr (8, [.int 16, .int 2, .ref q2])), (q2, aI g 32)])) 2 35 (va_A [(h0, .inr (7, [.null, v0, v0, v0, v0, v0, v0, v0, v0, v0, v0]))] sz) := by
  refine Met.ofW (cc := qI_Sg.1) (maxL := qI_Sg.2.1) (ret := qI_Sg.2.2.2) (ws' := lw_g) FI_I_Sg.2.2.2.1 rfl ?_
  intro p e s m args below meth c s₁ B hml hv
  obtain ⟨rfl, hsz, hP, hK, hD0, hnb⟩ := hv
  have hx := B.exec
  have hb := B.bytes
  have hr : meth.sig.returnType = none := B.returns
  have hts : ∀ x ∈ lw_g, x.before _ s = true := fun x hx => atoms_spec (ws := wsq yI_Sg qI_Sg.1 qI_Sg.2.1 qI_Sg.2.2.2) B.pre x (List.mem_cons_of_mem _ hx)
  have hown : s.vm.findClass Rk7 = some m.cls := findClass_of_methodNamed B.named
  have hlocks := B.notSynchronized
  have hin : meth.name = "<init>" := (name_of_methodNamed B.named B.method).1
  subst hsz
  have hD := hD0.self (sz := s.heap.size)
  generalize hAe : va_A [(h0, .inr (7, [.null, v0, v0, v0, v0, v0, v0, v0, v0, v0, v0]))] s.heap.size = A at hD ⊢
  have hA : ∀ q : Nat, s.heap.size ≤ q → A q := fun q h => by rw [← hAe]; exact Or.inr h
  have hS : va_S A s.heap s.heap [] := va_S.rf
  have hl := lv_entry ([.ref h0]) (n := qI_Sg.2.1) (Nat.le_of_ble_eq_true rfl)
  rw [lg_entry_eq]
  generalize (lg_sl ([.ref h0]) ++ List.replicate (qI_Sg.2.1 - (lg_sl ([.ref h0])).length) Slot.unset).toArray = ls at hl ⊢
  have hl : lv_has ls qI_Sg.2.1 [(0, .ref h0)] := hl
  refine lv_aload_n hx hb d_I_Sg_0 rfl (lv_at hl 0 rfl) ?_
  refine W.objInit hx hb hown (hts _ lo_7) (hts _ loi) (hts _ loc) rfl (by rw [hml]; exact hl.1) rfl d_I_Sg_1 (Nat.le_of_ble_eq_true rfl) (Nat.le_of_ble_eq_true rfl) ?_
  refine W.eq (g2 := F0 m 4 ls []) rfl ?_
  refine lv_aload_n hx hb d_I_Sg_4 rfl (lv_at hl 0 rfl) ?_
  refine va_new (D := g.2.2.1) (ci := 8) (fs := [.int 0, .int 0, .null]) (C := Rk8) (T := Tk8) (N := 3) hx hb hts ik8 ty8 tk8 hown (hts _ lkI_Sg_9) (hts _ lnI_8) (hts _ lin8) hK hP hD hS hA rfl dv_8 (Nat.le_of_ble_eq_true rfl) (Nat.le_of_ble_eq_true rfl) d_I_Sg_5 (fun q1 H hP hD hS => ?_)
  have hPD : (fun ws => va_P g.2.2.1 clA ws H ∧ va_D A ws) [(h0, .inr (7, [.null, v0, v0, v0, v0, v0, v0, v0, v0, v0, v0])), (q1, .inr (8, [v0, v0, .null]))] := ⟨hP, hD⟩
  obtain ⟨hP, hD⟩ := hPD
  refine W.widen (k := 1) (n := 3) (by omega) (by omega) ?_
  refine lv_dup hx hb d_I_Sg_8 rfl ?_
  refine lv_bipush (v := 16) hx hb d_I_Sg_9 (by decide) ?_
  refine lv_iconst (v := 2) hx hb d_I_Sg_11 (by decide) ?_
  have hPc := hP.sub (ws' := [(q1, .inr (8, [v0, v0, .null]))]) [1] rfl
  have hDc := hD.sub (ws' := [(q1, .inr (8, [v0, v0, .null]))]) [1] (by decide) rfl
  have hFc := va_free (wc := [(q1, .inr (8, [v0, v0, .null]))]) hD hS hA [1] rfl
  refine va_callv (va_runI (As := [.int 16, .int 2]) (rest := [.ref q1, .ref h0]) (n := 2) ⟨hx, hb, hml, hown, hts⟩ (k_I_Tb _ g H.size q1 16 2 16 2 32 (by decide) (by decide) (by decide) (by decide) (by decide)) ⟨callB_of 2 hts (good_tbl FI_I_Tb.1) rfl rfl rfl (hts _ FI_I_Tb.2.1) (hts _ lmI_Sg_11) FI_I_Tb.2.2.1 ⟨Nat.le_of_ble_eq_true rfl, Nat.le_of_ble_eq_true rfl⟩, rfl, hts _ FI_I_Tb.2.2.2.2⟩ ⟨Pk_blind _ _ _ _ _, fun U hU hW => ⟨rfl, by rw [hU], by rw [hU]; exact hPc, va_K.moved hW.alike hK, hDc.weaken (fun _ _ _ _ => trivial), fun q => by cases q⟩⟩ rfl rfl hl.1 rfl (lv_room (Nat.le_of_ble_eq_true rfl)) d_I_Sg_12 ⟨Nat.le_of_ble_eq_true rfl, Nat.le_of_ble_eq_true rfl⟩) hS (fun q _ h => hFc q h) hFc (fun u t H1 locs ht hvm hw hB hz1 hk1 hS => ?_)
  obtain ⟨q2, rfl⟩ := hw
  obtain ⟨hP1, hK1, hD1⟩ := hB
  rw [ht] at hP1
  obtain ⟨hP, hD⟩ := va_join (wr := [(h0, .inr (7, [.null, v0, v0, v0, v0, v0, v0, v0, v0, v0, v0]))]) (w1 := [(q1, .inr (8, [.int 16, .int 2, .ref q2])), (q2, aI g 32)]) hP hD [1] [0] rfl rfl (by decide) (by decide) hk1 hFc hP1 hD1
  generalize H1 = H at hP hS ⊢
  have hPD : (fun ws => va_P g.2.2.1 clA ws H ∧ va_D A ws) [(h0, .inr (7, [.null, v0, v0, v0, v0, v0, v0, v0, v0, v0, v0])), (q1, .inr (8, [.int 16, .int 2, .ref q2])), (q2, aI g 32)] := ⟨hP, hD⟩
  obtain ⟨hP, hD⟩ := hPD
  refine W.widen (k := 2) (n := 35) (by omega) (by omega) ?_
  refine va_putF (D := g.2.2.1) (ci := 7) (v := .ref q1) (ty := .object "FlightLegs$Table") (C := Rk7) (T := Tk7) (N := 11) hx hb hts ik7 ty7 tk7 nk7 hown hK hP hD hS 0 rfl rfl 0 (by decide) (hts _ lfI_Sg_14) (fun _ h9 => h9) rfl hin rfl rfl rfl rfl (Nat.le_of_ble_eq_true rfl) d_I_Sg_15 (fun H locs hP hD hS => ?_)
  have hPD : (fun ws => va_P g.2.2.1 clA ws H ∧ va_D A ws) [(h0, .inr (7, [.ref q1, v0, v0, v0, v0, v0, v0, v0, v0, v0, v0])), (q1, .inr (8, [.int 16, .int 2, .ref q2])), (q2, aI g 32)] := ⟨hP, hD⟩
  obtain ⟨hP, hD⟩ := hPD
  refine lv_aload_n hx hb d_I_Sg_18 rfl (lv_at hl 0 rfl) ?_
  refine lv_iconst (v := 0) hx hb d_I_Sg_19 (by decide) ?_
  refine va_put (D := g.2.2.1) (ci := 7) (v := .int 0) (ty := .int) (C := Rk7) (T := Tk7) (N := 11) hx hb hts ik7 ty7 tk7 nk7 hown hK hP hD hS 0 rfl rfl 1 (by decide) (hts _ lfI_Sg_20) (fun _ h9 => h9) rfl rfl rfl rfl (Nat.le_of_ble_eq_true rfl) d_I_Sg_20 (fun H locs hP hD hS => ?_)
  have hPD : (fun ws => va_P g.2.2.1 clA ws H ∧ va_D A ws) [(h0, .inr (7, [.ref q1, v0, v0, v0, v0, v0, v0, v0, v0, v0, v0])), (q1, .inr (8, [.int 16, .int 2, .ref q2])), (q2, aI g 32)] := ⟨hP, hD⟩
  obtain ⟨hP, hD⟩ := hPD
  refine lv_aload_n hx hb d_I_Sg_23 rfl (lv_at hl 0 rfl) ?_
  refine lv_iconst (v := 0) hx hb d_I_Sg_24 (by decide) ?_
  refine va_put (D := g.2.2.1) (ci := 7) (v := .int 0) (ty := .int) (C := Rk7) (T := Tk7) (N := 11) hx hb hts ik7 ty7 tk7 nk7 hown hK hP hD hS 0 rfl rfl 2 (by decide) (hts _ lfI_Sg_24) (fun _ h9 => h9) rfl rfl rfl rfl (Nat.le_of_ble_eq_true rfl) d_I_Sg_25 (fun H locs hP hD hS => ?_)
  have hPD : (fun ws => va_P g.2.2.1 clA ws H ∧ va_D A ws) [(h0, .inr (7, [.ref q1, v0, v0, v0, v0, v0, v0, v0, v0, v0, v0])), (q1, .inr (8, [.int 16, .int 2, .ref q2])), (q2, aI g 32)] := ⟨hP, hD⟩
  obtain ⟨hP, hD⟩ := hPD
  refine lv_aload_n hx hb d_I_Sg_28 rfl (lv_at hl 0 rfl) ?_
  refine lv_iconst (v := 0) hx hb d_I_Sg_29 (by decide) ?_
  refine va_put (D := g.2.2.1) (ci := 7) (v := .int 0) (ty := .int) (C := Rk7) (T := Tk7) (N := 11) hx hb hts ik7 ty7 tk7 nk7 hown hK hP hD hS 0 rfl rfl 3 (by decide) (hts _ lfI_Sg_27) (fun _ h9 => h9) rfl rfl rfl rfl (Nat.le_of_ble_eq_true rfl) d_I_Sg_30 (fun H locs hP hD hS => ?_)
  have hPD : (fun ws => va_P g.2.2.1 clA ws H ∧ va_D A ws) [(h0, .inr (7, [.ref q1, v0, v0, v0, v0, v0, v0, v0, v0, v0, v0])), (q1, .inr (8, [.int 16, .int 2, .ref q2])), (q2, aI g 32)] := ⟨hP, hD⟩
  obtain ⟨hP, hD⟩ := hPD
  refine lv_aload_n hx hb d_I_Sg_33 rfl (lv_at hl 0 rfl) ?_
  refine lv_sipush (v := 300) hx hb d_I_Sg_34 (by decide) ?_
  refine va_put (D := g.2.2.1) (ci := 7) (v := .int 300) (ty := .int) (C := Rk7) (T := Tk7) (N := 11) hx hb hts ik7 ty7 tk7 nk7 hown hK hP hD hS 0 rfl rfl 4 (by decide) (hts _ lfI_Sg_30) (fun _ h9 => h9) rfl rfl rfl rfl (Nat.le_of_ble_eq_true rfl) d_I_Sg_37 (fun H locs hP hD hS => ?_)
  have hPD : (fun ws => va_P g.2.2.1 clA ws H ∧ va_D A ws) [(h0, .inr (7, [.ref q1, v0, v0, v0, .int 300, v0, v0, v0, v0, v0, v0])), (q1, .inr (8, [.int 16, .int 2, .ref q2])), (q2, aI g 32)] := ⟨hP, hD⟩
  obtain ⟨hP, hD⟩ := hPD
  refine lv_aload_n hx hb d_I_Sg_40 rfl (lv_at hl 0 rfl) ?_
  refine lv_sipush (v := 400) hx hb d_I_Sg_41 (by decide) ?_
  refine va_put (D := g.2.2.1) (ci := 7) (v := .int 400) (ty := .int) (C := Rk7) (T := Tk7) (N := 11) hx hb hts ik7 ty7 tk7 nk7 hown hK hP hD hS 0 rfl rfl 5 (by decide) (hts _ lfI_Sg_33) (fun _ h9 => h9) rfl rfl rfl rfl (Nat.le_of_ble_eq_true rfl) d_I_Sg_44 (fun H locs hP hD hS => ?_)
  have hPD : (fun ws => va_P g.2.2.1 clA ws H ∧ va_D A ws) [(h0, .inr (7, [.ref q1, v0, v0, v0, .int 300, .int 400, v0, v0, v0, v0, v0])), (q1, .inr (8, [.int 16, .int 2, .ref q2])), (q2, aI g 32)] := ⟨hP, hD⟩
  obtain ⟨hP, hD⟩ := hPD
  refine lv_aload_n hx hb d_I_Sg_47 rfl (lv_at hl 0 rfl) ?_
  refine lv_sipush (v := 300) hx hb d_I_Sg_48 (by decide) ?_
  refine va_put (D := g.2.2.1) (ci := 7) (v := .int 300) (ty := .int) (C := Rk7) (T := Tk7) (N := 11) hx hb hts ik7 ty7 tk7 nk7 hown hK hP hD hS 0 rfl rfl 6 (by decide) (hts _ lfI_Sg_36) (fun _ h9 => h9) rfl rfl rfl rfl (Nat.le_of_ble_eq_true rfl) d_I_Sg_51 (fun H locs hP hD hS => ?_)
  have hPD : (fun ws => va_P g.2.2.1 clA ws H ∧ va_D A ws) [(h0, .inr (7, [.ref q1, v0, v0, v0, .int 300, .int 400, .int 300, v0, v0, v0, v0])), (q1, .inr (8, [.int 16, .int 2, .ref q2])), (q2, aI g 32)] := ⟨hP, hD⟩
  obtain ⟨hP, hD⟩ := hPD
  refine lv_aload_n hx hb d_I_Sg_54 rfl (lv_at hl 0 rfl) ?_
  refine lv_sipush (v := 318) hx hb d_I_Sg_55 (by decide) ?_
  refine va_put (D := g.2.2.1) (ci := 7) (v := .int 318) (ty := .int) (C := Rk7) (T := Tk7) (N := 11) hx hb hts ik7 ty7 tk7 nk7 hown hK hP hD hS 0 rfl rfl 7 (by decide) (hts _ lfI_Sg_39) (fun _ h9 => h9) rfl rfl rfl rfl (Nat.le_of_ble_eq_true rfl) d_I_Sg_58 (fun H locs hP hD hS => ?_)
  have hPD : (fun ws => va_P g.2.2.1 clA ws H ∧ va_D A ws) [(h0, .inr (7, [.ref q1, v0, v0, v0, .int 300, .int 400, .int 300, .int 318, v0, v0, v0])), (q1, .inr (8, [.int 16, .int 2, .ref q2])), (q2, aI g 32)] := ⟨hP, hD⟩
  obtain ⟨hP, hD⟩ := hPD
  refine lv_aload_n hx hb d_I_Sg_61 rfl (lv_at hl 0 rfl) ?_
  refine lv_sipush (v := 500) hx hb d_I_Sg_62 (by decide) ?_
  refine va_put (D := g.2.2.1) (ci := 7) (v := .int 500) (ty := .int) (C := Rk7) (T := Tk7) (N := 11) hx hb hts ik7 ty7 tk7 nk7 hown hK hP hD hS 0 rfl rfl 8 (by decide) (hts _ lfI_Sg_42) (fun _ h9 => h9) rfl rfl rfl rfl (Nat.le_of_ble_eq_true rfl) d_I_Sg_65 (fun H locs hP hD hS => ?_)
  have hPD : (fun ws => va_P g.2.2.1 clA ws H ∧ va_D A ws) [(h0, .inr (7, [.ref q1, v0, v0, v0, .int 300, .int 400, .int 300, .int 318, .int 500, v0, v0])), (q1, .inr (8, [.int 16, .int 2, .ref q2])), (q2, aI g 32)] := ⟨hP, hD⟩
  obtain ⟨hP, hD⟩ := hPD
  refine lv_aload_n hx hb d_I_Sg_68 rfl (lv_at hl 0 rfl) ?_
  refine lv_iconst (v := 0) hx hb d_I_Sg_69 (by decide) ?_
  refine va_put (D := g.2.2.1) (ci := 7) (v := .int 0) (ty := .int) (C := Rk7) (T := Tk7) (N := 11) hx hb hts ik7 ty7 tk7 nk7 hown hK hP hD hS 0 rfl rfl 9 (by decide) (hts _ lfI_Sg_45) (fun _ h9 => h9) rfl rfl rfl rfl (Nat.le_of_ble_eq_true rfl) d_I_Sg_70 (fun H locs hP hD hS => ?_)
  have hPD : (fun ws => va_P g.2.2.1 clA ws H ∧ va_D A ws) [(h0, .inr (7, [.ref q1, v0, v0, v0, .int 300, .int 400, .int 300, .int 318, .int 500, v0, v0])), (q1, .inr (8, [.int 16, .int 2, .ref q2])), (q2, aI g 32)] := ⟨hP, hD⟩
  obtain ⟨hP, hD⟩ := hPD
  refine lv_aload_n hx hb d_I_Sg_73 rfl (lv_at hl 0 rfl) ?_
  refine lv_iconst (v := 0) hx hb d_I_Sg_74 (by decide) ?_
  refine va_put (D := g.2.2.1) (ci := 7) (v := .int 0) (ty := .int) (C := Rk7) (T := Tk7) (N := 11) hx hb hts ik7 ty7 tk7 nk7 hown hK hP hD hS 0 rfl rfl 10 (by decide) (hts _ lfI_Sg_48) (fun _ h9 => h9) rfl rfl rfl rfl (Nat.le_of_ble_eq_true rfl) d_I_Sg_75 (fun H locs hP hD hS => ?_)
  have hPD : (fun ws => va_P g.2.2.1 clA ws H ∧ va_D A ws) [(h0, .inr (7, [.ref q1, v0, v0, v0, .int 300, .int 400, .int 300, .int 318, .int 500, v0, v0])), (q1, .inr (8, [.int 16, .int 2, .ref q2])), (q2, aI g 32)] := ⟨hP, hD⟩
  obtain ⟨hP, hD⟩ := hPD
  refine W.widen (k := 2) (n := 35) (by omega) (by omega) ?_
  exact W.vret hx hb hr (fun t ht hW => ⟨⟨_, rfl, ⟨q1, q2, rfl⟩, by rw [ht]; exact hP, va_K.moved hW.alike hK, hD⟩, hS.F ht⟩) hS.2.2 d_I_Sg_78
theorem d_I_Rx_0 : decode qI_Rx.1 0 = .ok (.aload_n 0, 1) := by decide +kernel
theorem d_I_Rx_1 : decode qI_Rx.1 1 = .ok (.invokespecial 3, 3) := by decide +kernel
theorem d_I_Rx_4 : decode qI_Rx.1 4 = .ok (.aload_n 0, 1) := by decide +kernel
theorem d_I_Rx_5 : decode qI_Rx.1 5 = .ok (.sipush 200, 3) := by decide +kernel
theorem d_I_Rx_8 : decode qI_Rx.1 8 = .ok (.newarray .int, 2) := by decide +kernel
theorem d_I_Rx_10 : decode qI_Rx.1 10 = .ok (.putfield 9, 3) := by decide +kernel
theorem d_I_Rx_13 : decode qI_Rx.1 13 = .ok (.aload_n 0, 1) := by decide +kernel
theorem d_I_Rx_14 : decode qI_Rx.1 14 = .ok (.new 15, 3) := by decide +kernel
theorem d_I_Rx_17 : decode qI_Rx.1 17 = .ok (.dup, 1) := by decide +kernel
theorem d_I_Rx_18 : decode qI_Rx.1 18 = .ok (.bipush 12, 2) := by decide +kernel
theorem d_I_Rx_20 : decode qI_Rx.1 20 = .ok (.bipush 14, 2) := by decide +kernel
theorem d_I_Rx_22 : decode qI_Rx.1 22 = .ok (.invokespecial 19, 3) := by decide +kernel
theorem d_I_Rx_25 : decode qI_Rx.1 25 = .ok (.putfield 22, 3) := by decide +kernel
theorem d_I_Rx_28 : decode qI_Rx.1 28 = .ok (.aload_n 0, 1) := by decide +kernel
theorem d_I_Rx_29 : decode qI_Rx.1 29 = .ok (.iconst 0, 1) := by decide +kernel
theorem d_I_Rx_30 : decode qI_Rx.1 30 = .ok (.putfield 26, 3) := by decide +kernel
theorem d_I_Rx_33 : decode qI_Rx.1 33 = .ok (.aload_n 0, 1) := by decide +kernel
theorem d_I_Rx_34 : decode qI_Rx.1 34 = .ok (.iconst 0, 1) := by decide +kernel
theorem d_I_Rx_35 : decode qI_Rx.1 35 = .ok (.putfield 30, 3) := by decide +kernel
theorem d_I_Rx_38 : decode qI_Rx.1 38 = .ok (.aload_n 0, 1) := by decide +kernel
theorem d_I_Rx_39 : decode qI_Rx.1 39 = .ok (.iconst 0, 1) := by decide +kernel
theorem d_I_Rx_40 : decode qI_Rx.1 40 = .ok (.putfield 33, 3) := by decide +kernel
theorem d_I_Rx_43 : decode qI_Rx.1 43 = .ok (.aload_n 0, 1) := by decide +kernel
theorem d_I_Rx_44 : decode qI_Rx.1 44 = .ok (.iconst 0, 1) := by decide +kernel
theorem d_I_Rx_45 : decode qI_Rx.1 45 = .ok (.putfield 36, 3) := by decide +kernel
theorem d_I_Rx_48 : decode qI_Rx.1 48 = .ok (.aload_n 0, 1) := by decide +kernel
theorem d_I_Rx_49 : decode qI_Rx.1 49 = .ok (.iconst 0, 1) := by decide +kernel
theorem d_I_Rx_50 : decode qI_Rx.1 50 = .ok (.putfield 39, 3) := by decide +kernel
theorem d_I_Rx_53 : decode qI_Rx.1 53 = .ok (.aload_n 0, 1) := by decide +kernel
theorem d_I_Rx_54 : decode qI_Rx.1 54 = .ok (.aload_n 1, 1) := by decide +kernel
theorem d_I_Rx_55 : decode qI_Rx.1 55 = .ok (.putfield 42, 3) := by decide +kernel
theorem d_I_Rx_58 : decode qI_Rx.1 58 = .ok (.return_, 1) := by decide +kernel
set_option maxHeartbeats 8000000 in
set_option maxRecDepth 100000 in
theorem k_I_Rx (l : Launch) (g : Ge) (sz h0 : Nat) (p1 : Nat) : Met l yI_Rx (wsq yI_Rx qI_Rx.1 qI_Rx.2.1 qI_Rx.2.2.2) { frames := 2, cells := 3, slots := 371, locals := 43 } (Pk false g [.ref h0, .ref p1] sz [(h0, .inr (6, [.null, .null, .null, v0, v0, v0, v0, v0]))]) (Qk g (va_A [(h0, .inr (6, [.null, .null, .null, v0, v0, v0, v0, v0]))] sz) (fun ws9 => ∃ q1 q2 q3 : Nat, ws9 = [(h0, .inr (6, [.ref p1, .ref q1, .ref q2, v0, v0, v0, v0, v0])), (q1, aI g 200), (q2, .inr (8, [.int 12, .int 14, .ref q3])), (q3, aI g 168)])) 3 371 (va_A [(h0, .inr (6, [.null, .null, .null, v0, v0, v0, v0, v0]))] sz) := by
  refine Met.ofW (cc := qI_Rx.1) (maxL := qI_Rx.2.1) (ret := qI_Rx.2.2.2) (ws' := lw_g) FI_I_Rx.2.2.2.1 rfl ?_
  intro p e s m args below meth c s₁ B hml hv
  obtain ⟨rfl, hsz, hP, hK, hD0, hnb⟩ := hv
  have hx := B.exec
  have hb := B.bytes
  have hr : meth.sig.returnType = none := B.returns
  have hts : ∀ x ∈ lw_g, x.before _ s = true := fun x hx => atoms_spec (ws := wsq yI_Rx qI_Rx.1 qI_Rx.2.1 qI_Rx.2.2.2) B.pre x (List.mem_cons_of_mem _ hx)
  have hown : s.vm.findClass Rk6 = some m.cls := findClass_of_methodNamed B.named
  have hlocks := B.notSynchronized
  have hin : meth.name = "<init>" := (name_of_methodNamed B.named B.method).1
  subst hsz
  have hD := hD0.self (sz := s.heap.size)
  generalize hAe : va_A [(h0, .inr (6, [.null, .null, .null, v0, v0, v0, v0, v0]))] s.heap.size = A at hD ⊢
  have hA : ∀ q : Nat, s.heap.size ≤ q → A q := fun q h => by rw [← hAe]; exact Or.inr h
  have hS : va_S A s.heap s.heap [] := va_S.rf
  have hl := lv_entry ([.ref h0, .ref p1]) (n := qI_Rx.2.1) (Nat.le_of_ble_eq_true rfl)
  rw [lg_entry_eq]
  generalize (lg_sl ([.ref h0, .ref p1]) ++ List.replicate (qI_Rx.2.1 - (lg_sl ([.ref h0, .ref p1])).length) Slot.unset).toArray = ls at hl ⊢
  have hl : lv_has ls qI_Rx.2.1 [(0, .ref h0), (1, .ref p1)] := hl
  refine lv_aload_n hx hb d_I_Rx_0 rfl (lv_at hl 0 rfl) ?_
  refine W.objInit hx hb hown (hts _ lo_6) (hts _ loi) (hts _ loc) rfl (by rw [hml]; exact hl.1) rfl d_I_Rx_1 (Nat.le_of_ble_eq_true rfl) (Nat.le_of_ble_eq_true rfl) ?_
  refine W.eq (g2 := F0 m 4 ls []) rfl ?_
  refine lv_aload_n hx hb d_I_Rx_4 rfl (lv_at hl 0 rfl) ?_
  refine lv_sipush (v := 200) hx hb d_I_Rx_5 (by decide) ?_
  refine na_I hx hb hts hK hP hD hS hA (n := 200) (N := 200) (by decide) (by decide) (by decide) (by first | exact Nat.le_of_ble_eq_true rfl | exact Nat.le_refl _) (by first | exact Nat.le_of_ble_eq_true rfl | exact Nat.le_of_eq (Nat.zero_add _)) d_I_Rx_8 (fun q1 H hP hD hS => ?_)
  have hPD : (fun ws => va_P g.2.2.1 clA ws H ∧ va_D A ws) [(h0, .inr (6, [.null, .null, .null, v0, v0, v0, v0, v0])), (q1, aI g 200)] := ⟨hP, hD⟩
  obtain ⟨hP, hD⟩ := hPD
  refine W.widen (k := 1) (n := 200) (by omega) (by omega) ?_
  refine va_putF (D := g.2.2.1) (ci := 6) (v := .ref q1) (ty := .array .int) (C := Rk6) (T := Tk6) (N := 8) hx hb hts ik6 ty6 tk6 nk6 hown hK hP hD hS 0 rfl rfl 1 (by decide) (hts _ lfI_Rx_9) (fun _ h9 => h9) rfl hin rfl rfl rfl rfl (Nat.le_of_ble_eq_true rfl) d_I_Rx_10 (fun H locs hP hD hS => ?_)
  have hPD : (fun ws => va_P g.2.2.1 clA ws H ∧ va_D A ws) [(h0, .inr (6, [.null, .ref q1, .null, v0, v0, v0, v0, v0])), (q1, aI g 200)] := ⟨hP, hD⟩
  obtain ⟨hP, hD⟩ := hPD
  refine lv_aload_n hx hb d_I_Rx_13 rfl (lv_at hl 0 rfl) ?_
  refine va_new (D := g.2.2.1) (ci := 8) (fs := [.int 0, .int 0, .null]) (C := Rk8) (T := Tk8) (N := 3) hx hb hts ik8 ty8 tk8 hown (hts _ lkI_Rx_15) (hts _ lnI_8) (hts _ lin8) hK hP hD hS hA rfl dv_8 (Nat.le_of_ble_eq_true rfl) (Nat.le_of_ble_eq_true rfl) d_I_Rx_14 (fun q2 H hP hD hS => ?_)
  have hPD : (fun ws => va_P g.2.2.1 clA ws H ∧ va_D A ws) [(h0, .inr (6, [.null, .ref q1, .null, v0, v0, v0, v0, v0])), (q1, aI g 200), (q2, .inr (8, [v0, v0, .null]))] := ⟨hP, hD⟩
  obtain ⟨hP, hD⟩ := hPD
  refine W.widen (k := 2) (n := 203) (by omega) (by omega) ?_
  refine lv_dup hx hb d_I_Rx_17 rfl ?_
  refine lv_bipush (v := 12) hx hb d_I_Rx_18 (by decide) ?_
  refine lv_bipush (v := 14) hx hb d_I_Rx_20 (by decide) ?_
  have hPc := hP.sub (ws' := [(q2, .inr (8, [v0, v0, .null]))]) [2] rfl
  have hDc := hD.sub (ws' := [(q2, .inr (8, [v0, v0, .null]))]) [2] (by decide) rfl
  have hFc := va_free (wc := [(q2, .inr (8, [v0, v0, .null]))]) hD hS hA [2] rfl
  refine va_callv (va_runI (As := [.int 12, .int 14]) (rest := [.ref q2, .ref h0]) (n := 2) ⟨hx, hb, hml, hown, hts⟩ (k_I_Tb _ g H.size q2 12 14 12 14 168 (by decide) (by decide) (by decide) (by decide) (by decide)) ⟨callB_of 2 hts (good_tbl FI_I_Tb.1) rfl rfl rfl (hts _ FI_I_Tb.2.1) (hts _ lmI_Rx_19) FI_I_Tb.2.2.1 ⟨Nat.le_of_ble_eq_true rfl, Nat.le_of_ble_eq_true rfl⟩, rfl, hts _ FI_I_Tb.2.2.2.2⟩ ⟨Pk_blind _ _ _ _ _, fun U hU hW => ⟨rfl, by rw [hU], by rw [hU]; exact hPc, va_K.moved hW.alike hK, hDc.weaken (fun _ _ _ _ => trivial), fun q => by cases q⟩⟩ rfl rfl hl.1 rfl (lv_room (Nat.le_of_ble_eq_true rfl)) d_I_Rx_22 ⟨Nat.le_of_ble_eq_true rfl, Nat.le_of_ble_eq_true rfl⟩) hS (fun q _ h => hFc q h) hFc (fun u t H1 locs ht hvm hw hB hz1 hk1 hS => ?_)
  obtain ⟨q3, rfl⟩ := hw
  obtain ⟨hP1, hK1, hD1⟩ := hB
  rw [ht] at hP1
  obtain ⟨hP, hD⟩ := va_join (wr := [(h0, .inr (6, [.null, .ref q1, .null, v0, v0, v0, v0, v0])), (q1, aI g 200)]) (w1 := [(q2, .inr (8, [.int 12, .int 14, .ref q3])), (q3, aI g 168)]) hP hD [2] [0, 1] rfl rfl (by decide) (by decide) hk1 hFc hP1 hD1
  generalize H1 = H at hP hS ⊢
  have hPD : (fun ws => va_P g.2.2.1 clA ws H ∧ va_D A ws) [(h0, .inr (6, [.null, .ref q1, .null, v0, v0, v0, v0, v0])), (q1, aI g 200), (q2, .inr (8, [.int 12, .int 14, .ref q3])), (q3, aI g 168)] := ⟨hP, hD⟩
  obtain ⟨hP, hD⟩ := hPD
  refine W.widen (k := 3) (n := 371) (by omega) (by omega) ?_
  refine va_putF (D := g.2.2.1) (ci := 6) (v := .ref q2) (ty := .object "FlightLegs$Table") (C := Rk6) (T := Tk6) (N := 8) hx hb hts ik6 ty6 tk6 nk6 hown hK hP hD hS 0 rfl rfl 2 (by decide) (hts _ lfI_Rx_22) (fun _ h9 => h9) rfl hin rfl rfl rfl rfl (Nat.le_of_ble_eq_true rfl) d_I_Rx_25 (fun H locs hP hD hS => ?_)
  have hPD : (fun ws => va_P g.2.2.1 clA ws H ∧ va_D A ws) [(h0, .inr (6, [.null, .ref q1, .ref q2, v0, v0, v0, v0, v0])), (q1, aI g 200), (q2, .inr (8, [.int 12, .int 14, .ref q3])), (q3, aI g 168)] := ⟨hP, hD⟩
  obtain ⟨hP, hD⟩ := hPD
  refine lv_aload_n hx hb d_I_Rx_28 rfl (lv_at hl 0 rfl) ?_
  refine lv_iconst (v := 0) hx hb d_I_Rx_29 (by decide) ?_
  refine va_put (D := g.2.2.1) (ci := 6) (v := .int 0) (ty := .int) (C := Rk6) (T := Tk6) (N := 8) hx hb hts ik6 ty6 tk6 nk6 hown hK hP hD hS 0 rfl rfl 3 (by decide) (hts _ lfI_Rx_26) (fun _ h9 => h9) rfl rfl rfl rfl (Nat.le_of_ble_eq_true rfl) d_I_Rx_30 (fun H locs hP hD hS => ?_)
  have hPD : (fun ws => va_P g.2.2.1 clA ws H ∧ va_D A ws) [(h0, .inr (6, [.null, .ref q1, .ref q2, v0, v0, v0, v0, v0])), (q1, aI g 200), (q2, .inr (8, [.int 12, .int 14, .ref q3])), (q3, aI g 168)] := ⟨hP, hD⟩
  obtain ⟨hP, hD⟩ := hPD
  refine lv_aload_n hx hb d_I_Rx_33 rfl (lv_at hl 0 rfl) ?_
  refine lv_iconst (v := 0) hx hb d_I_Rx_34 (by decide) ?_
  refine va_put (D := g.2.2.1) (ci := 6) (v := .int 0) (ty := .int) (C := Rk6) (T := Tk6) (N := 8) hx hb hts ik6 ty6 tk6 nk6 hown hK hP hD hS 0 rfl rfl 4 (by decide) (hts _ lfI_Rx_30) (fun _ h9 => h9) rfl rfl rfl rfl (Nat.le_of_ble_eq_true rfl) d_I_Rx_35 (fun H locs hP hD hS => ?_)
  have hPD : (fun ws => va_P g.2.2.1 clA ws H ∧ va_D A ws) [(h0, .inr (6, [.null, .ref q1, .ref q2, v0, v0, v0, v0, v0])), (q1, aI g 200), (q2, .inr (8, [.int 12, .int 14, .ref q3])), (q3, aI g 168)] := ⟨hP, hD⟩
  obtain ⟨hP, hD⟩ := hPD
  refine lv_aload_n hx hb d_I_Rx_38 rfl (lv_at hl 0 rfl) ?_
  refine lv_iconst (v := 0) hx hb d_I_Rx_39 (by decide) ?_
  refine va_put (D := g.2.2.1) (ci := 6) (v := .int 0) (ty := .int) (C := Rk6) (T := Tk6) (N := 8) hx hb hts ik6 ty6 tk6 nk6 hown hK hP hD hS 0 rfl rfl 5 (by decide) (hts _ lfI_Rx_33) (fun _ h9 => h9) rfl rfl rfl rfl (Nat.le_of_ble_eq_true rfl) d_I_Rx_40 (fun H locs hP hD hS => ?_)
  have hPD : (fun ws => va_P g.2.2.1 clA ws H ∧ va_D A ws) [(h0, .inr (6, [.null, .ref q1, .ref q2, v0, v0, v0, v0, v0])), (q1, aI g 200), (q2, .inr (8, [.int 12, .int 14, .ref q3])), (q3, aI g 168)] := ⟨hP, hD⟩
  obtain ⟨hP, hD⟩ := hPD
  refine lv_aload_n hx hb d_I_Rx_43 rfl (lv_at hl 0 rfl) ?_
  refine lv_iconst (v := 0) hx hb d_I_Rx_44 (by decide) ?_
  refine va_put (D := g.2.2.1) (ci := 6) (v := .int 0) (ty := .int) (C := Rk6) (T := Tk6) (N := 8) hx hb hts ik6 ty6 tk6 nk6 hown hK hP hD hS 0 rfl rfl 6 (by decide) (hts _ lfI_Rx_36) (fun _ h9 => h9) rfl rfl rfl rfl (Nat.le_of_ble_eq_true rfl) d_I_Rx_45 (fun H locs hP hD hS => ?_)
  have hPD : (fun ws => va_P g.2.2.1 clA ws H ∧ va_D A ws) [(h0, .inr (6, [.null, .ref q1, .ref q2, v0, v0, v0, v0, v0])), (q1, aI g 200), (q2, .inr (8, [.int 12, .int 14, .ref q3])), (q3, aI g 168)] := ⟨hP, hD⟩
  obtain ⟨hP, hD⟩ := hPD
  refine lv_aload_n hx hb d_I_Rx_48 rfl (lv_at hl 0 rfl) ?_
  refine lv_iconst (v := 0) hx hb d_I_Rx_49 (by decide) ?_
  refine va_put (D := g.2.2.1) (ci := 6) (v := .int 0) (ty := .int) (C := Rk6) (T := Tk6) (N := 8) hx hb hts ik6 ty6 tk6 nk6 hown hK hP hD hS 0 rfl rfl 7 (by decide) (hts _ lfI_Rx_39) (fun _ h9 => h9) rfl rfl rfl rfl (Nat.le_of_ble_eq_true rfl) d_I_Rx_50 (fun H locs hP hD hS => ?_)
  have hPD : (fun ws => va_P g.2.2.1 clA ws H ∧ va_D A ws) [(h0, .inr (6, [.null, .ref q1, .ref q2, v0, v0, v0, v0, v0])), (q1, aI g 200), (q2, .inr (8, [.int 12, .int 14, .ref q3])), (q3, aI g 168)] := ⟨hP, hD⟩
  obtain ⟨hP, hD⟩ := hPD
  refine lv_aload_n hx hb d_I_Rx_53 rfl (lv_at hl 0 rfl) ?_
  refine lv_aload_n hx hb d_I_Rx_54 rfl (lv_at hl 1 rfl) ?_
  refine va_putF (D := g.2.2.1) (ci := 6) (v := .ref p1) (ty := .object "FlightLegs$Settings") (C := Rk6) (T := Tk6) (N := 8) hx hb hts ik6 ty6 tk6 nk6 hown hK hP hD hS 0 rfl rfl 0 (by decide) (hts _ lfI_Rx_42) (fun _ h9 => h9) rfl hin rfl rfl rfl rfl (Nat.le_of_ble_eq_true rfl) d_I_Rx_55 (fun H locs hP hD hS => ?_)
  have hPD : (fun ws => va_P g.2.2.1 clA ws H ∧ va_D A ws) [(h0, .inr (6, [.ref p1, .ref q1, .ref q2, v0, v0, v0, v0, v0])), (q1, aI g 200), (q2, .inr (8, [.int 12, .int 14, .ref q3])), (q3, aI g 168)] := ⟨hP, hD⟩
  obtain ⟨hP, hD⟩ := hPD
  refine W.widen (k := 3) (n := 371) (by omega) (by omega) ?_
  exact W.vret hx hb hr (fun t ht hW => ⟨⟨_, rfl, ⟨q1, q2, q3, rfl⟩, by rw [ht]; exact hP, va_K.moved hW.alike hK, hD⟩, hS.F ht⟩) hS.2.2 d_I_Rx_58
theorem d_I_Pl_0 : decode qI_Pl.1 0 = .ok (.aload_n 0, 1) := by decide +kernel
theorem d_I_Pl_1 : decode qI_Pl.1 1 = .ok (.invokespecial 3, 3) := by decide +kernel
theorem d_I_Pl_4 : decode qI_Pl.1 4 = .ok (.aload_n 0, 1) := by decide +kernel
theorem d_I_Pl_5 : decode qI_Pl.1 5 = .ok (.iconst 0, 1) := by decide +kernel
theorem d_I_Pl_6 : decode qI_Pl.1 6 = .ok (.putfield 9, 3) := by decide +kernel
theorem d_I_Pl_9 : decode qI_Pl.1 9 = .ok (.aload_n 0, 1) := by decide +kernel
theorem d_I_Pl_10 : decode qI_Pl.1 10 = .ok (.iconst 0, 1) := by decide +kernel
theorem d_I_Pl_11 : decode qI_Pl.1 11 = .ok (.putfield 15, 3) := by decide +kernel
theorem d_I_Pl_14 : decode qI_Pl.1 14 = .ok (.aload_n 0, 1) := by decide +kernel
theorem d_I_Pl_15 : decode qI_Pl.1 15 = .ok (.iconst 0, 1) := by decide +kernel
theorem d_I_Pl_16 : decode qI_Pl.1 16 = .ok (.putfield 18, 3) := by decide +kernel
theorem d_I_Pl_19 : decode qI_Pl.1 19 = .ok (.aload_n 0, 1) := by decide +kernel
theorem d_I_Pl_20 : decode qI_Pl.1 20 = .ok (.new 22, 3) := by decide +kernel
theorem d_I_Pl_23 : decode qI_Pl.1 23 = .ok (.dup, 1) := by decide +kernel
theorem d_I_Pl_24 : decode qI_Pl.1 24 = .ok (.iload_n 1, 1) := by decide +kernel
theorem d_I_Pl_25 : decode qI_Pl.1 25 = .ok (.bipush 14, 2) := by decide +kernel
theorem d_I_Pl_27 : decode qI_Pl.1 27 = .ok (.invokespecial 24, 3) := by decide +kernel
theorem d_I_Pl_30 : decode qI_Pl.1 30 = .ok (.putfield 27, 3) := by decide +kernel
theorem d_I_Pl_33 : decode qI_Pl.1 33 = .ok (.return_, 1) := by decide +kernel
set_option maxHeartbeats 8000000 in
set_option maxRecDepth 100000 in
theorem k_I_Pl (l : Launch) (g : Ge) (sz h0 : Nat) : Met l yI_Pl (wsq yI_Pl qI_Pl.1 qI_Pl.2.1 qI_Pl.2.2.2) { frames := 2, cells := 2, slots := 297, locals := 43 } (Pk false g [.ref h0, .int 21] sz [(h0, .inr (3, [.null, v0, v0, v0]))]) (Qk g (va_A [(h0, .inr (3, [.null, v0, v0, v0]))] sz) (fun ws9 => ∃ q1 q2 : Nat, ws9 = [(h0, .inr (3, [.ref q1, v0, v0, v0])), (q1, .inr (8, [.int 21, .int 14, .ref q2])), (q2, aI g 294)])) 2 297 (va_A [(h0, .inr (3, [.null, v0, v0, v0]))] sz) := by
  refine Met.ofW (cc := qI_Pl.1) (maxL := qI_Pl.2.1) (ret := qI_Pl.2.2.2) (ws' := lw_g) FI_I_Pl.2.2.2.1 rfl ?_
  intro p e s m args below meth c s₁ B hml hv
  obtain ⟨rfl, hsz, hP, hK, hD0, hnb⟩ := hv
  have hx := B.exec
  have hb := B.bytes
  have hr : meth.sig.returnType = none := B.returns
  have hts : ∀ x ∈ lw_g, x.before _ s = true := fun x hx => atoms_spec (ws := wsq yI_Pl qI_Pl.1 qI_Pl.2.1 qI_Pl.2.2.2) B.pre x (List.mem_cons_of_mem _ hx)
  have hown : s.vm.findClass Rk3 = some m.cls := findClass_of_methodNamed B.named
  have hlocks := B.notSynchronized
  have hin : meth.name = "<init>" := (name_of_methodNamed B.named B.method).1
  subst hsz
  have hD := hD0.self (sz := s.heap.size)
  generalize hAe : va_A [(h0, .inr (3, [.null, v0, v0, v0]))] s.heap.size = A at hD ⊢
  have hA : ∀ q : Nat, s.heap.size ≤ q → A q := fun q h => by rw [← hAe]; exact Or.inr h
  have hS : va_S A s.heap s.heap [] := va_S.rf
  have hl := lv_entry ([.ref h0, .int 21]) (n := qI_Pl.2.1) (Nat.le_of_ble_eq_true rfl)
  rw [lg_entry_eq]
  generalize (lg_sl ([.ref h0, .int 21]) ++ List.replicate (qI_Pl.2.1 - (lg_sl ([.ref h0, .int 21])).length) Slot.unset).toArray = ls at hl ⊢
  have hl : lv_has ls qI_Pl.2.1 [(0, .ref h0), (1, .int 21)] := hl
  refine lv_aload_n hx hb d_I_Pl_0 rfl (lv_at hl 0 rfl) ?_
  refine W.objInit hx hb hown (hts _ lo_3) (hts _ loi) (hts _ loc) rfl (by rw [hml]; exact hl.1) rfl d_I_Pl_1 (Nat.le_of_ble_eq_true rfl) (Nat.le_of_ble_eq_true rfl) ?_
  refine W.eq (g2 := F0 m 4 ls []) rfl ?_
  refine lv_aload_n hx hb d_I_Pl_4 rfl (lv_at hl 0 rfl) ?_
  refine lv_iconst (v := 0) hx hb d_I_Pl_5 (by decide) ?_
  refine va_put (D := g.2.2.1) (ci := 3) (v := .int 0) (ty := .int) (C := Rk3) (T := Tk3) (N := 4) hx hb hts ik3 ty3 tk3 nk3 hown hK hP hD hS 0 rfl rfl 1 (by decide) (hts _ lfI_Pl_9) (fun _ h9 => h9) rfl rfl rfl rfl (Nat.le_of_ble_eq_true rfl) d_I_Pl_6 (fun H locs hP hD hS => ?_)
  have hPD : (fun ws => va_P g.2.2.1 clA ws H ∧ va_D A ws) [(h0, .inr (3, [.null, v0, v0, v0]))] := ⟨hP, hD⟩
  obtain ⟨hP, hD⟩ := hPD
  refine lv_aload_n hx hb d_I_Pl_9 rfl (lv_at hl 0 rfl) ?_
  refine lv_iconst (v := 0) hx hb d_I_Pl_10 (by decide) ?_
  refine va_put (D := g.2.2.1) (ci := 3) (v := .int 0) (ty := .int) (C := Rk3) (T := Tk3) (N := 4) hx hb hts ik3 ty3 tk3 nk3 hown hK hP hD hS 0 rfl rfl 2 (by decide) (hts _ lfI_Pl_15) (fun _ h9 => h9) rfl rfl rfl rfl (Nat.le_of_ble_eq_true rfl) d_I_Pl_11 (fun H locs hP hD hS => ?_)
  have hPD : (fun ws => va_P g.2.2.1 clA ws H ∧ va_D A ws) [(h0, .inr (3, [.null, v0, v0, v0]))] := ⟨hP, hD⟩
  obtain ⟨hP, hD⟩ := hPD
  refine lv_aload_n hx hb d_I_Pl_14 rfl (lv_at hl 0 rfl) ?_
  refine lv_iconst (v := 0) hx hb d_I_Pl_15 (by decide) ?_
  refine va_put (D := g.2.2.1) (ci := 3) (v := .int 0) (ty := .boolean) (C := Rk3) (T := Tk3) (N := 4) hx hb hts ik3 ty3 tk3 nk3 hown hK hP hD hS 0 rfl rfl 3 (by decide) (hts _ lfI_Pl_18) (fun _ h9 => h9) rfl rfl rfl rfl (Nat.le_of_ble_eq_true rfl) d_I_Pl_16 (fun H locs hP hD hS => ?_)
  have hPD : (fun ws => va_P g.2.2.1 clA ws H ∧ va_D A ws) [(h0, .inr (3, [.null, v0, v0, v0]))] := ⟨hP, hD⟩
  obtain ⟨hP, hD⟩ := hPD
  refine lv_aload_n hx hb d_I_Pl_19 rfl (lv_at hl 0 rfl) ?_
  refine va_new (D := g.2.2.1) (ci := 8) (fs := [.int 0, .int 0, .null]) (C := Rk8) (T := Tk8) (N := 3) hx hb hts ik8 ty8 tk8 hown (hts _ lkI_Pl_22) (hts _ lnI_8) (hts _ lin8) hK hP hD hS hA rfl dv_8 (Nat.le_of_ble_eq_true rfl) (Nat.le_of_ble_eq_true rfl) d_I_Pl_20 (fun q1 H hP hD hS => ?_)
  have hPD : (fun ws => va_P g.2.2.1 clA ws H ∧ va_D A ws) [(h0, .inr (3, [.null, v0, v0, v0])), (q1, .inr (8, [v0, v0, .null]))] := ⟨hP, hD⟩
  obtain ⟨hP, hD⟩ := hPD
  refine W.widen (k := 1) (n := 3) (by omega) (by omega) ?_
  refine lv_dup hx hb d_I_Pl_23 rfl ?_
  refine lv_iload_n hx hb d_I_Pl_24 rfl (lv_at hl 1 rfl) ?_
  refine lv_bipush (v := 14) hx hb d_I_Pl_25 (by decide) ?_
  have hPc := hP.sub (ws' := [(q1, .inr (8, [v0, v0, .null]))]) [1] rfl
  have hDc := hD.sub (ws' := [(q1, .inr (8, [v0, v0, .null]))]) [1] (by decide) rfl
  have hFc := va_free (wc := [(q1, .inr (8, [v0, v0, .null]))]) hD hS hA [1] rfl
  refine va_callv (va_runI (As := [.int 21, .int 14]) (rest := [.ref q1, .ref h0]) (n := 2) ⟨hx, hb, hml, hown, hts⟩ (k_I_Tb _ g H.size q1 21 14 21 14 294 (by decide) (by decide) (by decide) (by decide) (by decide)) ⟨callB_of 2 hts (good_tbl FI_I_Tb.1) rfl rfl rfl (hts _ FI_I_Tb.2.1) (hts _ lmI_Pl_24) FI_I_Tb.2.2.1 ⟨Nat.le_of_ble_eq_true rfl, Nat.le_of_ble_eq_true rfl⟩, rfl, hts _ FI_I_Tb.2.2.2.2⟩ ⟨Pk_blind _ _ _ _ _, fun U hU hW => ⟨rfl, by rw [hU], by rw [hU]; exact hPc, va_K.moved hW.alike hK, hDc.weaken (fun _ _ _ _ => trivial), fun q => by cases q⟩⟩ rfl rfl hl.1 rfl (lv_room (Nat.le_of_ble_eq_true rfl)) d_I_Pl_27 ⟨Nat.le_of_ble_eq_true rfl, Nat.le_of_ble_eq_true rfl⟩) hS (fun q _ h => hFc q h) hFc (fun u t H1 locs ht hvm hw hB hz1 hk1 hS => ?_)
  obtain ⟨q2, rfl⟩ := hw
  obtain ⟨hP1, hK1, hD1⟩ := hB
  rw [ht] at hP1
  obtain ⟨hP, hD⟩ := va_join (wr := [(h0, .inr (3, [.null, v0, v0, v0]))]) (w1 := [(q1, .inr (8, [.int 21, .int 14, .ref q2])), (q2, aI g 294)]) hP hD [1] [0] rfl rfl (by decide) (by decide) hk1 hFc hP1 hD1
  generalize H1 = H at hP hS ⊢
  have hPD : (fun ws => va_P g.2.2.1 clA ws H ∧ va_D A ws) [(h0, .inr (3, [.null, v0, v0, v0])), (q1, .inr (8, [.int 21, .int 14, .ref q2])), (q2, aI g 294)] := ⟨hP, hD⟩
  obtain ⟨hP, hD⟩ := hPD
  refine W.widen (k := 2) (n := 297) (by omega) (by omega) ?_
  refine va_putF (D := g.2.2.1) (ci := 3) (v := .ref q1) (ty := .object "FlightLegs$Table") (C := Rk3) (T := Tk3) (N := 4) hx hb hts ik3 ty3 tk3 nk3 hown hK hP hD hS 0 rfl rfl 0 (by decide) (hts _ lfI_Pl_27) (fun _ h9 => h9) rfl hin rfl rfl rfl rfl (Nat.le_of_ble_eq_true rfl) d_I_Pl_30 (fun H locs hP hD hS => ?_)
  have hPD : (fun ws => va_P g.2.2.1 clA ws H ∧ va_D A ws) [(h0, .inr (3, [.ref q1, v0, v0, v0])), (q1, .inr (8, [.int 21, .int 14, .ref q2])), (q2, aI g 294)] := ⟨hP, hD⟩
  obtain ⟨hP, hD⟩ := hPD
  refine W.widen (k := 2) (n := 297) (by omega) (by omega) ?_
  exact W.vret hx hb hr (fun t ht hW => ⟨⟨_, rfl, ⟨q1, q2, rfl⟩, by rw [ht]; exact hP, va_K.moved hW.alike hK, hD⟩, hS.F ht⟩) hS.2.2 d_I_Pl_33
theorem d_I_Tk_0 : decode qI_Tk.1 0 = .ok (.aload_n 0, 1) := by decide +kernel
theorem d_I_Tk_1 : decode qI_Tk.1 1 = .ok (.invokespecial 3, 3) := by decide +kernel
theorem d_I_Tk_4 : decode qI_Tk.1 4 = .ok (.aload_n 0, 1) := by decide +kernel
theorem d_I_Tk_5 : decode qI_Tk.1 5 = .ok (.iconst 0, 1) := by decide +kernel
theorem d_I_Tk_6 : decode qI_Tk.1 6 = .ok (.putfield 9, 3) := by decide +kernel
theorem d_I_Tk_9 : decode qI_Tk.1 9 = .ok (.aload_n 0, 1) := by decide +kernel
theorem d_I_Tk_10 : decode qI_Tk.1 10 = .ok (.iconst 0, 1) := by decide +kernel
theorem d_I_Tk_11 : decode qI_Tk.1 11 = .ok (.putfield 15, 3) := by decide +kernel
theorem d_I_Tk_14 : decode qI_Tk.1 14 = .ok (.aload_n 0, 1) := by decide +kernel
theorem d_I_Tk_15 : decode qI_Tk.1 15 = .ok (.iconst 0, 1) := by decide +kernel
theorem d_I_Tk_16 : decode qI_Tk.1 16 = .ok (.putfield 18, 3) := by decide +kernel
theorem d_I_Tk_19 : decode qI_Tk.1 19 = .ok (.aload_n 0, 1) := by decide +kernel
theorem d_I_Tk_20 : decode qI_Tk.1 20 = .ok (.iconst (-1), 1) := by decide +kernel
theorem d_I_Tk_21 : decode qI_Tk.1 21 = .ok (.putfield 21, 3) := by decide +kernel
theorem d_I_Tk_24 : decode qI_Tk.1 24 = .ok (.aload_n 0, 1) := by decide +kernel
theorem d_I_Tk_25 : decode qI_Tk.1 25 = .ok (.iconst 0, 1) := by decide +kernel
theorem d_I_Tk_26 : decode qI_Tk.1 26 = .ok (.putfield 24, 3) := by decide +kernel
theorem d_I_Tk_29 : decode qI_Tk.1 29 = .ok (.aload_n 0, 1) := by decide +kernel
theorem d_I_Tk_30 : decode qI_Tk.1 30 = .ok (.iconst 0, 1) := by decide +kernel
theorem d_I_Tk_31 : decode qI_Tk.1 31 = .ok (.putfield 27, 3) := by decide +kernel
theorem d_I_Tk_34 : decode qI_Tk.1 34 = .ok (.aload_n 0, 1) := by decide +kernel
theorem d_I_Tk_35 : decode qI_Tk.1 35 = .ok (.iconst 0, 1) := by decide +kernel
theorem d_I_Tk_36 : decode qI_Tk.1 36 = .ok (.putfield 30, 3) := by decide +kernel
theorem d_I_Tk_39 : decode qI_Tk.1 39 = .ok (.aload_n 0, 1) := by decide +kernel
theorem d_I_Tk_40 : decode qI_Tk.1 40 = .ok (.iconst 0, 1) := by decide +kernel
theorem d_I_Tk_41 : decode qI_Tk.1 41 = .ok (.putfield 34, 3) := by decide +kernel
theorem d_I_Tk_44 : decode qI_Tk.1 44 = .ok (.aload_n 0, 1) := by decide +kernel
theorem d_I_Tk_45 : decode qI_Tk.1 45 = .ok (.aload_n 1, 1) := by decide +kernel
theorem d_I_Tk_46 : decode qI_Tk.1 46 = .ok (.putfield 37, 3) := by decide +kernel
theorem d_I_Tk_49 : decode qI_Tk.1 49 = .ok (.aload_n 0, 1) := by decide +kernel
theorem d_I_Tk_50 : decode qI_Tk.1 50 = .ok (.aload_n 2, 1) := by decide +kernel
theorem d_I_Tk_51 : decode qI_Tk.1 51 = .ok (.putfield 41, 3) := by decide +kernel
theorem d_I_Tk_54 : decode qI_Tk.1 54 = .ok (.aload_n 0, 1) := by decide +kernel
theorem d_I_Tk_55 : decode qI_Tk.1 55 = .ok (.aload_n 3, 1) := by decide +kernel
theorem d_I_Tk_56 : decode qI_Tk.1 56 = .ok (.putfield 45, 3) := by decide +kernel
theorem d_I_Tk_59 : decode qI_Tk.1 59 = .ok (.aload_n 0, 1) := by decide +kernel
theorem d_I_Tk_60 : decode qI_Tk.1 60 = .ok (.new 49, 3) := by decide +kernel
theorem d_I_Tk_63 : decode qI_Tk.1 63 = .ok (.dup, 1) := by decide +kernel
theorem d_I_Tk_64 : decode qI_Tk.1 64 = .ok (.iload 4, 2) := by decide +kernel
theorem d_I_Tk_66 : decode qI_Tk.1 66 = .ok (.iconst 2, 1) := by decide +kernel
theorem d_I_Tk_67 : decode qI_Tk.1 67 = .ok (.imul, 1) := by decide +kernel
theorem d_I_Tk_68 : decode qI_Tk.1 68 = .ok (.bipush 16, 2) := by decide +kernel
theorem d_I_Tk_70 : decode qI_Tk.1 70 = .ok (.invokespecial 51, 3) := by decide +kernel
theorem d_I_Tk_73 : decode qI_Tk.1 73 = .ok (.putfield 54, 3) := by decide +kernel
theorem d_I_Tk_76 : decode qI_Tk.1 76 = .ok (.return_, 1) := by decide +kernel
set_option maxHeartbeats 8000000 in
set_option maxRecDepth 100000 in
theorem k_I_Tk (l : Launch) (g : Ge) (sz h0 : Nat) (p1 : Nat) (p2 : Nat) (p3 : Nat) : Met l yI_Tk (wsq yI_Tk qI_Tk.1 qI_Tk.2.1 qI_Tk.2.2.2) { frames := 2, cells := 2, slots := 675, locals := 43 } (Pk false g [.ref h0, .ref p1, .ref p2, .ref p3, .int 21] sz [(h0, .inr (9, [.null, .null, .null, .null, v0, v0, v0, v0, v0, v0, v0, v0]))]) (Qk g (va_A [(h0, .inr (9, [.null, .null, .null, .null, v0, v0, v0, v0, v0, v0, v0, v0]))] sz) (fun ws9 => ∃ q1 q2 : Nat, ws9 = [(h0, .inr (9, [.ref p1, .ref p2, .ref p3, .ref q1, v0, v0, v0, .int (-1), v0, v0, v0, v0])), (q1, .inr (8, [.int 42, .int 16, .ref q2])), (q2, aI g 672)])) 2 675 (va_A [(h0, .inr (9, [.null, .null, .null, .null, v0, v0, v0, v0, v0, v0, v0, v0]))] sz) := by
  refine Met.ofW (cc := qI_Tk.1) (maxL := qI_Tk.2.1) (ret := qI_Tk.2.2.2) (ws' := lw_g) FI_I_Tk.2.2.2.1 rfl ?_
  intro p e s m args below meth c s₁ B hml hv
  obtain ⟨rfl, hsz, hP, hK, hD0, hnb⟩ := hv
  have hx := B.exec
  have hb := B.bytes
  have hr : meth.sig.returnType = none := B.returns
  have hts : ∀ x ∈ lw_g, x.before _ s = true := fun x hx => atoms_spec (ws := wsq yI_Tk qI_Tk.1 qI_Tk.2.1 qI_Tk.2.2.2) B.pre x (List.mem_cons_of_mem _ hx)
  have hown : s.vm.findClass Rk9 = some m.cls := findClass_of_methodNamed B.named
  have hlocks := B.notSynchronized
  have hin : meth.name = "<init>" := (name_of_methodNamed B.named B.method).1
  subst hsz
  have hD := hD0.self (sz := s.heap.size)
  generalize hAe : va_A [(h0, .inr (9, [.null, .null, .null, .null, v0, v0, v0, v0, v0, v0, v0, v0]))] s.heap.size = A at hD ⊢
  have hA : ∀ q : Nat, s.heap.size ≤ q → A q := fun q h => by rw [← hAe]; exact Or.inr h
  have hS : va_S A s.heap s.heap [] := va_S.rf
  have hl := lv_entry ([.ref h0, .ref p1, .ref p2, .ref p3, .int 21]) (n := qI_Tk.2.1) (Nat.le_of_ble_eq_true rfl)
  rw [lg_entry_eq]
  generalize (lg_sl ([.ref h0, .ref p1, .ref p2, .ref p3, .int 21]) ++ List.replicate (qI_Tk.2.1 - (lg_sl ([.ref h0, .ref p1, .ref p2, .ref p3, .int 21])).length) Slot.unset).toArray = ls at hl ⊢
  have hl : lv_has ls qI_Tk.2.1 [(0, .ref h0), (1, .ref p1), (2, .ref p2), (3, .ref p3), (4, .int 21)] := hl
  refine lv_aload_n hx hb d_I_Tk_0 rfl (lv_at hl 0 rfl) ?_
  refine W.objInit hx hb hown (hts _ lo_9) (hts _ loi) (hts _ loc) rfl (by rw [hml]; exact hl.1) rfl d_I_Tk_1 (Nat.le_of_ble_eq_true rfl) (Nat.le_of_ble_eq_true rfl) ?_
  refine W.eq (g2 := F0 m 4 ls []) rfl ?_
  refine lv_aload_n hx hb d_I_Tk_4 rfl (lv_at hl 0 rfl) ?_
  refine lv_iconst (v := 0) hx hb d_I_Tk_5 (by decide) ?_
  refine va_put (D := g.2.2.1) (ci := 9) (v := .int 0) (ty := .int) (C := Rk9) (T := Tk9) (N := 12) hx hb hts ik9 ty9 tk9 nk9 hown hK hP hD hS 0 rfl rfl 4 (by decide) (hts _ lfI_Tk_9) (fun _ h9 => h9) rfl rfl rfl rfl (Nat.le_of_ble_eq_true rfl) d_I_Tk_6 (fun H locs hP hD hS => ?_)
  have hPD : (fun ws => va_P g.2.2.1 clA ws H ∧ va_D A ws) [(h0, .inr (9, [.null, .null, .null, .null, v0, v0, v0, v0, v0, v0, v0, v0]))] := ⟨hP, hD⟩
  obtain ⟨hP, hD⟩ := hPD
  refine lv_aload_n hx hb d_I_Tk_9 rfl (lv_at hl 0 rfl) ?_
  refine lv_iconst (v := 0) hx hb d_I_Tk_10 (by decide) ?_
  refine va_put (D := g.2.2.1) (ci := 9) (v := .int 0) (ty := .int) (C := Rk9) (T := Tk9) (N := 12) hx hb hts ik9 ty9 tk9 nk9 hown hK hP hD hS 0 rfl rfl 5 (by decide) (hts _ lfI_Tk_15) (fun _ h9 => h9) rfl rfl rfl rfl (Nat.le_of_ble_eq_true rfl) d_I_Tk_11 (fun H locs hP hD hS => ?_)
  have hPD : (fun ws => va_P g.2.2.1 clA ws H ∧ va_D A ws) [(h0, .inr (9, [.null, .null, .null, .null, v0, v0, v0, v0, v0, v0, v0, v0]))] := ⟨hP, hD⟩
  obtain ⟨hP, hD⟩ := hPD
  refine lv_aload_n hx hb d_I_Tk_14 rfl (lv_at hl 0 rfl) ?_
  refine lv_iconst (v := 0) hx hb d_I_Tk_15 (by decide) ?_
  refine va_put (D := g.2.2.1) (ci := 9) (v := .int 0) (ty := .int) (C := Rk9) (T := Tk9) (N := 12) hx hb hts ik9 ty9 tk9 nk9 hown hK hP hD hS 0 rfl rfl 6 (by decide) (hts _ lfI_Tk_18) (fun _ h9 => h9) rfl rfl rfl rfl (Nat.le_of_ble_eq_true rfl) d_I_Tk_16 (fun H locs hP hD hS => ?_)
  have hPD : (fun ws => va_P g.2.2.1 clA ws H ∧ va_D A ws) [(h0, .inr (9, [.null, .null, .null, .null, v0, v0, v0, v0, v0, v0, v0, v0]))] := ⟨hP, hD⟩
  obtain ⟨hP, hD⟩ := hPD
  refine lv_aload_n hx hb d_I_Tk_19 rfl (lv_at hl 0 rfl) ?_
  refine lv_iconst (v := -1) hx hb d_I_Tk_20 (by decide) ?_
  refine va_put (D := g.2.2.1) (ci := 9) (v := .int (-1)) (ty := .int) (C := Rk9) (T := Tk9) (N := 12) hx hb hts ik9 ty9 tk9 nk9 hown hK hP hD hS 0 rfl rfl 7 (by decide) (hts _ lfI_Tk_21) (fun _ h9 => h9) rfl rfl rfl rfl (Nat.le_of_ble_eq_true rfl) d_I_Tk_21 (fun H locs hP hD hS => ?_)
  have hPD : (fun ws => va_P g.2.2.1 clA ws H ∧ va_D A ws) [(h0, .inr (9, [.null, .null, .null, .null, v0, v0, v0, .int (-1), v0, v0, v0, v0]))] := ⟨hP, hD⟩
  obtain ⟨hP, hD⟩ := hPD
  refine lv_aload_n hx hb d_I_Tk_24 rfl (lv_at hl 0 rfl) ?_
  refine lv_iconst (v := 0) hx hb d_I_Tk_25 (by decide) ?_
  refine va_put (D := g.2.2.1) (ci := 9) (v := .int 0) (ty := .int) (C := Rk9) (T := Tk9) (N := 12) hx hb hts ik9 ty9 tk9 nk9 hown hK hP hD hS 0 rfl rfl 8 (by decide) (hts _ lfI_Tk_24) (fun _ h9 => h9) rfl rfl rfl rfl (Nat.le_of_ble_eq_true rfl) d_I_Tk_26 (fun H locs hP hD hS => ?_)
  have hPD : (fun ws => va_P g.2.2.1 clA ws H ∧ va_D A ws) [(h0, .inr (9, [.null, .null, .null, .null, v0, v0, v0, .int (-1), v0, v0, v0, v0]))] := ⟨hP, hD⟩
  obtain ⟨hP, hD⟩ := hPD
  refine lv_aload_n hx hb d_I_Tk_29 rfl (lv_at hl 0 rfl) ?_
  refine lv_iconst (v := 0) hx hb d_I_Tk_30 (by decide) ?_
  refine va_put (D := g.2.2.1) (ci := 9) (v := .int 0) (ty := .int) (C := Rk9) (T := Tk9) (N := 12) hx hb hts ik9 ty9 tk9 nk9 hown hK hP hD hS 0 rfl rfl 9 (by decide) (hts _ lfI_Tk_27) (fun _ h9 => h9) rfl rfl rfl rfl (Nat.le_of_ble_eq_true rfl) d_I_Tk_31 (fun H locs hP hD hS => ?_)
  have hPD : (fun ws => va_P g.2.2.1 clA ws H ∧ va_D A ws) [(h0, .inr (9, [.null, .null, .null, .null, v0, v0, v0, .int (-1), v0, v0, v0, v0]))] := ⟨hP, hD⟩
  obtain ⟨hP, hD⟩ := hPD
  refine lv_aload_n hx hb d_I_Tk_34 rfl (lv_at hl 0 rfl) ?_
  refine lv_iconst (v := 0) hx hb d_I_Tk_35 (by decide) ?_
  refine va_put (D := g.2.2.1) (ci := 9) (v := .int 0) (ty := .boolean) (C := Rk9) (T := Tk9) (N := 12) hx hb hts ik9 ty9 tk9 nk9 hown hK hP hD hS 0 rfl rfl 10 (by decide) (hts _ lfI_Tk_30) (fun _ h9 => h9) rfl rfl rfl rfl (Nat.le_of_ble_eq_true rfl) d_I_Tk_36 (fun H locs hP hD hS => ?_)
  have hPD : (fun ws => va_P g.2.2.1 clA ws H ∧ va_D A ws) [(h0, .inr (9, [.null, .null, .null, .null, v0, v0, v0, .int (-1), v0, v0, v0, v0]))] := ⟨hP, hD⟩
  obtain ⟨hP, hD⟩ := hPD
  refine lv_aload_n hx hb d_I_Tk_39 rfl (lv_at hl 0 rfl) ?_
  refine lv_iconst (v := 0) hx hb d_I_Tk_40 (by decide) ?_
  refine va_put (D := g.2.2.1) (ci := 9) (v := .int 0) (ty := .int) (C := Rk9) (T := Tk9) (N := 12) hx hb hts ik9 ty9 tk9 nk9 hown hK hP hD hS 0 rfl rfl 11 (by decide) (hts _ lfI_Tk_34) (fun _ h9 => h9) rfl rfl rfl rfl (Nat.le_of_ble_eq_true rfl) d_I_Tk_41 (fun H locs hP hD hS => ?_)
  have hPD : (fun ws => va_P g.2.2.1 clA ws H ∧ va_D A ws) [(h0, .inr (9, [.null, .null, .null, .null, v0, v0, v0, .int (-1), v0, v0, v0, v0]))] := ⟨hP, hD⟩
  obtain ⟨hP, hD⟩ := hPD
  refine lv_aload_n hx hb d_I_Tk_44 rfl (lv_at hl 0 rfl) ?_
  refine lv_aload_n hx hb d_I_Tk_45 rfl (lv_at hl 1 rfl) ?_
  refine va_putF (D := g.2.2.1) (ci := 9) (v := .ref p1) (ty := .object "FlightLegs$Plan") (C := Rk9) (T := Tk9) (N := 12) hx hb hts ik9 ty9 tk9 nk9 hown hK hP hD hS 0 rfl rfl 0 (by decide) (hts _ lfI_Tk_37) (fun _ h9 => h9) rfl hin rfl rfl rfl rfl (Nat.le_of_ble_eq_true rfl) d_I_Tk_46 (fun H locs hP hD hS => ?_)
  have hPD : (fun ws => va_P g.2.2.1 clA ws H ∧ va_D A ws) [(h0, .inr (9, [.ref p1, .null, .null, .null, v0, v0, v0, .int (-1), v0, v0, v0, v0]))] := ⟨hP, hD⟩
  obtain ⟨hP, hD⟩ := hPD
  refine lv_aload_n hx hb d_I_Tk_49 rfl (lv_at hl 0 rfl) ?_
  refine lv_aload_n hx hb d_I_Tk_50 rfl (lv_at hl 2 rfl) ?_
  refine va_putF (D := g.2.2.1) (ci := 9) (v := .ref p2) (ty := .object "FlightLegs$Settings") (C := Rk9) (T := Tk9) (N := 12) hx hb hts ik9 ty9 tk9 nk9 hown hK hP hD hS 0 rfl rfl 1 (by decide) (hts _ lfI_Tk_41) (fun _ h9 => h9) rfl hin rfl rfl rfl rfl (Nat.le_of_ble_eq_true rfl) d_I_Tk_51 (fun H locs hP hD hS => ?_)
  have hPD : (fun ws => va_P g.2.2.1 clA ws H ∧ va_D A ws) [(h0, .inr (9, [.ref p1, .ref p2, .null, .null, v0, v0, v0, .int (-1), v0, v0, v0, v0]))] := ⟨hP, hD⟩
  obtain ⟨hP, hD⟩ := hPD
  refine lv_aload_n hx hb d_I_Tk_54 rfl (lv_at hl 0 rfl) ?_
  refine lv_aload_n hx hb d_I_Tk_55 rfl (lv_at hl 3 rfl) ?_
  refine va_putF (D := g.2.2.1) (ci := 9) (v := .ref p3) (ty := .object "FlightLegs$Table") (C := Rk9) (T := Tk9) (N := 12) hx hb hts ik9 ty9 tk9 nk9 hown hK hP hD hS 0 rfl rfl 2 (by decide) (hts _ lfI_Tk_45) (fun _ h9 => h9) rfl hin rfl rfl rfl rfl (Nat.le_of_ble_eq_true rfl) d_I_Tk_56 (fun H locs hP hD hS => ?_)
  have hPD : (fun ws => va_P g.2.2.1 clA ws H ∧ va_D A ws) [(h0, .inr (9, [.ref p1, .ref p2, .ref p3, .null, v0, v0, v0, .int (-1), v0, v0, v0, v0]))] := ⟨hP, hD⟩
  obtain ⟨hP, hD⟩ := hPD
  refine lv_aload_n hx hb d_I_Tk_59 rfl (lv_at hl 0 rfl) ?_
  refine va_new (D := g.2.2.1) (ci := 8) (fs := [.int 0, .int 0, .null]) (C := Rk8) (T := Tk8) (N := 3) hx hb hts ik8 ty8 tk8 hown (hts _ lkI_Tk_49) (hts _ lnI_8) (hts _ lin8) hK hP hD hS hA rfl dv_8 (Nat.le_of_ble_eq_true rfl) (Nat.le_of_ble_eq_true rfl) d_I_Tk_60 (fun q1 H hP hD hS => ?_)
  have hPD : (fun ws => va_P g.2.2.1 clA ws H ∧ va_D A ws) [(h0, .inr (9, [.ref p1, .ref p2, .ref p3, .null, v0, v0, v0, .int (-1), v0, v0, v0, v0])), (q1, .inr (8, [v0, v0, .null]))] := ⟨hP, hD⟩
  obtain ⟨hP, hD⟩ := hPD
  refine W.widen (k := 1) (n := 3) (by omega) (by omega) ?_
  refine lv_dup hx hb d_I_Tk_63 rfl ?_
  refine lv_iload hx hb d_I_Tk_64 (lv_at hl 4 rfl) ?_
  refine lv_iconst (v := 2) hx hb d_I_Tk_66 (by decide) ?_
  refine lv_imul hx hb d_I_Tk_67 ?_
  refine lv_topi (fun x_67 ex_67 => ?_)
  rw [show ((21 * 2) : Int32) = 42 by decide] at ex_67
  subst ex_67
  refine lv_bipush (v := 16) hx hb d_I_Tk_68 (by decide) ?_
  have hPc := hP.sub (ws' := [(q1, .inr (8, [v0, v0, .null]))]) [1] rfl
  have hDc := hD.sub (ws' := [(q1, .inr (8, [v0, v0, .null]))]) [1] (by decide) rfl
  have hFc := va_free (wc := [(q1, .inr (8, [v0, v0, .null]))]) hD hS hA [1] rfl
  refine va_callv (va_runI (As := [.int 42, .int 16]) (rest := [.ref q1, .ref h0]) (n := 2) ⟨hx, hb, hml, hown, hts⟩ (k_I_Tb _ g H.size q1 42 16 42 16 672 (by decide) (by decide) (by decide) (by decide) (by decide)) ⟨callB_of 2 hts (good_tbl FI_I_Tb.1) rfl rfl rfl (hts _ FI_I_Tb.2.1) (hts _ lmI_Tk_51) FI_I_Tb.2.2.1 ⟨Nat.le_of_ble_eq_true rfl, Nat.le_of_ble_eq_true rfl⟩, rfl, hts _ FI_I_Tb.2.2.2.2⟩ ⟨Pk_blind _ _ _ _ _, fun U hU hW => ⟨rfl, by rw [hU], by rw [hU]; exact hPc, va_K.moved hW.alike hK, hDc.weaken (fun _ _ _ _ => trivial), fun q => by cases q⟩⟩ rfl rfl hl.1 rfl (lv_room (Nat.le_of_ble_eq_true rfl)) d_I_Tk_70 ⟨Nat.le_of_ble_eq_true rfl, Nat.le_of_ble_eq_true rfl⟩) hS (fun q _ h => hFc q h) hFc (fun u t H1 locs ht hvm hw hB hz1 hk1 hS => ?_)
  obtain ⟨q2, rfl⟩ := hw
  obtain ⟨hP1, hK1, hD1⟩ := hB
  rw [ht] at hP1
  obtain ⟨hP, hD⟩ := va_join (wr := [(h0, .inr (9, [.ref p1, .ref p2, .ref p3, .null, v0, v0, v0, .int (-1), v0, v0, v0, v0]))]) (w1 := [(q1, .inr (8, [.int 42, .int 16, .ref q2])), (q2, aI g 672)]) hP hD [1] [0] rfl rfl (by decide) (by decide) hk1 hFc hP1 hD1
  generalize H1 = H at hP hS ⊢
  have hPD : (fun ws => va_P g.2.2.1 clA ws H ∧ va_D A ws) [(h0, .inr (9, [.ref p1, .ref p2, .ref p3, .null, v0, v0, v0, .int (-1), v0, v0, v0, v0])), (q1, .inr (8, [.int 42, .int 16, .ref q2])), (q2, aI g 672)] := ⟨hP, hD⟩
  obtain ⟨hP, hD⟩ := hPD
  refine W.widen (k := 2) (n := 675) (by omega) (by omega) ?_
  refine va_putF (D := g.2.2.1) (ci := 9) (v := .ref q1) (ty := .object "FlightLegs$Table") (C := Rk9) (T := Tk9) (N := 12) hx hb hts ik9 ty9 tk9 nk9 hown hK hP hD hS 0 rfl rfl 3 (by decide) (hts _ lfI_Tk_54) (fun _ h9 => h9) rfl hin rfl rfl rfl rfl (Nat.le_of_ble_eq_true rfl) d_I_Tk_73 (fun H locs hP hD hS => ?_)
  have hPD : (fun ws => va_P g.2.2.1 clA ws H ∧ va_D A ws) [(h0, .inr (9, [.ref p1, .ref p2, .ref p3, .ref q1, v0, v0, v0, .int (-1), v0, v0, v0, v0])), (q1, .inr (8, [.int 42, .int 16, .ref q2])), (q2, aI g 672)] := ⟨hP, hD⟩
  obtain ⟨hP, hD⟩ := hPD
  refine W.widen (k := 2) (n := 675) (by omega) (by omega) ?_
  exact W.vret hx hb hr (fun t ht hW => ⟨⟨_, rfl, ⟨q1, q2, rfl⟩, by rw [ht]; exact hP, va_K.moved hW.alike hK, hD⟩, hS.F ht⟩) hS.2.2 d_I_Tk_76
theorem d_I_Pc_0 : decode qI_Pc.1 0 = .ok (.aload_n 0, 1) := by decide +kernel
theorem d_I_Pc_1 : decode qI_Pc.1 1 = .ok (.invokespecial 3, 3) := by decide +kernel
theorem d_I_Pc_4 : decode qI_Pc.1 4 = .ok (.aload_n 0, 1) := by decide +kernel
theorem d_I_Pc_5 : decode qI_Pc.1 5 = .ok (.iconst 0, 1) := by decide +kernel
theorem d_I_Pc_6 : decode qI_Pc.1 6 = .ok (.putfield 9, 3) := by decide +kernel
theorem d_I_Pc_9 : decode qI_Pc.1 9 = .ok (.aload_n 0, 1) := by decide +kernel
theorem d_I_Pc_10 : decode qI_Pc.1 10 = .ok (.iconst 0, 1) := by decide +kernel
theorem d_I_Pc_11 : decode qI_Pc.1 11 = .ok (.putfield 15, 3) := by decide +kernel
theorem d_I_Pc_14 : decode qI_Pc.1 14 = .ok (.aload_n 0, 1) := by decide +kernel
theorem d_I_Pc_15 : decode qI_Pc.1 15 = .ok (.iconst 0, 1) := by decide +kernel
theorem d_I_Pc_16 : decode qI_Pc.1 16 = .ok (.putfield 18, 3) := by decide +kernel
theorem d_I_Pc_19 : decode qI_Pc.1 19 = .ok (.aload_n 0, 1) := by decide +kernel
theorem d_I_Pc_20 : decode qI_Pc.1 20 = .ok (.iconst 0, 1) := by decide +kernel
theorem d_I_Pc_21 : decode qI_Pc.1 21 = .ok (.putfield 21, 3) := by decide +kernel
theorem d_I_Pc_24 : decode qI_Pc.1 24 = .ok (.aload_n 0, 1) := by decide +kernel
theorem d_I_Pc_25 : decode qI_Pc.1 25 = .ok (.iconst 0, 1) := by decide +kernel
theorem d_I_Pc_26 : decode qI_Pc.1 26 = .ok (.putfield 24, 3) := by decide +kernel
theorem d_I_Pc_29 : decode qI_Pc.1 29 = .ok (.aload_n 0, 1) := by decide +kernel
theorem d_I_Pc_30 : decode qI_Pc.1 30 = .ok (.iconst 0, 1) := by decide +kernel
theorem d_I_Pc_31 : decode qI_Pc.1 31 = .ok (.putfield 27, 3) := by decide +kernel
theorem d_I_Pc_34 : decode qI_Pc.1 34 = .ok (.aload_n 0, 1) := by decide +kernel
theorem d_I_Pc_35 : decode qI_Pc.1 35 = .ok (.aload_n 1, 1) := by decide +kernel
theorem d_I_Pc_36 : decode qI_Pc.1 36 = .ok (.putfield 30, 3) := by decide +kernel
theorem d_I_Pc_39 : decode qI_Pc.1 39 = .ok (.aload_n 0, 1) := by decide +kernel
theorem d_I_Pc_40 : decode qI_Pc.1 40 = .ok (.aload_n 2, 1) := by decide +kernel
theorem d_I_Pc_41 : decode qI_Pc.1 41 = .ok (.putfield 34, 3) := by decide +kernel
theorem d_I_Pc_44 : decode qI_Pc.1 44 = .ok (.aload_n 0, 1) := by decide +kernel
theorem d_I_Pc_45 : decode qI_Pc.1 45 = .ok (.aload_n 3, 1) := by decide +kernel
theorem d_I_Pc_46 : decode qI_Pc.1 46 = .ok (.getfield 38, 3) := by decide +kernel
theorem d_I_Pc_49 : decode qI_Pc.1 49 = .ok (.putfield 44, 3) := by decide +kernel
theorem d_I_Pc_52 : decode qI_Pc.1 52 = .ok (.aload_n 0, 1) := by decide +kernel
theorem d_I_Pc_53 : decode qI_Pc.1 53 = .ok (.aload_n 3, 1) := by decide +kernel
theorem d_I_Pc_54 : decode qI_Pc.1 54 = .ok (.getfield 45, 3) := by decide +kernel
theorem d_I_Pc_57 : decode qI_Pc.1 57 = .ok (.putfield 48, 3) := by decide +kernel
theorem d_I_Pc_60 : decode qI_Pc.1 60 = .ok (.aload_n 0, 1) := by decide +kernel
theorem d_I_Pc_61 : decode qI_Pc.1 61 = .ok (.new 49, 3) := by decide +kernel
theorem d_I_Pc_64 : decode qI_Pc.1 64 = .ok (.dup, 1) := by decide +kernel
theorem d_I_Pc_65 : decode qI_Pc.1 65 = .ok (.iload 4, 2) := by decide +kernel
theorem d_I_Pc_67 : decode qI_Pc.1 67 = .ok (.bipush 6, 2) := by decide +kernel
theorem d_I_Pc_69 : decode qI_Pc.1 69 = .ok (.imul, 1) := by decide +kernel
theorem d_I_Pc_70 : decode qI_Pc.1 70 = .ok (.bipush 8, 2) := by decide +kernel
theorem d_I_Pc_72 : decode qI_Pc.1 72 = .ok (.invokespecial 51, 3) := by decide +kernel
theorem d_I_Pc_75 : decode qI_Pc.1 75 = .ok (.putfield 54, 3) := by decide +kernel
theorem d_I_Pc_78 : decode qI_Pc.1 78 = .ok (.return_, 1) := by decide +kernel
set_option maxHeartbeats 8000000 in
set_option maxRecDepth 100000 in
theorem k_I_Pc (l : Launch) (g : Ge) (sz h0 : Nat) (p1 : Nat) (p2 : Nat) (p3 : Nat) (tp : Nat) (ts : Nat) (tl : Nat) (tg : Nat) : Met l yI_Pc (wsq yI_Pc qI_Pc.1 qI_Pc.2.1 qI_Pc.2.2.2) { frames := 2, cells := 2, slots := 1011, locals := 43 } (Pk false g [.ref h0, .ref p1, .ref p2, .ref p3, .int 21] sz [(h0, .inr (2, [.null, .null, .null, .null, .null, v0, v0, v0, v0, v0, v0])), (p3, .inr (9, [.ref tp, .ref ts, .ref tl, .ref tg, v0, v0, v0, .int (-1), v0, v0, v0, v0]))]) (Qk g (va_A [(h0, .inr (2, [.null, .null, .null, .null, .null, v0, v0, v0, v0, v0, v0])), (p3, .inr (9, [.ref tp, .ref ts, .ref tl, .ref tg, v0, v0, v0, .int (-1), v0, v0, v0, v0]))] sz) (fun ws9 => ∃ q1 q2 : Nat, ws9 = [(h0, .inr (2, [.ref p1, .ref p2, .ref tl, .ref tg, .ref q1, v0, v0, v0, v0, v0, v0])), (p3, .inr (9, [.ref tp, .ref ts, .ref tl, .ref tg, v0, v0, v0, .int (-1), v0, v0, v0, v0])), (q1, .inr (8, [.int 126, .int 8, .ref q2])), (q2, aI g 1008)])) 2 1011 (va_A [(h0, .inr (2, [.null, .null, .null, .null, .null, v0, v0, v0, v0, v0, v0])), (p3, .inr (9, [.ref tp, .ref ts, .ref tl, .ref tg, v0, v0, v0, .int (-1), v0, v0, v0, v0]))] sz) := by
  refine Met.ofW (cc := qI_Pc.1) (maxL := qI_Pc.2.1) (ret := qI_Pc.2.2.2) (ws' := lw_g) FI_I_Pc.2.2.2.1 rfl ?_
  intro p e s m args below meth c s₁ B hml hv
  obtain ⟨rfl, hsz, hP, hK, hD0, hnb⟩ := hv
  have hx := B.exec
  have hb := B.bytes
  have hr : meth.sig.returnType = none := B.returns
  have hts : ∀ x ∈ lw_g, x.before _ s = true := fun x hx => atoms_spec (ws := wsq yI_Pc qI_Pc.1 qI_Pc.2.1 qI_Pc.2.2.2) B.pre x (List.mem_cons_of_mem _ hx)
  have hown : s.vm.findClass Rk2 = some m.cls := findClass_of_methodNamed B.named
  have hlocks := B.notSynchronized
  have hin : meth.name = "<init>" := (name_of_methodNamed B.named B.method).1
  subst hsz
  have hD := hD0.self (sz := s.heap.size)
  generalize hAe : va_A [(h0, .inr (2, [.null, .null, .null, .null, .null, v0, v0, v0, v0, v0, v0])), (p3, .inr (9, [.ref tp, .ref ts, .ref tl, .ref tg, v0, v0, v0, .int (-1), v0, v0, v0, v0]))] s.heap.size = A at hD ⊢
  have hA : ∀ q : Nat, s.heap.size ≤ q → A q := fun q h => by rw [← hAe]; exact Or.inr h
  have hS : va_S A s.heap s.heap [] := va_S.rf
  have hl := lv_entry ([.ref h0, .ref p1, .ref p2, .ref p3, .int 21]) (n := qI_Pc.2.1) (Nat.le_of_ble_eq_true rfl)
  rw [lg_entry_eq]
  generalize (lg_sl ([.ref h0, .ref p1, .ref p2, .ref p3, .int 21]) ++ List.replicate (qI_Pc.2.1 - (lg_sl ([.ref h0, .ref p1, .ref p2, .ref p3, .int 21])).length) Slot.unset).toArray = ls at hl ⊢
  have hl : lv_has ls qI_Pc.2.1 [(0, .ref h0), (1, .ref p1), (2, .ref p2), (3, .ref p3), (4, .int 21)] := hl
  refine lv_aload_n hx hb d_I_Pc_0 rfl (lv_at hl 0 rfl) ?_
  refine W.objInit hx hb hown (hts _ lo_2) (hts _ loi) (hts _ loc) rfl (by rw [hml]; exact hl.1) rfl d_I_Pc_1 (Nat.le_of_ble_eq_true rfl) (Nat.le_of_ble_eq_true rfl) ?_
  refine W.eq (g2 := F0 m 4 ls []) rfl ?_
  refine lv_aload_n hx hb d_I_Pc_4 rfl (lv_at hl 0 rfl) ?_
  refine lv_iconst (v := 0) hx hb d_I_Pc_5 (by decide) ?_
  refine va_put (D := g.2.2.1) (ci := 2) (v := .int 0) (ty := .int) (C := Rk2) (T := Tk2) (N := 11) hx hb hts ik2 ty2 tk2 nk2 hown hK hP hD hS 0 rfl rfl 5 (by decide) (hts _ lfI_Pc_9) (fun _ h9 => h9) rfl rfl rfl rfl (Nat.le_of_ble_eq_true rfl) d_I_Pc_6 (fun H locs hP hD hS => ?_)
  have hPD : (fun ws => va_P g.2.2.1 clA ws H ∧ va_D A ws) [(h0, .inr (2, [.null, .null, .null, .null, .null, v0, v0, v0, v0, v0, v0])), (p3, .inr (9, [.ref tp, .ref ts, .ref tl, .ref tg, v0, v0, v0, .int (-1), v0, v0, v0, v0]))] := ⟨hP, hD⟩
  obtain ⟨hP, hD⟩ := hPD
  refine lv_aload_n hx hb d_I_Pc_9 rfl (lv_at hl 0 rfl) ?_
  refine lv_iconst (v := 0) hx hb d_I_Pc_10 (by decide) ?_
  refine va_put (D := g.2.2.1) (ci := 2) (v := .int 0) (ty := .int) (C := Rk2) (T := Tk2) (N := 11) hx hb hts ik2 ty2 tk2 nk2 hown hK hP hD hS 0 rfl rfl 6 (by decide) (hts _ lfI_Pc_15) (fun _ h9 => h9) rfl rfl rfl rfl (Nat.le_of_ble_eq_true rfl) d_I_Pc_11 (fun H locs hP hD hS => ?_)
  have hPD : (fun ws => va_P g.2.2.1 clA ws H ∧ va_D A ws) [(h0, .inr (2, [.null, .null, .null, .null, .null, v0, v0, v0, v0, v0, v0])), (p3, .inr (9, [.ref tp, .ref ts, .ref tl, .ref tg, v0, v0, v0, .int (-1), v0, v0, v0, v0]))] := ⟨hP, hD⟩
  obtain ⟨hP, hD⟩ := hPD
  refine lv_aload_n hx hb d_I_Pc_14 rfl (lv_at hl 0 rfl) ?_
  refine lv_iconst (v := 0) hx hb d_I_Pc_15 (by decide) ?_
  refine va_put (D := g.2.2.1) (ci := 2) (v := .int 0) (ty := .int) (C := Rk2) (T := Tk2) (N := 11) hx hb hts ik2 ty2 tk2 nk2 hown hK hP hD hS 0 rfl rfl 7 (by decide) (hts _ lfI_Pc_18) (fun _ h9 => h9) rfl rfl rfl rfl (Nat.le_of_ble_eq_true rfl) d_I_Pc_16 (fun H locs hP hD hS => ?_)
  have hPD : (fun ws => va_P g.2.2.1 clA ws H ∧ va_D A ws) [(h0, .inr (2, [.null, .null, .null, .null, .null, v0, v0, v0, v0, v0, v0])), (p3, .inr (9, [.ref tp, .ref ts, .ref tl, .ref tg, v0, v0, v0, .int (-1), v0, v0, v0, v0]))] := ⟨hP, hD⟩
  obtain ⟨hP, hD⟩ := hPD
  refine lv_aload_n hx hb d_I_Pc_19 rfl (lv_at hl 0 rfl) ?_
  refine lv_iconst (v := 0) hx hb d_I_Pc_20 (by decide) ?_
  refine va_put (D := g.2.2.1) (ci := 2) (v := .int 0) (ty := .int) (C := Rk2) (T := Tk2) (N := 11) hx hb hts ik2 ty2 tk2 nk2 hown hK hP hD hS 0 rfl rfl 8 (by decide) (hts _ lfI_Pc_21) (fun _ h9 => h9) rfl rfl rfl rfl (Nat.le_of_ble_eq_true rfl) d_I_Pc_21 (fun H locs hP hD hS => ?_)
  have hPD : (fun ws => va_P g.2.2.1 clA ws H ∧ va_D A ws) [(h0, .inr (2, [.null, .null, .null, .null, .null, v0, v0, v0, v0, v0, v0])), (p3, .inr (9, [.ref tp, .ref ts, .ref tl, .ref tg, v0, v0, v0, .int (-1), v0, v0, v0, v0]))] := ⟨hP, hD⟩
  obtain ⟨hP, hD⟩ := hPD
  refine lv_aload_n hx hb d_I_Pc_24 rfl (lv_at hl 0 rfl) ?_
  refine lv_iconst (v := 0) hx hb d_I_Pc_25 (by decide) ?_
  refine va_put (D := g.2.2.1) (ci := 2) (v := .int 0) (ty := .int) (C := Rk2) (T := Tk2) (N := 11) hx hb hts ik2 ty2 tk2 nk2 hown hK hP hD hS 0 rfl rfl 9 (by decide) (hts _ lfI_Pc_24) (fun _ h9 => h9) rfl rfl rfl rfl (Nat.le_of_ble_eq_true rfl) d_I_Pc_26 (fun H locs hP hD hS => ?_)
  have hPD : (fun ws => va_P g.2.2.1 clA ws H ∧ va_D A ws) [(h0, .inr (2, [.null, .null, .null, .null, .null, v0, v0, v0, v0, v0, v0])), (p3, .inr (9, [.ref tp, .ref ts, .ref tl, .ref tg, v0, v0, v0, .int (-1), v0, v0, v0, v0]))] := ⟨hP, hD⟩
  obtain ⟨hP, hD⟩ := hPD
  refine lv_aload_n hx hb d_I_Pc_29 rfl (lv_at hl 0 rfl) ?_
  refine lv_iconst (v := 0) hx hb d_I_Pc_30 (by decide) ?_
  refine va_put (D := g.2.2.1) (ci := 2) (v := .int 0) (ty := .int) (C := Rk2) (T := Tk2) (N := 11) hx hb hts ik2 ty2 tk2 nk2 hown hK hP hD hS 0 rfl rfl 10 (by decide) (hts _ lfI_Pc_27) (fun _ h9 => h9) rfl rfl rfl rfl (Nat.le_of_ble_eq_true rfl) d_I_Pc_31 (fun H locs hP hD hS => ?_)
  have hPD : (fun ws => va_P g.2.2.1 clA ws H ∧ va_D A ws) [(h0, .inr (2, [.null, .null, .null, .null, .null, v0, v0, v0, v0, v0, v0])), (p3, .inr (9, [.ref tp, .ref ts, .ref tl, .ref tg, v0, v0, v0, .int (-1), v0, v0, v0, v0]))] := ⟨hP, hD⟩
  obtain ⟨hP, hD⟩ := hPD
  refine lv_aload_n hx hb d_I_Pc_34 rfl (lv_at hl 0 rfl) ?_
  refine lv_aload_n hx hb d_I_Pc_35 rfl (lv_at hl 1 rfl) ?_
  refine va_putF (D := g.2.2.1) (ci := 2) (v := .ref p1) (ty := .object "FlightLegs$Plan") (C := Rk2) (T := Tk2) (N := 11) hx hb hts ik2 ty2 tk2 nk2 hown hK hP hD hS 0 rfl rfl 0 (by decide) (hts _ lfI_Pc_30) (fun _ h9 => h9) rfl hin rfl rfl rfl rfl (Nat.le_of_ble_eq_true rfl) d_I_Pc_36 (fun H locs hP hD hS => ?_)
  have hPD : (fun ws => va_P g.2.2.1 clA ws H ∧ va_D A ws) [(h0, .inr (2, [.ref p1, .null, .null, .null, .null, v0, v0, v0, v0, v0, v0])), (p3, .inr (9, [.ref tp, .ref ts, .ref tl, .ref tg, v0, v0, v0, .int (-1), v0, v0, v0, v0]))] := ⟨hP, hD⟩
  obtain ⟨hP, hD⟩ := hPD
  refine lv_aload_n hx hb d_I_Pc_39 rfl (lv_at hl 0 rfl) ?_
  refine lv_aload_n hx hb d_I_Pc_40 rfl (lv_at hl 2 rfl) ?_
  refine va_putF (D := g.2.2.1) (ci := 2) (v := .ref p2) (ty := .object "FlightLegs$Settings") (C := Rk2) (T := Tk2) (N := 11) hx hb hts ik2 ty2 tk2 nk2 hown hK hP hD hS 0 rfl rfl 1 (by decide) (hts _ lfI_Pc_34) (fun _ h9 => h9) rfl hin rfl rfl rfl rfl (Nat.le_of_ble_eq_true rfl) d_I_Pc_41 (fun H locs hP hD hS => ?_)
  have hPD : (fun ws => va_P g.2.2.1 clA ws H ∧ va_D A ws) [(h0, .inr (2, [.ref p1, .ref p2, .null, .null, .null, v0, v0, v0, v0, v0, v0])), (p3, .inr (9, [.ref tp, .ref ts, .ref tl, .ref tg, v0, v0, v0, .int (-1), v0, v0, v0, v0]))] := ⟨hP, hD⟩
  obtain ⟨hP, hD⟩ := hPD
  refine lv_aload_n hx hb d_I_Pc_44 rfl (lv_at hl 0 rfl) ?_
  refine lv_aload_n hx hb d_I_Pc_45 rfl (lv_at hl 3 rfl) ?_
  refine va_get (D := g.2.2.1) (ci := 9) (v := .ref tl) (C := Rk9) (T := Tk9) (N := 12) hx hb hts ik9 hown hK hP 1 rfl rfl 2 (by decide) (hts _ lfI_Pc_38) (fun _ h9 => h9) rfl d_I_Pc_46 ?_
  refine va_putF (D := g.2.2.1) (ci := 2) (v := .ref tl) (ty := .object "FlightLegs$Table") (C := Rk2) (T := Tk2) (N := 11) hx hb hts ik2 ty2 tk2 nk2 hown hK hP hD hS 0 rfl rfl 2 (by decide) (hts _ lfI_Pc_44) (fun _ h9 => h9) rfl hin rfl rfl rfl rfl (Nat.le_of_ble_eq_true rfl) d_I_Pc_49 (fun H locs hP hD hS => ?_)
  have hPD : (fun ws => va_P g.2.2.1 clA ws H ∧ va_D A ws) [(h0, .inr (2, [.ref p1, .ref p2, .ref tl, .null, .null, v0, v0, v0, v0, v0, v0])), (p3, .inr (9, [.ref tp, .ref ts, .ref tl, .ref tg, v0, v0, v0, .int (-1), v0, v0, v0, v0]))] := ⟨hP, hD⟩
  obtain ⟨hP, hD⟩ := hPD
  refine lv_aload_n hx hb d_I_Pc_52 rfl (lv_at hl 0 rfl) ?_
  refine lv_aload_n hx hb d_I_Pc_53 rfl (lv_at hl 3 rfl) ?_
  refine va_get (D := g.2.2.1) (ci := 9) (v := .ref tg) (C := Rk9) (T := Tk9) (N := 12) hx hb hts ik9 hown hK hP 1 rfl rfl 3 (by decide) (hts _ lfI_Pc_45) (fun _ h9 => h9) rfl d_I_Pc_54 ?_
  refine va_putF (D := g.2.2.1) (ci := 2) (v := .ref tg) (ty := .object "FlightLegs$Table") (C := Rk2) (T := Tk2) (N := 11) hx hb hts ik2 ty2 tk2 nk2 hown hK hP hD hS 0 rfl rfl 3 (by decide) (hts _ lfI_Pc_48) (fun _ h9 => h9) rfl hin rfl rfl rfl rfl (Nat.le_of_ble_eq_true rfl) d_I_Pc_57 (fun H locs hP hD hS => ?_)
  have hPD : (fun ws => va_P g.2.2.1 clA ws H ∧ va_D A ws) [(h0, .inr (2, [.ref p1, .ref p2, .ref tl, .ref tg, .null, v0, v0, v0, v0, v0, v0])), (p3, .inr (9, [.ref tp, .ref ts, .ref tl, .ref tg, v0, v0, v0, .int (-1), v0, v0, v0, v0]))] := ⟨hP, hD⟩
  obtain ⟨hP, hD⟩ := hPD
  refine lv_aload_n hx hb d_I_Pc_60 rfl (lv_at hl 0 rfl) ?_
  refine va_new (D := g.2.2.1) (ci := 8) (fs := [.int 0, .int 0, .null]) (C := Rk8) (T := Tk8) (N := 3) hx hb hts ik8 ty8 tk8 hown (hts _ lkI_Pc_49) (hts _ lnI_8) (hts _ lin8) hK hP hD hS hA rfl dv_8 (Nat.le_of_ble_eq_true rfl) (Nat.le_of_ble_eq_true rfl) d_I_Pc_61 (fun q1 H hP hD hS => ?_)
  have hPD : (fun ws => va_P g.2.2.1 clA ws H ∧ va_D A ws) [(h0, .inr (2, [.ref p1, .ref p2, .ref tl, .ref tg, .null, v0, v0, v0, v0, v0, v0])), (p3, .inr (9, [.ref tp, .ref ts, .ref tl, .ref tg, v0, v0, v0, .int (-1), v0, v0, v0, v0])), (q1, .inr (8, [v0, v0, .null]))] := ⟨hP, hD⟩
  obtain ⟨hP, hD⟩ := hPD
  refine W.widen (k := 1) (n := 3) (by omega) (by omega) ?_
  refine lv_dup hx hb d_I_Pc_64 rfl ?_
  refine lv_iload hx hb d_I_Pc_65 (lv_at hl 4 rfl) ?_
  refine lv_bipush (v := 6) hx hb d_I_Pc_67 (by decide) ?_
  refine lv_imul hx hb d_I_Pc_69 ?_
  refine lv_topi (fun x_69 ex_69 => ?_)
  rw [show ((21 * 6) : Int32) = 126 by decide] at ex_69
  subst ex_69
  refine lv_bipush (v := 8) hx hb d_I_Pc_70 (by decide) ?_
  have hPc := hP.sub (ws' := [(q1, .inr (8, [v0, v0, .null]))]) [2] rfl
  have hDc := hD.sub (ws' := [(q1, .inr (8, [v0, v0, .null]))]) [2] (by decide) rfl
  have hFc := va_free (wc := [(q1, .inr (8, [v0, v0, .null]))]) hD hS hA [2] rfl
  refine va_callv (va_runI (As := [.int 126, .int 8]) (rest := [.ref q1, .ref h0]) (n := 2) ⟨hx, hb, hml, hown, hts⟩ (k_I_Tb _ g H.size q1 126 8 126 8 1008 (by decide) (by decide) (by decide) (by decide) (by decide)) ⟨callB_of 2 hts (good_tbl FI_I_Tb.1) rfl rfl rfl (hts _ FI_I_Tb.2.1) (hts _ lmI_Pc_51) FI_I_Tb.2.2.1 ⟨Nat.le_of_ble_eq_true rfl, Nat.le_of_ble_eq_true rfl⟩, rfl, hts _ FI_I_Tb.2.2.2.2⟩ ⟨Pk_blind _ _ _ _ _, fun U hU hW => ⟨rfl, by rw [hU], by rw [hU]; exact hPc, va_K.moved hW.alike hK, hDc.weaken (fun _ _ _ _ => trivial), fun q => by cases q⟩⟩ rfl rfl hl.1 rfl (lv_room (Nat.le_of_ble_eq_true rfl)) d_I_Pc_72 ⟨Nat.le_of_ble_eq_true rfl, Nat.le_of_ble_eq_true rfl⟩) hS (fun q _ h => hFc q h) hFc (fun u t H1 locs ht hvm hw hB hz1 hk1 hS => ?_)
  obtain ⟨q2, rfl⟩ := hw
  obtain ⟨hP1, hK1, hD1⟩ := hB
  rw [ht] at hP1
  obtain ⟨hP, hD⟩ := va_join (wr := [(h0, .inr (2, [.ref p1, .ref p2, .ref tl, .ref tg, .null, v0, v0, v0, v0, v0, v0])), (p3, .inr (9, [.ref tp, .ref ts, .ref tl, .ref tg, v0, v0, v0, .int (-1), v0, v0, v0, v0]))]) (w1 := [(q1, .inr (8, [.int 126, .int 8, .ref q2])), (q2, aI g 1008)]) hP hD [2] [0, 1] rfl rfl (by decide) (by decide) hk1 hFc hP1 hD1
  generalize H1 = H at hP hS ⊢
  have hPD : (fun ws => va_P g.2.2.1 clA ws H ∧ va_D A ws) [(h0, .inr (2, [.ref p1, .ref p2, .ref tl, .ref tg, .null, v0, v0, v0, v0, v0, v0])), (p3, .inr (9, [.ref tp, .ref ts, .ref tl, .ref tg, v0, v0, v0, .int (-1), v0, v0, v0, v0])), (q1, .inr (8, [.int 126, .int 8, .ref q2])), (q2, aI g 1008)] := ⟨hP, hD⟩
  obtain ⟨hP, hD⟩ := hPD
  refine W.widen (k := 2) (n := 1011) (by omega) (by omega) ?_
  refine va_putF (D := g.2.2.1) (ci := 2) (v := .ref q1) (ty := .object "FlightLegs$Table") (C := Rk2) (T := Tk2) (N := 11) hx hb hts ik2 ty2 tk2 nk2 hown hK hP hD hS 0 rfl rfl 4 (by decide) (hts _ lfI_Pc_54) (fun _ h9 => h9) rfl hin rfl rfl rfl rfl (Nat.le_of_ble_eq_true rfl) d_I_Pc_75 (fun H locs hP hD hS => ?_)
  have hPD : (fun ws => va_P g.2.2.1 clA ws H ∧ va_D A ws) [(h0, .inr (2, [.ref p1, .ref p2, .ref tl, .ref tg, .ref q1, v0, v0, v0, v0, v0, v0])), (p3, .inr (9, [.ref tp, .ref ts, .ref tl, .ref tg, v0, v0, v0, .int (-1), v0, v0, v0, v0])), (q1, .inr (8, [.int 126, .int 8, .ref q2])), (q2, aI g 1008)] := ⟨hP, hD⟩
  obtain ⟨hP, hD⟩ := hPD
  refine W.widen (k := 2) (n := 1011) (by omega) (by omega) ?_
  exact W.vret hx hb hr (fun t ht hW => ⟨⟨_, rfl, ⟨q1, q2, rfl⟩, by rw [ht]; exact hP, va_K.moved hW.alike hK, hD⟩, hS.F ht⟩) hS.2.2 d_I_Pc_78
theorem d_I_Pf_0 : decode qI_Pf.1 0 = .ok (.aload_n 0, 1) := by decide +kernel
theorem d_I_Pf_1 : decode qI_Pf.1 1 = .ok (.invokespecial 3, 3) := by decide +kernel
theorem d_I_Pf_4 : decode qI_Pf.1 4 = .ok (.aload_n 0, 1) := by decide +kernel
theorem d_I_Pf_5 : decode qI_Pf.1 5 = .ok (.aload_n 1, 1) := by decide +kernel
theorem d_I_Pf_6 : decode qI_Pf.1 6 = .ok (.putfield 9, 3) := by decide +kernel
theorem d_I_Pf_9 : decode qI_Pf.1 9 = .ok (.aload_n 0, 1) := by decide +kernel
theorem d_I_Pf_10 : decode qI_Pf.1 10 = .ok (.aload_n 2, 1) := by decide +kernel
theorem d_I_Pf_11 : decode qI_Pf.1 11 = .ok (.putfield 15, 3) := by decide +kernel
theorem d_I_Pf_14 : decode qI_Pf.1 14 = .ok (.aload_n 0, 1) := by decide +kernel
theorem d_I_Pf_15 : decode qI_Pf.1 15 = .ok (.aload_n 3, 1) := by decide +kernel
theorem d_I_Pf_16 : decode qI_Pf.1 16 = .ok (.putfield 19, 3) := by decide +kernel
theorem d_I_Pf_19 : decode qI_Pf.1 19 = .ok (.return_, 1) := by decide +kernel
set_option maxHeartbeats 8000000 in
set_option maxRecDepth 100000 in
theorem k_I_Pf (l : Launch) (g : Ge) (sz h0 : Nat) (p1 : Nat) (p2 : Nat) (p3 : Nat) : Met l yI_Pf (wsq yI_Pf qI_Pf.1 qI_Pf.2.1 qI_Pf.2.2.2) { frames := 1, cells := 0, slots := 0, locals := 20 } (Pk false g [.ref h0, .ref p1, .ref p2, .ref p3] sz [(h0, .inr (4, [.null, .null, .null]))]) (Qk g (va_A [(h0, .inr (4, [.null, .null, .null]))] sz) (fun ws9 => ws9 = [(h0, .inr (4, [.ref p1, .ref p2, .ref p3]))])) 0 0 (va_A [(h0, .inr (4, [.null, .null, .null]))] sz) := by
  refine Met.ofW (cc := qI_Pf.1) (maxL := qI_Pf.2.1) (ret := qI_Pf.2.2.2) (ws' := lw_g) FI_I_Pf.2.2.2.1 rfl ?_
  intro p e s m args below meth c s₁ B hml hv
  obtain ⟨rfl, hsz, hP, hK, hD0, hnb⟩ := hv
  have hx := B.exec
  have hb := B.bytes
  have hr : meth.sig.returnType = none := B.returns
  have hts : ∀ x ∈ lw_g, x.before _ s = true := fun x hx => atoms_spec (ws := wsq yI_Pf qI_Pf.1 qI_Pf.2.1 qI_Pf.2.2.2) B.pre x (List.mem_cons_of_mem _ hx)
  have hown : s.vm.findClass Rk4 = some m.cls := findClass_of_methodNamed B.named
  have hlocks := B.notSynchronized
  have hin : meth.name = "<init>" := (name_of_methodNamed B.named B.method).1
  subst hsz
  have hD := hD0.self (sz := s.heap.size)
  generalize hAe : va_A [(h0, .inr (4, [.null, .null, .null]))] s.heap.size = A at hD ⊢
  have hA : ∀ q : Nat, s.heap.size ≤ q → A q := fun q h => by rw [← hAe]; exact Or.inr h
  have hS : va_S A s.heap s.heap [] := va_S.rf
  have hl := lv_entry ([.ref h0, .ref p1, .ref p2, .ref p3]) (n := qI_Pf.2.1) (Nat.le_of_ble_eq_true rfl)
  rw [lg_entry_eq]
  generalize (lg_sl ([.ref h0, .ref p1, .ref p2, .ref p3]) ++ List.replicate (qI_Pf.2.1 - (lg_sl ([.ref h0, .ref p1, .ref p2, .ref p3])).length) Slot.unset).toArray = ls at hl ⊢
  have hl : lv_has ls qI_Pf.2.1 [(0, .ref h0), (1, .ref p1), (2, .ref p2), (3, .ref p3)] := hl
  refine lv_aload_n hx hb d_I_Pf_0 rfl (lv_at hl 0 rfl) ?_
  refine W.objInit hx hb hown (hts _ lo_4) (hts _ loi) (hts _ loc) rfl (by rw [hml]; exact hl.1) rfl d_I_Pf_1 (Nat.le_of_ble_eq_true rfl) (Nat.le_of_ble_eq_true rfl) ?_
  refine W.eq (g2 := F0 m 4 ls []) rfl ?_
  refine lv_aload_n hx hb d_I_Pf_4 rfl (lv_at hl 0 rfl) ?_
  refine lv_aload_n hx hb d_I_Pf_5 rfl (lv_at hl 1 rfl) ?_
  refine va_putF (D := g.2.2.1) (ci := 4) (v := .ref p1) (ty := .object "FlightLegs$Plan") (C := Rk4) (T := Tk4) (N := 3) hx hb hts ik4 ty4 tk4 nk4 hown hK hP hD hS 0 rfl rfl 0 (by decide) (hts _ lfI_Pf_9) (fun _ h9 => h9) rfl hin rfl rfl rfl rfl (Nat.le_of_ble_eq_true rfl) d_I_Pf_6 (fun H locs hP hD hS => ?_)
  have hPD : (fun ws => va_P g.2.2.1 clA ws H ∧ va_D A ws) [(h0, .inr (4, [.ref p1, .null, .null]))] := ⟨hP, hD⟩
  obtain ⟨hP, hD⟩ := hPD
  refine lv_aload_n hx hb d_I_Pf_9 rfl (lv_at hl 0 rfl) ?_
  refine lv_aload_n hx hb d_I_Pf_10 rfl (lv_at hl 2 rfl) ?_
  refine va_putF (D := g.2.2.1) (ci := 4) (v := .ref p2) (ty := .object "FlightLegs$Settings") (C := Rk4) (T := Tk4) (N := 3) hx hb hts ik4 ty4 tk4 nk4 hown hK hP hD hS 0 rfl rfl 1 (by decide) (hts _ lfI_Pf_15) (fun _ h9 => h9) rfl hin rfl rfl rfl rfl (Nat.le_of_ble_eq_true rfl) d_I_Pf_11 (fun H locs hP hD hS => ?_)
  have hPD : (fun ws => va_P g.2.2.1 clA ws H ∧ va_D A ws) [(h0, .inr (4, [.ref p1, .ref p2, .null]))] := ⟨hP, hD⟩
  obtain ⟨hP, hD⟩ := hPD
  refine lv_aload_n hx hb d_I_Pf_14 rfl (lv_at hl 0 rfl) ?_
  refine lv_aload_n hx hb d_I_Pf_15 rfl (lv_at hl 3 rfl) ?_
  refine va_putF (D := g.2.2.1) (ci := 4) (v := .ref p3) (ty := .object "FlightLegs$Table") (C := Rk4) (T := Tk4) (N := 3) hx hb hts ik4 ty4 tk4 nk4 hown hK hP hD hS 0 rfl rfl 2 (by decide) (hts _ lfI_Pf_19) (fun _ h9 => h9) rfl hin rfl rfl rfl rfl (Nat.le_of_ble_eq_true rfl) d_I_Pf_16 (fun H locs hP hD hS => ?_)
  have hPD : (fun ws => va_P g.2.2.1 clA ws H ∧ va_D A ws) [(h0, .inr (4, [.ref p1, .ref p2, .ref p3]))] := ⟨hP, hD⟩
  obtain ⟨hP, hD⟩ := hPD
  refine W.widen (k := 0) (n := 0) (by omega) (by omega) ?_
  exact W.vret hx hb hr (fun t ht hW => ⟨⟨_, rfl, rfl, by rw [ht]; exact hP, va_K.moved hW.alike hK, hD⟩, hS.F ht⟩) hS.2.2 d_I_Pf_19
theorem d_I_Pa_0 : decode qI_Pa.1 0 = .ok (.aload_n 0, 1) := by decide +kernel
theorem d_I_Pa_1 : decode qI_Pa.1 1 = .ok (.invokespecial 3, 3) := by decide +kernel
theorem d_I_Pa_4 : decode qI_Pa.1 4 = .ok (.aload_n 0, 1) := by decide +kernel
theorem d_I_Pa_5 : decode qI_Pa.1 5 = .ok (.iconst 1, 1) := by decide +kernel
theorem d_I_Pa_6 : decode qI_Pa.1 6 = .ok (.putfield 9, 3) := by decide +kernel
theorem d_I_Pa_9 : decode qI_Pa.1 9 = .ok (.aload_n 0, 1) := by decide +kernel
theorem d_I_Pa_10 : decode qI_Pa.1 10 = .ok (.aload_n 1, 1) := by decide +kernel
theorem d_I_Pa_11 : decode qI_Pa.1 11 = .ok (.putfield 15, 3) := by decide +kernel
theorem d_I_Pa_14 : decode qI_Pa.1 14 = .ok (.aload_n 0, 1) := by decide +kernel
theorem d_I_Pa_15 : decode qI_Pa.1 15 = .ok (.new 19, 3) := by decide +kernel
theorem d_I_Pa_18 : decode qI_Pa.1 18 = .ok (.dup, 1) := by decide +kernel
theorem d_I_Pa_19 : decode qI_Pa.1 19 = .ok (.iload_n 3, 1) := by decide +kernel
theorem d_I_Pa_20 : decode qI_Pa.1 20 = .ok (.bipush 16, 2) := by decide +kernel
theorem d_I_Pa_22 : decode qI_Pa.1 22 = .ok (.invokespecial 21, 3) := by decide +kernel
theorem d_I_Pa_25 : decode qI_Pa.1 25 = .ok (.putfield 24, 3) := by decide +kernel
theorem d_I_Pa_28 : decode qI_Pa.1 28 = .ok (.aload_n 0, 1) := by decide +kernel
theorem d_I_Pa_29 : decode qI_Pa.1 29 = .ok (.new 28, 3) := by decide +kernel
theorem d_I_Pa_32 : decode qI_Pa.1 32 = .ok (.dup, 1) := by decide +kernel
theorem d_I_Pa_33 : decode qI_Pa.1 33 = .ok (.aload_n 1, 1) := by decide +kernel
theorem d_I_Pa_34 : decode qI_Pa.1 34 = .ok (.aload_n 2, 1) := by decide +kernel
theorem d_I_Pa_35 : decode qI_Pa.1 35 = .ok (.aload_n 0, 1) := by decide +kernel
theorem d_I_Pa_36 : decode qI_Pa.1 36 = .ok (.getfield 24, 3) := by decide +kernel
theorem d_I_Pa_39 : decode qI_Pa.1 39 = .ok (.iload_n 3, 1) := by decide +kernel
theorem d_I_Pa_40 : decode qI_Pa.1 40 = .ok (.invokespecial 30, 3) := by decide +kernel
theorem d_I_Pa_43 : decode qI_Pa.1 43 = .ok (.putfield 33, 3) := by decide +kernel
theorem d_I_Pa_46 : decode qI_Pa.1 46 = .ok (.aload_n 0, 1) := by decide +kernel
theorem d_I_Pa_47 : decode qI_Pa.1 47 = .ok (.new 37, 3) := by decide +kernel
theorem d_I_Pa_50 : decode qI_Pa.1 50 = .ok (.dup, 1) := by decide +kernel
theorem d_I_Pa_51 : decode qI_Pa.1 51 = .ok (.aload_n 1, 1) := by decide +kernel
theorem d_I_Pa_52 : decode qI_Pa.1 52 = .ok (.aload_n 2, 1) := by decide +kernel
theorem d_I_Pa_53 : decode qI_Pa.1 53 = .ok (.aload_n 0, 1) := by decide +kernel
theorem d_I_Pa_54 : decode qI_Pa.1 54 = .ok (.getfield 33, 3) := by decide +kernel
theorem d_I_Pa_57 : decode qI_Pa.1 57 = .ok (.iload_n 3, 1) := by decide +kernel
theorem d_I_Pa_58 : decode qI_Pa.1 58 = .ok (.invokespecial 39, 3) := by decide +kernel
theorem d_I_Pa_61 : decode qI_Pa.1 61 = .ok (.putfield 42, 3) := by decide +kernel
theorem d_I_Pa_64 : decode qI_Pa.1 64 = .ok (.aload_n 0, 1) := by decide +kernel
theorem d_I_Pa_65 : decode qI_Pa.1 65 = .ok (.new 46, 3) := by decide +kernel
theorem d_I_Pa_68 : decode qI_Pa.1 68 = .ok (.dup, 1) := by decide +kernel
theorem d_I_Pa_69 : decode qI_Pa.1 69 = .ok (.aload_n 1, 1) := by decide +kernel
theorem d_I_Pa_70 : decode qI_Pa.1 70 = .ok (.aload_n 2, 1) := by decide +kernel
theorem d_I_Pa_71 : decode qI_Pa.1 71 = .ok (.aload_n 0, 1) := by decide +kernel
theorem d_I_Pa_72 : decode qI_Pa.1 72 = .ok (.getfield 24, 3) := by decide +kernel
theorem d_I_Pa_75 : decode qI_Pa.1 75 = .ok (.invokespecial 48, 3) := by decide +kernel
theorem d_I_Pa_78 : decode qI_Pa.1 78 = .ok (.putfield 51, 3) := by decide +kernel
theorem d_I_Pa_81 : decode qI_Pa.1 81 = .ok (.return_, 1) := by decide +kernel
set_option maxHeartbeats 8000000 in
set_option maxRecDepth 100000 in
theorem k_I_Pa (l : Launch) (g : Ge) (sz h0 : Nat) (p1 : Nat) (p2 : Nat) : Met l yI_Pa (wsq yI_Pa qI_Pa.1 qI_Pa.2.1 qI_Pa.2.2.2) { frames := 3, cells := 9, slots := 2051, locals := 67 } (Pk false g [.ref h0, .ref p1, .ref p2, .int 21] sz [(h0, .inr (1, [.null, .null, .null, .null, .null, v0]))]) (Qk g (va_A [(h0, .inr (1, [.null, .null, .null, .null, .null, v0]))] sz) (fun ws9 => ∃ q1 q2 q4 q5 q6 q3 q7 q8 q9 : Nat, ws9 = [(h0, .inr (1, [.ref p1, .ref q1, .ref q3, .ref q6, .ref q9, .int 1])), (q1, .inr (8, [.int 21, .int 16, .ref q2])), (q2, aI g 336), (q4, .inr (8, [.int 42, .int 16, .ref q5])), (q5, aI g 672), (q6, .inr (2, [.ref p1, .ref p2, .ref q1, .ref q4, .ref q7, v0, v0, v0, v0, v0, v0])), (q3, .inr (9, [.ref p1, .ref p2, .ref q1, .ref q4, v0, v0, v0, .int (-1), v0, v0, v0, v0])), (q7, .inr (8, [.int 126, .int 8, .ref q8])), (q8, aI g 1008), (q9, .inr (4, [.ref p1, .ref p2, .ref q1]))])) 9 2051 (va_A [(h0, .inr (1, [.null, .null, .null, .null, .null, v0]))] sz) := by
  refine Met.ofW (cc := qI_Pa.1) (maxL := qI_Pa.2.1) (ret := qI_Pa.2.2.2) (ws' := lw_g) FI_I_Pa.2.2.2.1 rfl ?_
  intro p e s m args below meth c s₁ B hml hv
  obtain ⟨rfl, hsz, hP, hK, hD0, hnb⟩ := hv
  have hx := B.exec
  have hb := B.bytes
  have hr : meth.sig.returnType = none := B.returns
  have hts : ∀ x ∈ lw_g, x.before _ s = true := fun x hx => atoms_spec (ws := wsq yI_Pa qI_Pa.1 qI_Pa.2.1 qI_Pa.2.2.2) B.pre x (List.mem_cons_of_mem _ hx)
  have hown : s.vm.findClass Rk1 = some m.cls := findClass_of_methodNamed B.named
  have hlocks := B.notSynchronized
  have hin : meth.name = "<init>" := (name_of_methodNamed B.named B.method).1
  subst hsz
  have hD := hD0.self (sz := s.heap.size)
  generalize hAe : va_A [(h0, .inr (1, [.null, .null, .null, .null, .null, v0]))] s.heap.size = A at hD ⊢
  have hA : ∀ q : Nat, s.heap.size ≤ q → A q := fun q h => by rw [← hAe]; exact Or.inr h
  have hS : va_S A s.heap s.heap [] := va_S.rf
  have hl := lv_entry ([.ref h0, .ref p1, .ref p2, .int 21]) (n := qI_Pa.2.1) (Nat.le_of_ble_eq_true rfl)
  rw [lg_entry_eq]
  generalize (lg_sl ([.ref h0, .ref p1, .ref p2, .int 21]) ++ List.replicate (qI_Pa.2.1 - (lg_sl ([.ref h0, .ref p1, .ref p2, .int 21])).length) Slot.unset).toArray = ls at hl ⊢
  have hl : lv_has ls qI_Pa.2.1 [(0, .ref h0), (1, .ref p1), (2, .ref p2), (3, .int 21)] := hl
  refine lv_aload_n hx hb d_I_Pa_0 rfl (lv_at hl 0 rfl) ?_
  refine W.objInit hx hb hown (hts _ lo_1) (hts _ loi) (hts _ loc) rfl (by rw [hml]; exact hl.1) rfl d_I_Pa_1 (Nat.le_of_ble_eq_true rfl) (Nat.le_of_ble_eq_true rfl) ?_
  refine W.eq (g2 := F0 m 4 ls []) rfl ?_
  refine lv_aload_n hx hb d_I_Pa_4 rfl (lv_at hl 0 rfl) ?_
  refine lv_iconst (v := 1) hx hb d_I_Pa_5 (by decide) ?_
  refine va_put (D := g.2.2.1) (ci := 1) (v := .int 1) (ty := .boolean) (C := Rk1) (T := Tk1) (N := 6) hx hb hts ik1 ty1 tk1 nk1 hown hK hP hD hS 0 rfl rfl 5 (by decide) (hts _ lfI_Pa_9) (fun _ h9 => h9) rfl rfl rfl rfl (Nat.le_of_ble_eq_true rfl) d_I_Pa_6 (fun H locs hP hD hS => ?_)
  have hPD : (fun ws => va_P g.2.2.1 clA ws H ∧ va_D A ws) [(h0, .inr (1, [.null, .null, .null, .null, .null, .int 1]))] := ⟨hP, hD⟩
  obtain ⟨hP, hD⟩ := hPD
  refine lv_aload_n hx hb d_I_Pa_9 rfl (lv_at hl 0 rfl) ?_
  refine lv_aload_n hx hb d_I_Pa_10 rfl (lv_at hl 1 rfl) ?_
  refine va_putF (D := g.2.2.1) (ci := 1) (v := .ref p1) (ty := .object "FlightLegs$Plan") (C := Rk1) (T := Tk1) (N := 6) hx hb hts ik1 ty1 tk1 nk1 hown hK hP hD hS 0 rfl rfl 0 (by decide) (hts _ lfI_Pa_15) (fun _ h9 => h9) rfl hin rfl rfl rfl rfl (Nat.le_of_ble_eq_true rfl) d_I_Pa_11 (fun H locs hP hD hS => ?_)
  have hPD : (fun ws => va_P g.2.2.1 clA ws H ∧ va_D A ws) [(h0, .inr (1, [.ref p1, .null, .null, .null, .null, .int 1]))] := ⟨hP, hD⟩
  obtain ⟨hP, hD⟩ := hPD
  refine lv_aload_n hx hb d_I_Pa_14 rfl (lv_at hl 0 rfl) ?_
  refine va_new (D := g.2.2.1) (ci := 8) (fs := [.int 0, .int 0, .null]) (C := Rk8) (T := Tk8) (N := 3) hx hb hts ik8 ty8 tk8 hown (hts _ lkI_Pa_19) (hts _ lnI_8) (hts _ lin8) hK hP hD hS hA rfl dv_8 (Nat.le_of_ble_eq_true rfl) (Nat.le_of_ble_eq_true rfl) d_I_Pa_15 (fun q1 H hP hD hS => ?_)
  have hPD : (fun ws => va_P g.2.2.1 clA ws H ∧ va_D A ws) [(h0, .inr (1, [.ref p1, .null, .null, .null, .null, .int 1])), (q1, .inr (8, [v0, v0, .null]))] := ⟨hP, hD⟩
  obtain ⟨hP, hD⟩ := hPD
  refine W.widen (k := 1) (n := 3) (by omega) (by omega) ?_
  refine lv_dup hx hb d_I_Pa_18 rfl ?_
  refine lv_iload_n hx hb d_I_Pa_19 rfl (lv_at hl 3 rfl) ?_
  refine lv_bipush (v := 16) hx hb d_I_Pa_20 (by decide) ?_
  have hPc := hP.sub (ws' := [(q1, .inr (8, [v0, v0, .null]))]) [1] rfl
  have hDc := hD.sub (ws' := [(q1, .inr (8, [v0, v0, .null]))]) [1] (by decide) rfl
  have hFc := va_free (wc := [(q1, .inr (8, [v0, v0, .null]))]) hD hS hA [1] rfl
  refine va_callv (va_runI (As := [.int 21, .int 16]) (rest := [.ref q1, .ref h0]) (n := 2) ⟨hx, hb, hml, hown, hts⟩ (k_I_Tb _ g H.size q1 21 16 21 16 336 (by decide) (by decide) (by decide) (by decide) (by decide)) ⟨callB_of 2 hts (good_tbl FI_I_Tb.1) rfl rfl rfl (hts _ FI_I_Tb.2.1) (hts _ lmI_Pa_21) FI_I_Tb.2.2.1 ⟨Nat.le_of_ble_eq_true rfl, Nat.le_of_ble_eq_true rfl⟩, rfl, hts _ FI_I_Tb.2.2.2.2⟩ ⟨Pk_blind _ _ _ _ _, fun U hU hW => ⟨rfl, by rw [hU], by rw [hU]; exact hPc, va_K.moved hW.alike hK, hDc.weaken (fun _ _ _ _ => trivial), fun q => by cases q⟩⟩ rfl rfl hl.1 rfl (lv_room (Nat.le_of_ble_eq_true rfl)) d_I_Pa_22 ⟨Nat.le_of_ble_eq_true rfl, Nat.le_of_ble_eq_true rfl⟩) hS (fun q _ h => hFc q h) hFc (fun u t H1 locs ht hvm hw hB hz1 hk1 hS => ?_)
  obtain ⟨q2, rfl⟩ := hw
  obtain ⟨hP1, hK1, hD1⟩ := hB
  rw [ht] at hP1
  obtain ⟨hP, hD⟩ := va_join (wr := [(h0, .inr (1, [.ref p1, .null, .null, .null, .null, .int 1]))]) (w1 := [(q1, .inr (8, [.int 21, .int 16, .ref q2])), (q2, aI g 336)]) hP hD [1] [0] rfl rfl (by decide) (by decide) hk1 hFc hP1 hD1
  generalize H1 = H at hP hS ⊢
  have hPD : (fun ws => va_P g.2.2.1 clA ws H ∧ va_D A ws) [(h0, .inr (1, [.ref p1, .null, .null, .null, .null, .int 1])), (q1, .inr (8, [.int 21, .int 16, .ref q2])), (q2, aI g 336)] := ⟨hP, hD⟩
  obtain ⟨hP, hD⟩ := hPD
  refine W.widen (k := 2) (n := 339) (by omega) (by omega) ?_
  refine va_putF (D := g.2.2.1) (ci := 1) (v := .ref q1) (ty := .object "FlightLegs$Table") (C := Rk1) (T := Tk1) (N := 6) hx hb hts ik1 ty1 tk1 nk1 hown hK hP hD hS 0 rfl rfl 1 (by decide) (hts _ lfI_Pa_24) (fun _ h9 => h9) rfl hin rfl rfl rfl rfl (Nat.le_of_ble_eq_true rfl) d_I_Pa_25 (fun H locs hP hD hS => ?_)
  have hPD : (fun ws => va_P g.2.2.1 clA ws H ∧ va_D A ws) [(h0, .inr (1, [.ref p1, .ref q1, .null, .null, .null, .int 1])), (q1, .inr (8, [.int 21, .int 16, .ref q2])), (q2, aI g 336)] := ⟨hP, hD⟩
  obtain ⟨hP, hD⟩ := hPD
  refine lv_aload_n hx hb d_I_Pa_28 rfl (lv_at hl 0 rfl) ?_
  refine va_new (D := g.2.2.1) (ci := 9) (fs := [.null, .null, .null, .null, .int 0, .int 0, .int 0, .int 0, .int 0, .int 0, .int 0, .int 0]) (C := Rk9) (T := Tk9) (N := 12) hx hb hts ik9 ty9 tk9 hown (hts _ lkI_Pa_28) (hts _ lnI_9) (hts _ lin9) hK hP hD hS hA rfl dv_9 (Nat.le_of_ble_eq_true rfl) (Nat.le_of_ble_eq_true rfl) d_I_Pa_29 (fun q3 H hP hD hS => ?_)
  have hPD : (fun ws => va_P g.2.2.1 clA ws H ∧ va_D A ws) [(h0, .inr (1, [.ref p1, .ref q1, .null, .null, .null, .int 1])), (q1, .inr (8, [.int 21, .int 16, .ref q2])), (q2, aI g 336), (q3, .inr (9, [.null, .null, .null, .null, v0, v0, v0, v0, v0, v0, v0, v0]))] := ⟨hP, hD⟩
  obtain ⟨hP, hD⟩ := hPD
  refine W.widen (k := 3) (n := 351) (by omega) (by omega) ?_
  refine lv_dup hx hb d_I_Pa_32 rfl ?_
  refine lv_aload_n hx hb d_I_Pa_33 rfl (lv_at hl 1 rfl) ?_
  refine lv_aload_n hx hb d_I_Pa_34 rfl (lv_at hl 2 rfl) ?_
  refine lv_aload_n hx hb d_I_Pa_35 rfl (lv_at hl 0 rfl) ?_
  refine va_get (D := g.2.2.1) (ci := 1) (v := .ref q1) (C := Rk1) (T := Tk1) (N := 6) hx hb hts ik1 hown hK hP 0 rfl rfl 1 (by decide) (hts _ lfI_Pa_24) (fun _ h9 => h9) rfl d_I_Pa_36 ?_
  refine lv_iload_n hx hb d_I_Pa_39 rfl (lv_at hl 3 rfl) ?_
  have hPc := hP.sub (ws' := [(q3, .inr (9, [.null, .null, .null, .null, v0, v0, v0, v0, v0, v0, v0, v0]))]) [3] rfl
  have hDc := hD.sub (ws' := [(q3, .inr (9, [.null, .null, .null, .null, v0, v0, v0, v0, v0, v0, v0, v0]))]) [3] (by decide) rfl
  have hFc := va_free (wc := [(q3, .inr (9, [.null, .null, .null, .null, v0, v0, v0, v0, v0, v0, v0, v0]))]) hD hS hA [3] rfl
  refine va_callv (va_runI (As := [.ref p1, .ref p2, .ref q1, .int 21]) (rest := [.ref q3, .ref h0]) (n := 4) ⟨hx, hb, hml, hown, hts⟩ (k_I_Tk _ g H.size q3 p1 p2 q1) ⟨callB_of 4 hts (good_tbl FI_I_Tk.1) rfl rfl rfl (hts _ FI_I_Tk.2.1) (hts _ lmI_Pa_30) FI_I_Tk.2.2.1 ⟨Nat.le_of_ble_eq_true rfl, Nat.le_of_ble_eq_true rfl⟩, rfl, hts _ FI_I_Tk.2.2.2.2⟩ ⟨Pk_blind _ _ _ _ _, fun U hU hW => ⟨rfl, by rw [hU], by rw [hU]; exact hPc, va_K.moved hW.alike hK, hDc.weaken (fun _ _ _ _ => trivial), fun q => by cases q⟩⟩ rfl rfl hl.1 rfl (lv_room (Nat.le_of_ble_eq_true rfl)) d_I_Pa_40 ⟨Nat.le_of_ble_eq_true rfl, Nat.le_of_ble_eq_true rfl⟩) hS (fun q _ h => hFc q h) hFc (fun u t H1 locs ht hvm hw hB hz1 hk1 hS => ?_)
  obtain ⟨q4, q5, rfl⟩ := hw
  obtain ⟨hP1, hK1, hD1⟩ := hB
  rw [ht] at hP1
  obtain ⟨hP, hD⟩ := va_join (wr := [(h0, .inr (1, [.ref p1, .ref q1, .null, .null, .null, .int 1])), (q1, .inr (8, [.int 21, .int 16, .ref q2])), (q2, aI g 336)]) (w1 := [(q3, .inr (9, [.ref p1, .ref p2, .ref q1, .ref q4, v0, v0, v0, .int (-1), v0, v0, v0, v0])), (q4, .inr (8, [.int 42, .int 16, .ref q5])), (q5, aI g 672)]) hP hD [3] [0, 1, 2] rfl rfl (by decide) (by decide) hk1 hFc hP1 hD1
  generalize H1 = H at hP hS ⊢
  have hPD : (fun ws => va_P g.2.2.1 clA ws H ∧ va_D A ws) [(h0, .inr (1, [.ref p1, .ref q1, .null, .null, .null, .int 1])), (q1, .inr (8, [.int 21, .int 16, .ref q2])), (q2, aI g 336), (q3, .inr (9, [.ref p1, .ref p2, .ref q1, .ref q4, v0, v0, v0, .int (-1), v0, v0, v0, v0])), (q4, .inr (8, [.int 42, .int 16, .ref q5])), (q5, aI g 672)] := ⟨hP, hD⟩
  obtain ⟨hP, hD⟩ := hPD
  refine W.widen (k := 5) (n := 1026) (by omega) (by omega) ?_
  refine va_putF (D := g.2.2.1) (ci := 1) (v := .ref q3) (ty := .object "FlightLegs$Track") (C := Rk1) (T := Tk1) (N := 6) hx hb hts ik1 ty1 tk1 nk1 hown hK hP hD hS 0 rfl rfl 2 (by decide) (hts _ lfI_Pa_33) (fun _ h9 => h9) rfl hin rfl rfl rfl rfl (Nat.le_of_ble_eq_true rfl) d_I_Pa_43 (fun H locs hP hD hS => ?_)
  have hPD : (fun ws => va_P g.2.2.1 clA ws H ∧ va_D A ws) [(h0, .inr (1, [.ref p1, .ref q1, .ref q3, .null, .null, .int 1])), (q1, .inr (8, [.int 21, .int 16, .ref q2])), (q2, aI g 336), (q3, .inr (9, [.ref p1, .ref p2, .ref q1, .ref q4, v0, v0, v0, .int (-1), v0, v0, v0, v0])), (q4, .inr (8, [.int 42, .int 16, .ref q5])), (q5, aI g 672)] := ⟨hP, hD⟩
  obtain ⟨hP, hD⟩ := hPD
  refine lv_aload_n hx hb d_I_Pa_46 rfl (lv_at hl 0 rfl) ?_
  refine va_new (D := g.2.2.1) (ci := 2) (fs := [.null, .null, .null, .null, .null, .int 0, .int 0, .int 0, .int 0, .int 0, .int 0]) (C := Rk2) (T := Tk2) (N := 11) hx hb hts ik2 ty2 tk2 hown (hts _ lkI_Pa_37) (hts _ lnI_2) (hts _ lin2) hK hP hD hS hA rfl dv_2 (Nat.le_of_ble_eq_true rfl) (Nat.le_of_ble_eq_true rfl) d_I_Pa_47 (fun q6 H hP hD hS => ?_)
  have hPD : (fun ws => va_P g.2.2.1 clA ws H ∧ va_D A ws) [(h0, .inr (1, [.ref p1, .ref q1, .ref q3, .null, .null, .int 1])), (q1, .inr (8, [.int 21, .int 16, .ref q2])), (q2, aI g 336), (q3, .inr (9, [.ref p1, .ref p2, .ref q1, .ref q4, v0, v0, v0, .int (-1), v0, v0, v0, v0])), (q4, .inr (8, [.int 42, .int 16, .ref q5])), (q5, aI g 672), (q6, .inr (2, [.null, .null, .null, .null, .null, v0, v0, v0, v0, v0, v0]))] := ⟨hP, hD⟩
  obtain ⟨hP, hD⟩ := hPD
  refine W.widen (k := 6) (n := 1037) (by omega) (by omega) ?_
  refine lv_dup hx hb d_I_Pa_50 rfl ?_
  refine lv_aload_n hx hb d_I_Pa_51 rfl (lv_at hl 1 rfl) ?_
  refine lv_aload_n hx hb d_I_Pa_52 rfl (lv_at hl 2 rfl) ?_
  refine lv_aload_n hx hb d_I_Pa_53 rfl (lv_at hl 0 rfl) ?_
  refine va_get (D := g.2.2.1) (ci := 1) (v := .ref q3) (C := Rk1) (T := Tk1) (N := 6) hx hb hts ik1 hown hK hP 0 rfl rfl 2 (by decide) (hts _ lfI_Pa_33) (fun _ h9 => h9) rfl d_I_Pa_54 ?_
  refine lv_iload_n hx hb d_I_Pa_57 rfl (lv_at hl 3 rfl) ?_
  have hPc := hP.sub (ws' := [(q6, .inr (2, [.null, .null, .null, .null, .null, v0, v0, v0, v0, v0, v0])), (q3, .inr (9, [.ref p1, .ref p2, .ref q1, .ref q4, v0, v0, v0, .int (-1), v0, v0, v0, v0]))]) [6, 3] rfl
  have hDc := hD.sub (ws' := [(q6, .inr (2, [.null, .null, .null, .null, .null, v0, v0, v0, v0, v0, v0])), (q3, .inr (9, [.ref p1, .ref p2, .ref q1, .ref q4, v0, v0, v0, .int (-1), v0, v0, v0, v0]))]) [6, 3] (by decide) rfl
  have hFc := va_free (wc := [(q6, .inr (2, [.null, .null, .null, .null, .null, v0, v0, v0, v0, v0, v0])), (q3, .inr (9, [.ref p1, .ref p2, .ref q1, .ref q4, v0, v0, v0, .int (-1), v0, v0, v0, v0]))]) hD hS hA [6, 3] rfl
  refine va_callv (va_runI (As := [.ref p1, .ref p2, .ref q3, .int 21]) (rest := [.ref q6, .ref h0]) (n := 4) ⟨hx, hb, hml, hown, hts⟩ (k_I_Pc _ g H.size q6 p1 p2 q3 p1 p2 q1 q4) ⟨callB_of 4 hts (good_tbl FI_I_Pc.1) rfl rfl rfl (hts _ FI_I_Pc.2.1) (hts _ lmI_Pa_39) FI_I_Pc.2.2.1 ⟨Nat.le_of_ble_eq_true rfl, Nat.le_of_ble_eq_true rfl⟩, rfl, hts _ FI_I_Pc.2.2.2.2⟩ ⟨Pk_blind _ _ _ _ _, fun U hU hW => ⟨rfl, by rw [hU], by rw [hU]; exact hPc, va_K.moved hW.alike hK, hDc.weaken (fun _ _ _ _ => trivial), fun q => by cases q⟩⟩ rfl rfl hl.1 rfl (lv_room (Nat.le_of_ble_eq_true rfl)) d_I_Pa_58 ⟨Nat.le_of_ble_eq_true rfl, Nat.le_of_ble_eq_true rfl⟩) hS (fun q _ h => hFc q h) hFc (fun u t H1 locs ht hvm hw hB hz1 hk1 hS => ?_)
  obtain ⟨q7, q8, rfl⟩ := hw
  obtain ⟨hP1, hK1, hD1⟩ := hB
  rw [ht] at hP1
  obtain ⟨hP, hD⟩ := va_join (wr := [(h0, .inr (1, [.ref p1, .ref q1, .ref q3, .null, .null, .int 1])), (q1, .inr (8, [.int 21, .int 16, .ref q2])), (q2, aI g 336), (q4, .inr (8, [.int 42, .int 16, .ref q5])), (q5, aI g 672)]) (w1 := [(q6, .inr (2, [.ref p1, .ref p2, .ref q1, .ref q4, .ref q7, v0, v0, v0, v0, v0, v0])), (q3, .inr (9, [.ref p1, .ref p2, .ref q1, .ref q4, v0, v0, v0, .int (-1), v0, v0, v0, v0])), (q7, .inr (8, [.int 126, .int 8, .ref q8])), (q8, aI g 1008)]) hP hD [6, 3] [0, 1, 2, 4, 5] rfl rfl (by decide) (by decide) hk1 hFc hP1 hD1
  generalize H1 = H at hP hS ⊢
  have hPD : (fun ws => va_P g.2.2.1 clA ws H ∧ va_D A ws) [(h0, .inr (1, [.ref p1, .ref q1, .ref q3, .null, .null, .int 1])), (q1, .inr (8, [.int 21, .int 16, .ref q2])), (q2, aI g 336), (q4, .inr (8, [.int 42, .int 16, .ref q5])), (q5, aI g 672), (q6, .inr (2, [.ref p1, .ref p2, .ref q1, .ref q4, .ref q7, v0, v0, v0, v0, v0, v0])), (q3, .inr (9, [.ref p1, .ref p2, .ref q1, .ref q4, v0, v0, v0, .int (-1), v0, v0, v0, v0])), (q7, .inr (8, [.int 126, .int 8, .ref q8])), (q8, aI g 1008)] := ⟨hP, hD⟩
  obtain ⟨hP, hD⟩ := hPD
  refine W.widen (k := 8) (n := 2048) (by omega) (by omega) ?_
  refine va_putF (D := g.2.2.1) (ci := 1) (v := .ref q6) (ty := .object "FlightLegs$Pieces") (C := Rk1) (T := Tk1) (N := 6) hx hb hts ik1 ty1 tk1 nk1 hown hK hP hD hS 0 rfl rfl 3 (by decide) (hts _ lfI_Pa_42) (fun _ h9 => h9) rfl hin rfl rfl rfl rfl (Nat.le_of_ble_eq_true rfl) d_I_Pa_61 (fun H locs hP hD hS => ?_)
  have hPD : (fun ws => va_P g.2.2.1 clA ws H ∧ va_D A ws) [(h0, .inr (1, [.ref p1, .ref q1, .ref q3, .ref q6, .null, .int 1])), (q1, .inr (8, [.int 21, .int 16, .ref q2])), (q2, aI g 336), (q4, .inr (8, [.int 42, .int 16, .ref q5])), (q5, aI g 672), (q6, .inr (2, [.ref p1, .ref p2, .ref q1, .ref q4, .ref q7, v0, v0, v0, v0, v0, v0])), (q3, .inr (9, [.ref p1, .ref p2, .ref q1, .ref q4, v0, v0, v0, .int (-1), v0, v0, v0, v0])), (q7, .inr (8, [.int 126, .int 8, .ref q8])), (q8, aI g 1008)] := ⟨hP, hD⟩
  obtain ⟨hP, hD⟩ := hPD
  refine lv_aload_n hx hb d_I_Pa_64 rfl (lv_at hl 0 rfl) ?_
  refine va_new (D := g.2.2.1) (ci := 4) (fs := [.null, .null, .null]) (C := Rk4) (T := Tk4) (N := 3) hx hb hts ik4 ty4 tk4 hown (hts _ lkI_Pa_46) (hts _ lnI_4) (hts _ lin4) hK hP hD hS hA rfl dv_4 (Nat.le_of_ble_eq_true rfl) (Nat.le_of_ble_eq_true rfl) d_I_Pa_65 (fun q9 H hP hD hS => ?_)
  have hPD : (fun ws => va_P g.2.2.1 clA ws H ∧ va_D A ws) [(h0, .inr (1, [.ref p1, .ref q1, .ref q3, .ref q6, .null, .int 1])), (q1, .inr (8, [.int 21, .int 16, .ref q2])), (q2, aI g 336), (q4, .inr (8, [.int 42, .int 16, .ref q5])), (q5, aI g 672), (q6, .inr (2, [.ref p1, .ref p2, .ref q1, .ref q4, .ref q7, v0, v0, v0, v0, v0, v0])), (q3, .inr (9, [.ref p1, .ref p2, .ref q1, .ref q4, v0, v0, v0, .int (-1), v0, v0, v0, v0])), (q7, .inr (8, [.int 126, .int 8, .ref q8])), (q8, aI g 1008), (q9, .inr (4, [.null, .null, .null]))] := ⟨hP, hD⟩
  obtain ⟨hP, hD⟩ := hPD
  refine W.widen (k := 9) (n := 2051) (by omega) (by omega) ?_
  refine lv_dup hx hb d_I_Pa_68 rfl ?_
  refine lv_aload_n hx hb d_I_Pa_69 rfl (lv_at hl 1 rfl) ?_
  refine lv_aload_n hx hb d_I_Pa_70 rfl (lv_at hl 2 rfl) ?_
  refine lv_aload_n hx hb d_I_Pa_71 rfl (lv_at hl 0 rfl) ?_
  refine va_get (D := g.2.2.1) (ci := 1) (v := .ref q1) (C := Rk1) (T := Tk1) (N := 6) hx hb hts ik1 hown hK hP 0 rfl rfl 1 (by decide) (hts _ lfI_Pa_24) (fun _ h9 => h9) rfl d_I_Pa_72 ?_
  have hPc := hP.sub (ws' := [(q9, .inr (4, [.null, .null, .null]))]) [9] rfl
  have hDc := hD.sub (ws' := [(q9, .inr (4, [.null, .null, .null]))]) [9] (by decide) rfl
  have hFc := va_free (wc := [(q9, .inr (4, [.null, .null, .null]))]) hD hS hA [9] rfl
  refine va_callv (va_runI (As := [.ref p1, .ref p2, .ref q1]) (rest := [.ref q9, .ref h0]) (n := 3) ⟨hx, hb, hml, hown, hts⟩ (k_I_Pf _ g H.size q9 p1 p2 q1) ⟨callB_of 3 hts (good_tbl FI_I_Pf.1) rfl rfl rfl (hts _ FI_I_Pf.2.1) (hts _ lmI_Pa_48) FI_I_Pf.2.2.1 ⟨Nat.le_of_ble_eq_true rfl, Nat.le_of_ble_eq_true rfl⟩, rfl, hts _ FI_I_Pf.2.2.2.2⟩ ⟨Pk_blind _ _ _ _ _, fun U hU hW => ⟨rfl, by rw [hU], by rw [hU]; exact hPc, va_K.moved hW.alike hK, hDc.weaken (fun _ _ _ _ => trivial), fun q => by cases q⟩⟩ rfl rfl hl.1 rfl (lv_room (Nat.le_of_ble_eq_true rfl)) d_I_Pa_75 ⟨Nat.le_of_ble_eq_true rfl, Nat.le_of_ble_eq_true rfl⟩) hS (fun q _ h => hFc q h) hFc (fun u t H1 locs ht hvm hw hB hz1 hk1 hS => ?_)
  subst hw
  obtain ⟨hP1, hK1, hD1⟩ := hB
  rw [ht] at hP1
  obtain ⟨hP, hD⟩ := va_join (wr := [(h0, .inr (1, [.ref p1, .ref q1, .ref q3, .ref q6, .null, .int 1])), (q1, .inr (8, [.int 21, .int 16, .ref q2])), (q2, aI g 336), (q4, .inr (8, [.int 42, .int 16, .ref q5])), (q5, aI g 672), (q6, .inr (2, [.ref p1, .ref p2, .ref q1, .ref q4, .ref q7, v0, v0, v0, v0, v0, v0])), (q3, .inr (9, [.ref p1, .ref p2, .ref q1, .ref q4, v0, v0, v0, .int (-1), v0, v0, v0, v0])), (q7, .inr (8, [.int 126, .int 8, .ref q8])), (q8, aI g 1008)]) (w1 := [(q9, .inr (4, [.ref p1, .ref p2, .ref q1]))]) hP hD [9] [0, 1, 2, 3, 4, 5, 6, 7, 8] rfl rfl (by decide) (by decide) hk1 hFc hP1 hD1
  generalize H1 = H at hP hS ⊢
  have hPD : (fun ws => va_P g.2.2.1 clA ws H ∧ va_D A ws) [(h0, .inr (1, [.ref p1, .ref q1, .ref q3, .ref q6, .null, .int 1])), (q1, .inr (8, [.int 21, .int 16, .ref q2])), (q2, aI g 336), (q4, .inr (8, [.int 42, .int 16, .ref q5])), (q5, aI g 672), (q6, .inr (2, [.ref p1, .ref p2, .ref q1, .ref q4, .ref q7, v0, v0, v0, v0, v0, v0])), (q3, .inr (9, [.ref p1, .ref p2, .ref q1, .ref q4, v0, v0, v0, .int (-1), v0, v0, v0, v0])), (q7, .inr (8, [.int 126, .int 8, .ref q8])), (q8, aI g 1008), (q9, .inr (4, [.ref p1, .ref p2, .ref q1]))] := ⟨hP, hD⟩
  obtain ⟨hP, hD⟩ := hPD
  refine va_putF (D := g.2.2.1) (ci := 1) (v := .ref q9) (ty := .object "FlightLegs$Profile") (C := Rk1) (T := Tk1) (N := 6) hx hb hts ik1 ty1 tk1 nk1 hown hK hP hD hS 0 rfl rfl 4 (by decide) (hts _ lfI_Pa_51) (fun _ h9 => h9) rfl hin rfl rfl rfl rfl (Nat.le_of_ble_eq_true rfl) d_I_Pa_78 (fun H locs hP hD hS => ?_)
  have hPD : (fun ws => va_P g.2.2.1 clA ws H ∧ va_D A ws) [(h0, .inr (1, [.ref p1, .ref q1, .ref q3, .ref q6, .ref q9, .int 1])), (q1, .inr (8, [.int 21, .int 16, .ref q2])), (q2, aI g 336), (q4, .inr (8, [.int 42, .int 16, .ref q5])), (q5, aI g 672), (q6, .inr (2, [.ref p1, .ref p2, .ref q1, .ref q4, .ref q7, v0, v0, v0, v0, v0, v0])), (q3, .inr (9, [.ref p1, .ref p2, .ref q1, .ref q4, v0, v0, v0, .int (-1), v0, v0, v0, v0])), (q7, .inr (8, [.int 126, .int 8, .ref q8])), (q8, aI g 1008), (q9, .inr (4, [.ref p1, .ref p2, .ref q1]))] := ⟨hP, hD⟩
  obtain ⟨hP, hD⟩ := hPD
  refine W.widen (k := 9) (n := 2051) (by omega) (by omega) ?_
  exact W.vret hx hb hr (fun t ht hW => ⟨⟨_, rfl, ⟨q1, q2, q4, q5, q6, q3, q7, q8, q9, rfl⟩, by rw [ht]; exact hP, va_K.moved hW.alike hK, hD⟩, hS.F ht⟩) hS.2.2 d_I_Pa_81
theorem d_I_Hi_0 : decode qI_Hi.1 0 = .ok (.aload_n 0, 1) := by decide +kernel
theorem d_I_Hi_1 : decode qI_Hi.1 1 = .ok (.invokespecial 3, 3) := by decide +kernel
theorem d_I_Hi_4 : decode qI_Hi.1 4 = .ok (.aload_n 0, 1) := by decide +kernel
theorem d_I_Hi_5 : decode qI_Hi.1 5 = .ok (.new 9, 3) := by decide +kernel
theorem d_I_Hi_8 : decode qI_Hi.1 8 = .ok (.dup, 1) := by decide +kernel
theorem d_I_Hi_9 : decode qI_Hi.1 9 = .ok (.bipush 6, 2) := by decide +kernel
theorem d_I_Hi_11 : decode qI_Hi.1 11 = .ok (.iconst 4, 1) := by decide +kernel
theorem d_I_Hi_12 : decode qI_Hi.1 12 = .ok (.invokespecial 13, 3) := by decide +kernel
theorem d_I_Hi_15 : decode qI_Hi.1 15 = .ok (.putfield 16, 3) := by decide +kernel
theorem d_I_Hi_18 : decode qI_Hi.1 18 = .ok (.aload_n 0, 1) := by decide +kernel
theorem d_I_Hi_19 : decode qI_Hi.1 19 = .ok (.new 9, 3) := by decide +kernel
theorem d_I_Hi_22 : decode qI_Hi.1 22 = .ok (.dup, 1) := by decide +kernel
theorem d_I_Hi_23 : decode qI_Hi.1 23 = .ok (.bipush 120, 2) := by decide +kernel
theorem d_I_Hi_25 : decode qI_Hi.1 25 = .ok (.bipush 14, 2) := by decide +kernel
theorem d_I_Hi_27 : decode qI_Hi.1 27 = .ok (.invokespecial 13, 3) := by decide +kernel
theorem d_I_Hi_30 : decode qI_Hi.1 30 = .ok (.putfield 22, 3) := by decide +kernel
theorem d_I_Hi_33 : decode qI_Hi.1 33 = .ok (.aload_n 0, 1) := by decide +kernel
theorem d_I_Hi_34 : decode qI_Hi.1 34 = .ok (.iconst 0, 1) := by decide +kernel
theorem d_I_Hi_35 : decode qI_Hi.1 35 = .ok (.putfield 25, 3) := by decide +kernel
theorem d_I_Hi_38 : decode qI_Hi.1 38 = .ok (.aload_n 0, 1) := by decide +kernel
theorem d_I_Hi_39 : decode qI_Hi.1 39 = .ok (.iconst 0, 1) := by decide +kernel
theorem d_I_Hi_40 : decode qI_Hi.1 40 = .ok (.putfield 29, 3) := by decide +kernel
theorem d_I_Hi_43 : decode qI_Hi.1 43 = .ok (.return_, 1) := by decide +kernel
set_option maxHeartbeats 8000000 in
set_option maxRecDepth 100000 in
theorem k_I_Hi (l : Launch) (g : Ge) (sz h0 : Nat) : Met l yI_Hi (wsq yI_Hi qI_Hi.1 qI_Hi.2.1 qI_Hi.2.2.2) { frames := 2, cells := 4, slots := 1710, locals := 43 } (Pk false g [.ref h0] sz [(h0, .inr (0, [.null, .null, v0, v0]))]) (Qk g (va_A [(h0, .inr (0, [.null, .null, v0, v0]))] sz) (fun ws9 => ∃ q1 q2 q3 q4 : Nat, ws9 = [(h0, .inr (0, [.ref q1, .ref q3, v0, v0])), (q1, .inr (8, [.int 6, .int 4, .ref q2])), (q2, aI g 24), (q3, .inr (8, [.int 120, .int 14, .ref q4])), (q4, aI g 1680)])) 4 1710 (va_A [(h0, .inr (0, [.null, .null, v0, v0]))] sz) := by
  refine Met.ofW (cc := qI_Hi.1) (maxL := qI_Hi.2.1) (ret := qI_Hi.2.2.2) (ws' := lw_g) FI_I_Hi.2.2.2.1 rfl ?_
  intro p e s m args below meth c s₁ B hml hv
  obtain ⟨rfl, hsz, hP, hK, hD0, hnb⟩ := hv
  have hx := B.exec
  have hb := B.bytes
  have hr : meth.sig.returnType = none := B.returns
  have hts : ∀ x ∈ lw_g, x.before _ s = true := fun x hx => atoms_spec (ws := wsq yI_Hi qI_Hi.1 qI_Hi.2.1 qI_Hi.2.2.2) B.pre x (List.mem_cons_of_mem _ hx)
  have hown : s.vm.findClass Rk0 = some m.cls := findClass_of_methodNamed B.named
  have hlocks := B.notSynchronized
  have hin : meth.name = "<init>" := (name_of_methodNamed B.named B.method).1
  subst hsz
  have hD := hD0.self (sz := s.heap.size)
  generalize hAe : va_A [(h0, .inr (0, [.null, .null, v0, v0]))] s.heap.size = A at hD ⊢
  have hA : ∀ q : Nat, s.heap.size ≤ q → A q := fun q h => by rw [← hAe]; exact Or.inr h
  have hS : va_S A s.heap s.heap [] := va_S.rf
  have hl := lv_entry ([.ref h0]) (n := qI_Hi.2.1) (Nat.le_of_ble_eq_true rfl)
  rw [lg_entry_eq]
  generalize (lg_sl ([.ref h0]) ++ List.replicate (qI_Hi.2.1 - (lg_sl ([.ref h0])).length) Slot.unset).toArray = ls at hl ⊢
  have hl : lv_has ls qI_Hi.2.1 [(0, .ref h0)] := hl
  refine lv_aload_n hx hb d_I_Hi_0 rfl (lv_at hl 0 rfl) ?_
  refine W.objInit hx hb hown (hts _ lo_0) (hts _ loi) (hts _ loc) rfl (by rw [hml]; exact hl.1) rfl d_I_Hi_1 (Nat.le_of_ble_eq_true rfl) (Nat.le_of_ble_eq_true rfl) ?_
  refine W.eq (g2 := F0 m 4 ls []) rfl ?_
  refine lv_aload_n hx hb d_I_Hi_4 rfl (lv_at hl 0 rfl) ?_
  refine va_new (D := g.2.2.1) (ci := 8) (fs := [.int 0, .int 0, .null]) (C := Rk8) (T := Tk8) (N := 3) hx hb hts ik8 ty8 tk8 hown (hts _ lkI_Hi_9) (hts _ lnI_8) (hts _ lin8) hK hP hD hS hA rfl dv_8 (Nat.le_of_ble_eq_true rfl) (Nat.le_of_ble_eq_true rfl) d_I_Hi_5 (fun q1 H hP hD hS => ?_)
  have hPD : (fun ws => va_P g.2.2.1 clA ws H ∧ va_D A ws) [(h0, .inr (0, [.null, .null, v0, v0])), (q1, .inr (8, [v0, v0, .null]))] := ⟨hP, hD⟩
  obtain ⟨hP, hD⟩ := hPD
  refine W.widen (k := 1) (n := 3) (by omega) (by omega) ?_
  refine lv_dup hx hb d_I_Hi_8 rfl ?_
  refine lv_bipush (v := 6) hx hb d_I_Hi_9 (by decide) ?_
  refine lv_iconst (v := 4) hx hb d_I_Hi_11 (by decide) ?_
  have hPc := hP.sub (ws' := [(q1, .inr (8, [v0, v0, .null]))]) [1] rfl
  have hDc := hD.sub (ws' := [(q1, .inr (8, [v0, v0, .null]))]) [1] (by decide) rfl
  have hFc := va_free (wc := [(q1, .inr (8, [v0, v0, .null]))]) hD hS hA [1] rfl
  refine va_callv (va_runI (As := [.int 6, .int 4]) (rest := [.ref q1, .ref h0]) (n := 2) ⟨hx, hb, hml, hown, hts⟩ (k_I_Tb _ g H.size q1 6 4 6 4 24 (by decide) (by decide) (by decide) (by decide) (by decide)) ⟨callB_of 2 hts (good_tbl FI_I_Tb.1) rfl rfl rfl (hts _ FI_I_Tb.2.1) (hts _ lmI_Hi_13) FI_I_Tb.2.2.1 ⟨Nat.le_of_ble_eq_true rfl, Nat.le_of_ble_eq_true rfl⟩, rfl, hts _ FI_I_Tb.2.2.2.2⟩ ⟨Pk_blind _ _ _ _ _, fun U hU hW => ⟨rfl, by rw [hU], by rw [hU]; exact hPc, va_K.moved hW.alike hK, hDc.weaken (fun _ _ _ _ => trivial), fun q => by cases q⟩⟩ rfl rfl hl.1 rfl (lv_room (Nat.le_of_ble_eq_true rfl)) d_I_Hi_12 ⟨Nat.le_of_ble_eq_true rfl, Nat.le_of_ble_eq_true rfl⟩) hS (fun q _ h => hFc q h) hFc (fun u t H1 locs ht hvm hw hB hz1 hk1 hS => ?_)
  obtain ⟨q2, rfl⟩ := hw
  obtain ⟨hP1, hK1, hD1⟩ := hB
  rw [ht] at hP1
  obtain ⟨hP, hD⟩ := va_join (wr := [(h0, .inr (0, [.null, .null, v0, v0]))]) (w1 := [(q1, .inr (8, [.int 6, .int 4, .ref q2])), (q2, aI g 24)]) hP hD [1] [0] rfl rfl (by decide) (by decide) hk1 hFc hP1 hD1
  generalize H1 = H at hP hS ⊢
  have hPD : (fun ws => va_P g.2.2.1 clA ws H ∧ va_D A ws) [(h0, .inr (0, [.null, .null, v0, v0])), (q1, .inr (8, [.int 6, .int 4, .ref q2])), (q2, aI g 24)] := ⟨hP, hD⟩
  obtain ⟨hP, hD⟩ := hPD
  refine W.widen (k := 2) (n := 27) (by omega) (by omega) ?_
  refine va_putF (D := g.2.2.1) (ci := 0) (v := .ref q1) (ty := .object "FlightLegs$Table") (C := Rk0) (T := Tk0) (N := 4) hx hb hts ik0 ty0 tk0 nk0 hown hK hP hD hS 0 rfl rfl 0 (by decide) (hts _ lfI_Hi_16) (fun _ h9 => h9) rfl hin rfl rfl rfl rfl (Nat.le_of_ble_eq_true rfl) d_I_Hi_15 (fun H locs hP hD hS => ?_)
  have hPD : (fun ws => va_P g.2.2.1 clA ws H ∧ va_D A ws) [(h0, .inr (0, [.ref q1, .null, v0, v0])), (q1, .inr (8, [.int 6, .int 4, .ref q2])), (q2, aI g 24)] := ⟨hP, hD⟩
  obtain ⟨hP, hD⟩ := hPD
  refine lv_aload_n hx hb d_I_Hi_18 rfl (lv_at hl 0 rfl) ?_
  refine va_new (D := g.2.2.1) (ci := 8) (fs := [.int 0, .int 0, .null]) (C := Rk8) (T := Tk8) (N := 3) hx hb hts ik8 ty8 tk8 hown (hts _ lkI_Hi_9) (hts _ lnI_8) (hts _ lin8) hK hP hD hS hA rfl dv_8 (Nat.le_of_ble_eq_true rfl) (Nat.le_of_ble_eq_true rfl) d_I_Hi_19 (fun q3 H hP hD hS => ?_)
  have hPD : (fun ws => va_P g.2.2.1 clA ws H ∧ va_D A ws) [(h0, .inr (0, [.ref q1, .null, v0, v0])), (q1, .inr (8, [.int 6, .int 4, .ref q2])), (q2, aI g 24), (q3, .inr (8, [v0, v0, .null]))] := ⟨hP, hD⟩
  obtain ⟨hP, hD⟩ := hPD
  refine W.widen (k := 3) (n := 30) (by omega) (by omega) ?_
  refine lv_dup hx hb d_I_Hi_22 rfl ?_
  refine lv_bipush (v := 120) hx hb d_I_Hi_23 (by decide) ?_
  refine lv_bipush (v := 14) hx hb d_I_Hi_25 (by decide) ?_
  have hPc := hP.sub (ws' := [(q3, .inr (8, [v0, v0, .null]))]) [3] rfl
  have hDc := hD.sub (ws' := [(q3, .inr (8, [v0, v0, .null]))]) [3] (by decide) rfl
  have hFc := va_free (wc := [(q3, .inr (8, [v0, v0, .null]))]) hD hS hA [3] rfl
  refine va_callv (va_runI (As := [.int 120, .int 14]) (rest := [.ref q3, .ref h0]) (n := 2) ⟨hx, hb, hml, hown, hts⟩ (k_I_Tb _ g H.size q3 120 14 120 14 1680 (by decide) (by decide) (by decide) (by decide) (by decide)) ⟨callB_of 2 hts (good_tbl FI_I_Tb.1) rfl rfl rfl (hts _ FI_I_Tb.2.1) (hts _ lmI_Hi_13) FI_I_Tb.2.2.1 ⟨Nat.le_of_ble_eq_true rfl, Nat.le_of_ble_eq_true rfl⟩, rfl, hts _ FI_I_Tb.2.2.2.2⟩ ⟨Pk_blind _ _ _ _ _, fun U hU hW => ⟨rfl, by rw [hU], by rw [hU]; exact hPc, va_K.moved hW.alike hK, hDc.weaken (fun _ _ _ _ => trivial), fun q => by cases q⟩⟩ rfl rfl hl.1 rfl (lv_room (Nat.le_of_ble_eq_true rfl)) d_I_Hi_27 ⟨Nat.le_of_ble_eq_true rfl, Nat.le_of_ble_eq_true rfl⟩) hS (fun q _ h => hFc q h) hFc (fun u t H1 locs ht hvm hw hB hz1 hk1 hS => ?_)
  obtain ⟨q4, rfl⟩ := hw
  obtain ⟨hP1, hK1, hD1⟩ := hB
  rw [ht] at hP1
  obtain ⟨hP, hD⟩ := va_join (wr := [(h0, .inr (0, [.ref q1, .null, v0, v0])), (q1, .inr (8, [.int 6, .int 4, .ref q2])), (q2, aI g 24)]) (w1 := [(q3, .inr (8, [.int 120, .int 14, .ref q4])), (q4, aI g 1680)]) hP hD [3] [0, 1, 2] rfl rfl (by decide) (by decide) hk1 hFc hP1 hD1
  generalize H1 = H at hP hS ⊢
  have hPD : (fun ws => va_P g.2.2.1 clA ws H ∧ va_D A ws) [(h0, .inr (0, [.ref q1, .null, v0, v0])), (q1, .inr (8, [.int 6, .int 4, .ref q2])), (q2, aI g 24), (q3, .inr (8, [.int 120, .int 14, .ref q4])), (q4, aI g 1680)] := ⟨hP, hD⟩
  obtain ⟨hP, hD⟩ := hPD
  refine W.widen (k := 4) (n := 1710) (by omega) (by omega) ?_
  refine va_putF (D := g.2.2.1) (ci := 0) (v := .ref q3) (ty := .object "FlightLegs$Table") (C := Rk0) (T := Tk0) (N := 4) hx hb hts ik0 ty0 tk0 nk0 hown hK hP hD hS 0 rfl rfl 1 (by decide) (hts _ lfI_Hi_22) (fun _ h9 => h9) rfl hin rfl rfl rfl rfl (Nat.le_of_ble_eq_true rfl) d_I_Hi_30 (fun H locs hP hD hS => ?_)
  have hPD : (fun ws => va_P g.2.2.1 clA ws H ∧ va_D A ws) [(h0, .inr (0, [.ref q1, .ref q3, v0, v0])), (q1, .inr (8, [.int 6, .int 4, .ref q2])), (q2, aI g 24), (q3, .inr (8, [.int 120, .int 14, .ref q4])), (q4, aI g 1680)] := ⟨hP, hD⟩
  obtain ⟨hP, hD⟩ := hPD
  refine lv_aload_n hx hb d_I_Hi_33 rfl (lv_at hl 0 rfl) ?_
  refine lv_iconst (v := 0) hx hb d_I_Hi_34 (by decide) ?_
  refine va_put (D := g.2.2.1) (ci := 0) (v := .int 0) (ty := .int) (C := Rk0) (T := Tk0) (N := 4) hx hb hts ik0 ty0 tk0 nk0 hown hK hP hD hS 0 rfl rfl 2 (by decide) (hts _ lfI_Hi_25) (fun _ h9 => h9) rfl rfl rfl rfl (Nat.le_of_ble_eq_true rfl) d_I_Hi_35 (fun H locs hP hD hS => ?_)
  have hPD : (fun ws => va_P g.2.2.1 clA ws H ∧ va_D A ws) [(h0, .inr (0, [.ref q1, .ref q3, v0, v0])), (q1, .inr (8, [.int 6, .int 4, .ref q2])), (q2, aI g 24), (q3, .inr (8, [.int 120, .int 14, .ref q4])), (q4, aI g 1680)] := ⟨hP, hD⟩
  obtain ⟨hP, hD⟩ := hPD
  refine lv_aload_n hx hb d_I_Hi_38 rfl (lv_at hl 0 rfl) ?_
  refine lv_iconst (v := 0) hx hb d_I_Hi_39 (by decide) ?_
  refine va_put (D := g.2.2.1) (ci := 0) (v := .int 0) (ty := .int) (C := Rk0) (T := Tk0) (N := 4) hx hb hts ik0 ty0 tk0 nk0 hown hK hP hD hS 0 rfl rfl 3 (by decide) (hts _ lfI_Hi_29) (fun _ h9 => h9) rfl rfl rfl rfl (Nat.le_of_ble_eq_true rfl) d_I_Hi_40 (fun H locs hP hD hS => ?_)
  have hPD : (fun ws => va_P g.2.2.1 clA ws H ∧ va_D A ws) [(h0, .inr (0, [.ref q1, .ref q3, v0, v0])), (q1, .inr (8, [.int 6, .int 4, .ref q2])), (q2, aI g 24), (q3, .inr (8, [.int 120, .int 14, .ref q4])), (q4, aI g 1680)] := ⟨hP, hD⟩
  obtain ⟨hP, hD⟩ := hPD
  refine W.widen (k := 4) (n := 1710) (by omega) (by omega) ?_
  exact W.vret hx hb hr (fun t ht hW => ⟨⟨_, rfl, ⟨q1, q2, q3, q4, rfl⟩, by rw [ht]; exact hP, va_K.moved hW.alike hK, hD⟩, hS.F ht⟩) hS.2.2 d_I_Hi_43
theorem d_I_Pg_0 : decode qI_Pg.1 0 = .ok (.aload_n 0, 1) := by decide +kernel
theorem d_I_Pg_1 : decode qI_Pg.1 1 = .ok (.invokespecial 3, 3) := by decide +kernel
theorem d_I_Pg_4 : decode qI_Pg.1 4 = .ok (.aload_n 0, 1) := by decide +kernel
theorem d_I_Pg_5 : decode qI_Pg.1 5 = .ok (.iconst 0, 1) := by decide +kernel
theorem d_I_Pg_6 : decode qI_Pg.1 6 = .ok (.putfield 9, 3) := by decide +kernel
theorem d_I_Pg_9 : decode qI_Pg.1 9 = .ok (.aload_n 0, 1) := by decide +kernel
theorem d_I_Pg_10 : decode qI_Pg.1 10 = .ok (.iconst 0, 1) := by decide +kernel
theorem d_I_Pg_11 : decode qI_Pg.1 11 = .ok (.putfield 15, 3) := by decide +kernel
theorem d_I_Pg_14 : decode qI_Pg.1 14 = .ok (.aload_n 0, 1) := by decide +kernel
theorem d_I_Pg_15 : decode qI_Pg.1 15 = .ok (.iconst 0, 1) := by decide +kernel
theorem d_I_Pg_16 : decode qI_Pg.1 16 = .ok (.putfield 18, 3) := by decide +kernel
theorem d_I_Pg_19 : decode qI_Pg.1 19 = .ok (.aload_n 0, 1) := by decide +kernel
theorem d_I_Pg_20 : decode qI_Pg.1 20 = .ok (.iconst 0, 1) := by decide +kernel
theorem d_I_Pg_21 : decode qI_Pg.1 21 = .ok (.putfield 21, 3) := by decide +kernel
theorem d_I_Pg_24 : decode qI_Pg.1 24 = .ok (.aload_n 0, 1) := by decide +kernel
theorem d_I_Pg_25 : decode qI_Pg.1 25 = .ok (.aload_n 1, 1) := by decide +kernel
theorem d_I_Pg_26 : decode qI_Pg.1 26 = .ok (.putfield 24, 3) := by decide +kernel
theorem d_I_Pg_29 : decode qI_Pg.1 29 = .ok (.aload_n 0, 1) := by decide +kernel
theorem d_I_Pg_30 : decode qI_Pg.1 30 = .ok (.aload_n 2, 1) := by decide +kernel
theorem d_I_Pg_31 : decode qI_Pg.1 31 = .ok (.putfield 28, 3) := by decide +kernel
theorem d_I_Pg_34 : decode qI_Pg.1 34 = .ok (.return_, 1) := by decide +kernel
set_option maxHeartbeats 8000000 in
set_option maxRecDepth 100000 in
theorem k_I_Pg (l : Launch) (g : Ge) (sz h0 : Nat) (p1 : Nat) (p2 : Nat) : Met l yI_Pg (wsq yI_Pg qI_Pg.1 qI_Pg.2.1 qI_Pg.2.2.2) { frames := 1, cells := 0, slots := 0, locals := 20 } (Pk false g [.ref h0, .ref p1, .ref p2] sz [(h0, .inr (5, [.null, .null, v0, v0, v0, v0]))]) (Qk g (va_A [(h0, .inr (5, [.null, .null, v0, v0, v0, v0]))] sz) (fun ws9 => ws9 = [(h0, .inr (5, [.ref p1, .ref p2, v0, v0, v0, v0]))])) 0 0 (va_A [(h0, .inr (5, [.null, .null, v0, v0, v0, v0]))] sz) := by
  refine Met.ofW (cc := qI_Pg.1) (maxL := qI_Pg.2.1) (ret := qI_Pg.2.2.2) (ws' := lw_g) FI_I_Pg.2.2.2.1 rfl ?_
  intro p e s m args below meth c s₁ B hml hv
  obtain ⟨rfl, hsz, hP, hK, hD0, hnb⟩ := hv
  have hx := B.exec
  have hb := B.bytes
  have hr : meth.sig.returnType = none := B.returns
  have hts : ∀ x ∈ lw_g, x.before _ s = true := fun x hx => atoms_spec (ws := wsq yI_Pg qI_Pg.1 qI_Pg.2.1 qI_Pg.2.2.2) B.pre x (List.mem_cons_of_mem _ hx)
  have hown : s.vm.findClass Rk5 = some m.cls := findClass_of_methodNamed B.named
  have hlocks := B.notSynchronized
  have hin : meth.name = "<init>" := (name_of_methodNamed B.named B.method).1
  subst hsz
  have hD := hD0.self (sz := s.heap.size)
  generalize hAe : va_A [(h0, .inr (5, [.null, .null, v0, v0, v0, v0]))] s.heap.size = A at hD ⊢
  have hA : ∀ q : Nat, s.heap.size ≤ q → A q := fun q h => by rw [← hAe]; exact Or.inr h
  have hS : va_S A s.heap s.heap [] := va_S.rf
  have hl := lv_entry ([.ref h0, .ref p1, .ref p2]) (n := qI_Pg.2.1) (Nat.le_of_ble_eq_true rfl)
  rw [lg_entry_eq]
  generalize (lg_sl ([.ref h0, .ref p1, .ref p2]) ++ List.replicate (qI_Pg.2.1 - (lg_sl ([.ref h0, .ref p1, .ref p2])).length) Slot.unset).toArray = ls at hl ⊢
  have hl : lv_has ls qI_Pg.2.1 [(0, .ref h0), (1, .ref p1), (2, .ref p2)] := hl
  refine lv_aload_n hx hb d_I_Pg_0 rfl (lv_at hl 0 rfl) ?_
  refine W.objInit hx hb hown (hts _ lo_5) (hts _ loi) (hts _ loc) rfl (by rw [hml]; exact hl.1) rfl d_I_Pg_1 (Nat.le_of_ble_eq_true rfl) (Nat.le_of_ble_eq_true rfl) ?_
  refine W.eq (g2 := F0 m 4 ls []) rfl ?_
  refine lv_aload_n hx hb d_I_Pg_4 rfl (lv_at hl 0 rfl) ?_
  refine lv_iconst (v := 0) hx hb d_I_Pg_5 (by decide) ?_
  refine va_put (D := g.2.2.1) (ci := 5) (v := .int 0) (ty := .int) (C := Rk5) (T := Tk5) (N := 6) hx hb hts ik5 ty5 tk5 nk5 hown hK hP hD hS 0 rfl rfl 2 (by decide) (hts _ lfI_Pg_9) (fun _ h9 => h9) rfl rfl rfl rfl (Nat.le_of_ble_eq_true rfl) d_I_Pg_6 (fun H locs hP hD hS => ?_)
  have hPD : (fun ws => va_P g.2.2.1 clA ws H ∧ va_D A ws) [(h0, .inr (5, [.null, .null, v0, v0, v0, v0]))] := ⟨hP, hD⟩
  obtain ⟨hP, hD⟩ := hPD
  refine lv_aload_n hx hb d_I_Pg_9 rfl (lv_at hl 0 rfl) ?_
  refine lv_iconst (v := 0) hx hb d_I_Pg_10 (by decide) ?_
  refine va_put (D := g.2.2.1) (ci := 5) (v := .int 0) (ty := .int) (C := Rk5) (T := Tk5) (N := 6) hx hb hts ik5 ty5 tk5 nk5 hown hK hP hD hS 0 rfl rfl 3 (by decide) (hts _ lfI_Pg_15) (fun _ h9 => h9) rfl rfl rfl rfl (Nat.le_of_ble_eq_true rfl) d_I_Pg_11 (fun H locs hP hD hS => ?_)
  have hPD : (fun ws => va_P g.2.2.1 clA ws H ∧ va_D A ws) [(h0, .inr (5, [.null, .null, v0, v0, v0, v0]))] := ⟨hP, hD⟩
  obtain ⟨hP, hD⟩ := hPD
  refine lv_aload_n hx hb d_I_Pg_14 rfl (lv_at hl 0 rfl) ?_
  refine lv_iconst (v := 0) hx hb d_I_Pg_15 (by decide) ?_
  refine va_put (D := g.2.2.1) (ci := 5) (v := .int 0) (ty := .int) (C := Rk5) (T := Tk5) (N := 6) hx hb hts ik5 ty5 tk5 nk5 hown hK hP hD hS 0 rfl rfl 4 (by decide) (hts _ lfI_Pg_18) (fun _ h9 => h9) rfl rfl rfl rfl (Nat.le_of_ble_eq_true rfl) d_I_Pg_16 (fun H locs hP hD hS => ?_)
  have hPD : (fun ws => va_P g.2.2.1 clA ws H ∧ va_D A ws) [(h0, .inr (5, [.null, .null, v0, v0, v0, v0]))] := ⟨hP, hD⟩
  obtain ⟨hP, hD⟩ := hPD
  refine lv_aload_n hx hb d_I_Pg_19 rfl (lv_at hl 0 rfl) ?_
  refine lv_iconst (v := 0) hx hb d_I_Pg_20 (by decide) ?_
  refine va_put (D := g.2.2.1) (ci := 5) (v := .int 0) (ty := .int) (C := Rk5) (T := Tk5) (N := 6) hx hb hts ik5 ty5 tk5 nk5 hown hK hP hD hS 0 rfl rfl 5 (by decide) (hts _ lfI_Pg_21) (fun _ h9 => h9) rfl rfl rfl rfl (Nat.le_of_ble_eq_true rfl) d_I_Pg_21 (fun H locs hP hD hS => ?_)
  have hPD : (fun ws => va_P g.2.2.1 clA ws H ∧ va_D A ws) [(h0, .inr (5, [.null, .null, v0, v0, v0, v0]))] := ⟨hP, hD⟩
  obtain ⟨hP, hD⟩ := hPD
  refine lv_aload_n hx hb d_I_Pg_24 rfl (lv_at hl 0 rfl) ?_
  refine lv_aload_n hx hb d_I_Pg_25 rfl (lv_at hl 1 rfl) ?_
  refine va_putF (D := g.2.2.1) (ci := 5) (v := .ref p1) (ty := .object "FlightLegs$Plan") (C := Rk5) (T := Tk5) (N := 6) hx hb hts ik5 ty5 tk5 nk5 hown hK hP hD hS 0 rfl rfl 0 (by decide) (hts _ lfI_Pg_24) (fun _ h9 => h9) rfl hin rfl rfl rfl rfl (Nat.le_of_ble_eq_true rfl) d_I_Pg_26 (fun H locs hP hD hS => ?_)
  have hPD : (fun ws => va_P g.2.2.1 clA ws H ∧ va_D A ws) [(h0, .inr (5, [.ref p1, .null, v0, v0, v0, v0]))] := ⟨hP, hD⟩
  obtain ⟨hP, hD⟩ := hPD
  refine lv_aload_n hx hb d_I_Pg_29 rfl (lv_at hl 0 rfl) ?_
  refine lv_aload_n hx hb d_I_Pg_30 rfl (lv_at hl 2 rfl) ?_
  refine va_putF (D := g.2.2.1) (ci := 5) (v := .ref p2) (ty := .object "FlightLegs$Path") (C := Rk5) (T := Tk5) (N := 6) hx hb hts ik5 ty5 tk5 nk5 hown hK hP hD hS 0 rfl rfl 1 (by decide) (hts _ lfI_Pg_28) (fun _ h9 => h9) rfl hin rfl rfl rfl rfl (Nat.le_of_ble_eq_true rfl) d_I_Pg_31 (fun H locs hP hD hS => ?_)
  have hPD : (fun ws => va_P g.2.2.1 clA ws H ∧ va_D A ws) [(h0, .inr (5, [.ref p1, .ref p2, v0, v0, v0, v0]))] := ⟨hP, hD⟩
  obtain ⟨hP, hD⟩ := hPD
  refine W.widen (k := 0) (n := 0) (by omega) (by omega) ?_
  exact W.vret hx hb hr (fun t ht hW => ⟨⟨_, rfl, rfl, by rw [ht]; exact hP, va_K.moved hW.alike hK, hD⟩, hS.F ht⟩) hS.2.2 d_I_Pg_34
