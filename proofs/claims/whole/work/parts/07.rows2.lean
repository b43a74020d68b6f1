/-! more rows: statics, tables, the JDK's Math and arraycopy, references as answers, nest mates, the text -/
def imax (a b : Int32) : Int32 := if a < b then b else a
def imin (a b : Int32) : Int32 := if b < a then b else a
def iabs (a : Int32) : Int32 := if 0 ≤ a then a else 0 - a
/-- System.arraycopy between two int arrays -/
def scp (σ : St) (i j sp dp n : Nat) : St := fun a b => if a = j then va_cpy (σ i) (σ j) sp dp n b else σ a b
theorem scp_ne {σ : St} {i j sp dp n : Nat} {a : Nat} (h : a ≠ j) : scp σ i j sp dp n a = σ a := by
  funext b
  simp [scp, h]
theorem scp_eq {σ : St} {i j sp dp n : Nat} : scp σ i j sp dp n j = va_cpy (σ i) (σ j) sp dp n := by
  funext b
  simp [scp]
theorem ent_scp {Y : Lay} {g : Ge} {σ : St} {i j sp dp n : Nat} {a : Nat} (h : a ≠ j) : ent Y g (scp σ i j sp dp n) a = ent Y g σ a := by
  have e := scp_ne (σ := σ) (i := i) (sp := sp) (dp := dp) (n := n) h
  unfold ent
  split
  · rw [e]
  · have e2 : fv Y g (scp σ i j sp dp n) a = fv Y g σ a := by
      funext b
      unfold fv
      rw [e]
    rw [e2]
abbrev Cpy (sp dp n : Int32) (n0 n1 : Nat) : Prop := ¬ sp < 0 ∧ ¬ dp < 0 ∧ ¬ n < 0 ∧ sp.toNatClampNeg + n.toNatClampNeg ≤ n0 ∧ dp.toNatClampNeg + n.toNatClampNeg ≤ n1
/-- what the tables say of the JDK's Math and arraycopy -/
def Lmx (own : String) (i : Nat) : Prop := Cond.methodLink own i Lib.Math.max.name ∈ lw_g ∧ Cond.static Lib.Math.max.name ∈ lw_g ∧ Cond.initialized "java/lang/Math" ∈ lw_g ∧ Cond.code Lib.Math.max.name Lib.Math.max.code 2 (some .int) ∈ lw_g
def Lmn (own : String) (i : Nat) : Prop := Cond.methodLink own i Lib.Math.min.name ∈ lw_g ∧ Cond.static Lib.Math.min.name ∈ lw_g ∧ Cond.initialized "java/lang/Math" ∈ lw_g ∧ Cond.code Lib.Math.min.name Lib.Math.min.code 2 (some .int) ∈ lw_g
def Lma (own : String) (i : Nat) : Prop := Cond.methodLink own i Lib.Math.abs.name ∈ lw_g ∧ Cond.static Lib.Math.abs.name ∈ lw_g ∧ Cond.initialized "java/lang/Math" ∈ lw_g ∧ Cond.code Lib.Math.abs.name Lib.Math.abs.code 1 (some .int) ∈ lw_g
def Lcp (own : String) (i : Nat) : Prop := Cond.methodLink own i arraycopyName ∈ lw_g ∧ Cond.native arraycopyName ∈ lw_g ∧ Cond.static arraycopyName ∈ lw_g ∧ Cond.initialized "java/lang/System" ∈ lw_g
section ROWS2
variable {ρ ρ' : Type} {z : Zx} {q q' : Mq} {w : Wq} {g : Ge} {out : ρ → Option Value × St} {pc pc' : Nat} {lv : List (Nat × Value)} {st : List Value} {σ : St} {E : Option ρ} {fr lo fr' lo' : Nat}
theorem q_mmax (C : Cx z q w g fr lo) {i : Nat} (L : Lmx q.2.2.1 i) {a b : Int32} (hW : (st.map fun v => v.category).sum ≤ 8) (hR : Nat.ble 1 fr = true ∧ Nat.ble 21 lo = true) (hd : decode q.1 pc = .ok (.invokestatic i, 3)) (hp : pc + 3 = pc') (kk : Rt z q w g out pc' lv (.int (imax a b) :: st) σ E) : Rt z q w g out pc lv (.int b :: .int a :: st) σ E := by
  subst hp
  intro x hE H locs ls hP hS hl
  have hts := C.2.2.2.2.2.2.1
  have hrm : z.1.2.2.2.1 = rmq fr lo := C.2.2.2.2.2.2.2.2.2.1
  have r1 := Nat.le_of_ble_eq_true hR.1
  have r2 := Nat.le_of_ble_eq_true hR.2
  refine va_mmax C.1 C.2.1 (C.2.2.1.trans hl.1.symm) C.2.2.2.2.2.1 (hts _ L.1) (hts _ L.2.1) (hts _ L.2.2.1) (hts _ L.2.2.2) (by rw [hrm]; exact r1) (by rw [hrm]; exact Nat.le_trans (Nat.add_le_add_right hW 13) r2) (Nat.zero_le _) (Nat.zero_le _) hd (kk x hE H locs ls hP hS hl)
theorem q_mmin (C : Cx z q w g fr lo) {i : Nat} (L : Lmn q.2.2.1 i) {a b : Int32} (hW : (st.map fun v => v.category).sum ≤ 8) (hR : Nat.ble 1 fr = true ∧ Nat.ble 21 lo = true) (hd : decode q.1 pc = .ok (.invokestatic i, 3)) (hp : pc + 3 = pc') (kk : Rt z q w g out pc' lv (.int (imin a b) :: st) σ E) : Rt z q w g out pc lv (.int b :: .int a :: st) σ E := by
  subst hp
  intro x hE H locs ls hP hS hl
  have hts := C.2.2.2.2.2.2.1
  have hrm : z.1.2.2.2.1 = rmq fr lo := C.2.2.2.2.2.2.2.2.2.1
  have r1 := Nat.le_of_ble_eq_true hR.1
  have r2 := Nat.le_of_ble_eq_true hR.2
  refine va_mmin C.1 C.2.1 (C.2.2.1.trans hl.1.symm) C.2.2.2.2.2.1 (hts _ L.1) (hts _ L.2.1) (hts _ L.2.2.1) (hts _ L.2.2.2) (by rw [hrm]; exact r1) (by rw [hrm]; exact Nat.le_trans (Nat.add_le_add_right hW 13) r2) (Nat.zero_le _) (Nat.zero_le _) hd (kk x hE H locs ls hP hS hl)
theorem q_mabs (C : Cx z q w g fr lo) {i : Nat} (L : Lma q.2.2.1 i) {a : Int32} (hW : (st.map fun v => v.category).sum ≤ 8) (hR : Nat.ble 1 fr = true ∧ Nat.ble 21 lo = true) (hd : decode q.1 pc = .ok (.invokestatic i, 3)) (hp : pc + 3 = pc') (kk : Rt z q w g out pc' lv (.int (iabs a) :: st) σ E) : Rt z q w g out pc lv (.int a :: st) σ E := by
  subst hp
  intro x hE H locs ls hP hS hl
  have hts := C.2.2.2.2.2.2.1
  have hrm : z.1.2.2.2.1 = rmq fr lo := C.2.2.2.2.2.2.2.2.2.1
  have r1 := Nat.le_of_ble_eq_true hR.1
  have r2 := Nat.le_of_ble_eq_true hR.2
  refine va_mabs C.1 C.2.1 (C.2.2.1.trans hl.1.symm) C.2.2.2.2.2.1 (hts _ L.1) (hts _ L.2.1) (hts _ L.2.2.1) (hts _ L.2.2.2) (by rw [hrm]; exact r1) (by rw [hrm]; exact Nat.le_trans (Nat.add_le_add_right hW 13) r2) (Nat.zero_le _) (Nat.zero_le _) hd (kk x hE H locs ls hP hS hl)
theorem q_copy (C : Cx z q w g fr lo) {i : Nat} (L : Lcp q.2.2.1 i) (j0 j1 : Nat) {n0 n1 : Nat} (hj0 : j0 < w.2.1) (hb0 : w.2.2.1 j0 = .inl (false, n0)) (hj1 : j1 < w.2.1) (hb1 : w.2.2.1 j1 = .inl (false, n1)) {sp dp n : Int32} {inst : Decidable (Cpy sp dp n n0 n1)} (hW : (st.map fun v => v.category).sum ≤ 8) (hR : Nat.ble 1 fr = true ∧ Nat.ble 26 lo = true) (hd : decode q.1 pc = .ok (.invokestatic i, 3)) (hp : pc + 3 = pc')
    (kk : Rt z q w g out pc' lv st (scp σ j0 j1 sp.toNatClampNeg dp.toNatClampNeg n.toNatClampNeg) E) : Rt z q w g out pc lv (.int n :: .int dp :: .ref (g.1 j1) :: .int sp :: .ref (g.1 j0) :: st) σ (@Gd _ (Cpy sp dp n n0 n1) inst E) := by
  subst hp
  refine q_guard (fun hc => ?_)
  intro x hE H locs ls hP hS hl
  have hts := C.2.2.2.2.2.2.1
  have hrm : z.1.2.2.2.1 = rmq fr lo := C.2.2.2.2.2.2.2.2.2.1
  have r1 := Nat.le_of_ble_eq_true hR.1
  have r2 := Nat.le_of_ble_eq_true hR.2
  refine va_copyi (D := g.2.2.1) (ty := .int) C.1 C.2.1 (C.2.2.1.trans hl.1.symm) C.2.2.2.2.2.1 (hts _ L.1) (hts _ L.2.1) (hts _ L.2.2.1) (hts _ L.2.2.2) C.2.2.2.2.2.2.2.1 hP (wl_D C.2.2.2.2.2.2.2.2.1 σ) hS j0 j1 0 0 ((wl_get hj0).trans (by rw [ent_arr hb0]; rfl)) ((wl_get hj1).trans (by rw [ent_arr hb1]; rfl)) rfl rfl rfl hc.1 hc.2.1 hc.2.2.1 hc.2.2.2.1 hc.2.2.2.2 (fun _ _ => rfl) (by rw [hrm]; exact r1) (by rw [hrm]; exact Nat.le_trans (Nat.add_le_add_right hW _) r2) hd (fun H1 locs1 hP1 _ hS1 => ?_)
  have e1 := wl_set (g := g) (σ := σ) (σ' := scp σ j0 j1 sp.toNatClampNeg dp.toNatClampNeg n.toNatClampNeg) (e := .inl (g.2.1.1, n1, .inl (va_cpy (σ j0) (σ j1) sp.toNatClampNeg dp.toNatClampNeg n.toNatClampNeg))) hj1 (by rw [ent_arr hb1, scp_eq]; rfl) (fun i hi => ent_scp hi)
  rw [e1] at hP1
  exact kk x hE H1 locs1 ls hP1 hS1 hl
/-! statics -/
theorem q_gsin (C : Cx z q w g fr lo) (hf : w.1.2 = true) {i : Nat} (hw : Cond.fieldLink q.2.2.1 i "FlightLegs$Compass" "SINES" "[I" ∈ lw_g) (hd : decode q.1 pc = .ok (.getstatic i, 3)) (hp : pc + 3 = pc') (kk : Rt z q w g out pc' lv (.ref (g.2.2.2.1 0) :: st) σ E) : Rt z q w g out pc lv st σ E := by
  subst hp
  intro x hE H locs ls hP hS hl
  exact va_gets C.1 C.2.1 (C.2.2.2.2.2.2.2.2.2.2 hf).1 hS C.2.2.2.2.2.1 (C.2.2.2.2.2.2.1 _ hw) (fun _ h => h) hd (kk x hE H locs ls hP hS hl)
theorem q_gled (C : Cx z q w g fr lo) (hf : w.1.2 = true) {i : Nat} (hw : Cond.fieldLink q.2.2.1 i "FlightLegs$Track" "LEADS" "[I" ∈ lw_g) (hd : decode q.1 pc = .ok (.getstatic i, 3)) (hp : pc + 3 = pc') (kk : Rt z q w g out pc' lv (.ref (g.2.2.2.1 1) :: st) σ E) : Rt z q w g out pc lv st σ E := by
  subst hp
  intro x hE H locs ls hP hS hl
  exact va_gets C.1 C.2.1 (C.2.2.2.2.2.2.2.2.2.2 hf).2.2.1 hS C.2.2.2.2.2.1 (C.2.2.2.2.2.2.1 _ hw) (fun _ h => h) hd (kk x hE H locs ls hP hS hl)
theorem q_gcmp (C : Cx z q w g fr lo) (hf : w.1.2 = true) {i : Nat} (hw : Cond.fieldLink q.2.2.1 i "java/lang/String" "COMPACT_STRINGS" "Z" ∈ lw_g) (hd : decode q.1 pc = .ok (.getstatic i, 3)) (hp : pc + 3 = pc') (kk : Rt z q w g out pc' lv (.int 1 :: st) σ E) : Rt z q w g out pc lv st σ E := by
  subst hp
  intro x hE H locs ls hP hS hl
  exact va_gets C.1 C.2.1 (C.2.2.2.2.2.2.2.2.2.2 hf).2.2.2.2.2.2.1 hS C.2.2.2.2.2.1 (C.2.2.2.2.2.2.1 _ hw) (fun _ h => h) hd (kk x hE H locs ls hP hS hl)
theorem q_gfmt (C : Cx z q w g fr lo) (hf : w.1.2 = true) {i : Nat} (hw : Cond.fieldLink q.2.2.1 i "jdk/internal/util/Preconditions" "SIOOBE_FORMATTER" "Ljava/util/function/BiFunction;" ∈ lw_g) (hd : decode q.1 pc = .ok (.getstatic i, 3)) (hp : pc + 3 = pc') (kk : Rt z q w g out pc' lv (va_rf g.2.2.2.2 :: st) σ E) : Rt z q w g out pc lv st σ E := by
  subst hp
  intro x hE H locs ls hP hS hl
  exact va_gets C.1 C.2.1 (C.2.2.2.2.2.2.2.2.2.2 hf).2.2.2.2.2.2.2.1 hS C.2.2.2.2.2.1 (C.2.2.2.2.2.2.1 _ hw) (fun _ h => h) hd (kk x hE H locs ls hP hS hl)
theorem q_tsin (C : Cx z q w g fr lo) (hf : w.1.2 = true) {i : Int32} {inst : Decidable (Ix i 24)} (hd : decode q.1 pc = .ok (.iaload, 1)) (hp : pc + 1 = pc') (kk : Rt z q w g out pc' lv (.int (SINS.getD i.toNatClampNeg 0) :: st) σ E) : Rt z q w g out pc lv (.int i :: .ref (g.2.2.2.1 0) :: st) σ (@Gd _ (Ix i 24) inst E) := by
  subst hp
  refine q_guard (fun hi => ?_)
  intro x hE H locs ls hP hS hl
  exact va_ti C.1 C.2.1 (C.2.2.2.2.2.2.2.2.2.2 hf).2.1 hS hi rfl hd (kk x hE H locs ls hP hS hl)
theorem q_tled (C : Cx z q w g fr lo) (hf : w.1.2 = true) {i : Int32} {inst : Decidable (Ix i 9)} (hd : decode q.1 pc = .ok (.iaload, 1)) (hp : pc + 1 = pc') (kk : Rt z q w g out pc' lv (.int (LEDS.getD i.toNatClampNeg 0) :: st) σ E) : Rt z q w g out pc lv (.int i :: .ref (g.2.2.2.1 1) :: st) σ (@Gd _ (Ix i 9) inst E) := by
  subst hp
  refine q_guard (fun hi => ?_)
  intro x hE H locs ls hP hS hl
  exact va_ti C.1 C.2.1 (C.2.2.2.2.2.2.2.2.2.2 hf).2.2.2.1 hS hi rfl hd (kk x hE H locs ls hP hS hl)
theorem q_nled (C : Cx z q w g fr lo) (hf : w.1.2 = true) (hd : decode q.1 pc = .ok (.arraylength, 1)) (hp : pc + 1 = pc') (kk : Rt z q w g out pc' lv (.int 9 :: st) σ E) : Rt z q w g out pc lv (.ref (g.2.2.2.1 1) :: st) σ E := by
  subst hp
  intro x hE H locs ls hP hS hl
  exact va_tlen C.1 C.2.1 (C.2.2.2.2.2.2.2.2.2.2 hf).2.2.2.1 hS rfl hd (kk x hE H locs ls hP hS hl)
/-! the text of the kinds -/
theorem q_ldcS (C : Cx z q w g fr lo) (hf : w.1.2 = true) (ho : q.2.2.1 = "FlightLegs$RouteText") (hd : decode q.1 pc = .ok (.ldc 85, 2)) (hp : pc + 2 = pc') (kk : Rt z q w g out pc' lv (.ref (g.2.2.2.1 2) :: st) σ E) : Rt z q w g out pc lv st σ E := by
  subst hp
  intro x hE H locs ls hP hS hl
  exact va_ldcS C.1 C.2.1 (C.2.2.2.2.2.1) (by rw [ho]; exact (C.2.2.2.2.2.2.2.2.2.2 hf).2.2.2.2.1) hd (kk x hE H locs ls hP hS hl)
theorem q_svalue (C : Cx z q w g fr lo) (hf : w.1.2 = true) {i : Nat} (hw : Cond.fieldLink q.2.2.1 i "java/lang/String" "value" "[B" ∈ lw_g) (hd : decode q.1 pc = .ok (.getfield i, 3)) (hp : pc + 3 = pc') (kk : Rt z q w g out pc' lv (.ref (g.2.2.2.1 3) :: st) σ E) : Rt z q w g out pc lv (.ref (g.2.2.2.1 2) :: st) σ E := by
  subst hp
  intro x hE H locs ls hP hS hl
  exact vk_getf C.1 C.2.1 ((C.2.2.2.2.2.2.2.2.2.2 hf).2.2.2.2.2.1.1 0 (by decide)).2.2.1 hS C.2.2.2.2.2.1 (C.2.2.2.2.2.2.1 _ hw) (fun _ h => h) hd (kk x hE H locs ls hP hS hl)
theorem q_scoder (C : Cx z q w g fr lo) (hf : w.1.2 = true) {i : Nat} (hw : Cond.fieldLink q.2.2.1 i "java/lang/String" "coder" "B" ∈ lw_g) (hd : decode q.1 pc = .ok (.getfield i, 3)) (hp : pc + 3 = pc') (kk : Rt z q w g out pc' lv (.int 0 :: st) σ E) : Rt z q w g out pc lv (.ref (g.2.2.2.1 2) :: st) σ E := by
  subst hp
  intro x hE H locs ls hP hS hl
  exact vk_getf C.1 C.2.1 ((C.2.2.2.2.2.2.2.2.2.2 hf).2.2.2.2.2.1.1 0 (by decide)).2.1 hS C.2.2.2.2.2.1 (C.2.2.2.2.2.2.1 _ hw) (fun _ h => h) hd (kk x hE H locs ls hP hS hl)
theorem q_nbytes (C : Cx z q w g fr lo) (hf : w.1.2 = true) (hd : decode q.1 pc = .ok (.arraylength, 1)) (hp : pc + 1 = pc') (kk : Rt z q w g out pc' lv (.int 16 :: st) σ E) : Rt z q w g out pc lv (.ref (g.2.2.2.1 3) :: st) σ E := by
  subst hp
  intro x hE H locs ls hP hS hl
  exact va_tlen C.1 C.2.1 ((C.2.2.2.2.2.2.2.2.2.2 hf).2.2.2.2.2.1.1 0 (by decide)).2.2.2 hS rfl hd (kk x hE H locs ls hP hS hl)
theorem q_tbytes (C : Cx z q w g fr lo) (hf : w.1.2 = true) {i : Int32} {inst : Decidable (Ix i 16)} (hd : decode q.1 pc = .ok (.baload, 1)) (hp : pc + 1 = pc') (kk : Rt z q w g out pc' lv (.int (KNDS.getD i.toNatClampNeg 0) :: st) σ E) : Rt z q w g out pc lv (.int i :: .ref (g.2.2.2.1 3) :: st) σ (@Gd _ (Ix i 16) inst E) := by
  subst hp
  refine q_guard (fun hi => ?_)
  intro x hE H locs ls hP hS hl
  exact va_tb C.1 C.2.1 ((C.2.2.2.2.2.2.2.2.2.2 hf).2.2.2.2.2.1.1 0 (by decide)).2.2.2 hS hi rfl hd (kk x hE H locs ls hP hS hl)
theorem q_i2c (C : Cx z q w g fr lo) {a : Int32} (hd : decode q.1 pc = .ok (.i2c, 1)) (hp : pc + 1 = pc') (kk : Rt z q w g out pc' lv (.int (a.toUInt32 % 65536).toInt32 :: st) σ E) : Rt z q w g out pc lv (.int a :: st) σ E := by
  subst hp
  exact fun x hE H locs ls hP hS hl => lv_i2c C.1 C.2.1 hd rfl (kk x hE H locs ls hP hS hl)
theorem q_nret (C : Cx z q w g fr lo) {ty : FieldType} (hr : q.2.2.2 = some ty) {v : ρ} {a : Int32} (hn : narrow ty (.int a) = .int a) (hd : decode q.1 pc = .ok (.ireturn, 1)) (ho : out v = (some (.int a), σ)) : Rt z q w g out pc lv [.int a] σ (some v) := by
  intro x hE H locs ls hP hS hl
  cases hE
  exact W.zret (v := a) (ty := ty) C.1 C.2.1 (C.2.2.2.1.trans hr) hn (fun t ht hW => ⟨⟨by rw [ho], by rw [ho, ht]; exact hP⟩, hS.F ht⟩) hS.2.2 hd C.2.2.2.2.1
theorem q_aret (C : Cx z q w g fr lo) {S : String} (hr : q.2.2.2 = some (.object S)) {v : ρ} {a : Nat} (hd : decode q.1 pc = .ok (.areturn, 1)) (ho : out v = (some (.ref a), σ)) : Rt z q w g out pc lv [.ref a] σ (some v) := by
  intro x hE H locs ls hP hS hl
  cases hE
  exact W.aret (v := .ref a) (rt := .object S) C.1 C.2.1 (C.2.2.2.1.trans hr) (Or.inl ⟨S, rfl⟩) (Or.inr ⟨a, rfl⟩) (fun t ht hW => ⟨⟨by rw [ho], by rw [ho, ht]; exact hP⟩, hS.F ht⟩) hS.2.2 hd C.2.2.2.2.1
/-- no answer is claimed from here -/
theorem q_none : Rt z q w g out pc lv st σ (none : Option ρ) := fun x h => by cases h
variable {out' : ρ' → Option Value × St} {y : MethodName} {n i : Nat} {o : Option ρ'} {k : ρ' → Option ρ}
theorem q_callSN (C : Cx z q w g fr lo) (F : Mf y q' n true) (hw : va_Nw (.methodLinkNest q.2.2.1 i y "FlightLegs") z.1.2.2.2.2.1) (hd : decode q.1 pc = .ok (.invokestatic i, 3)) (av rest : List Value) (hst : st = av.reverse ++ rest) (hn : av.length = n) (hW : (rest.map fun v => v.category).sum ≤ 8) (hR : Nat.ble (fr' + 1) fr = true ∧ Nat.ble (8 + (q'.2.1 + 11) + lo') lo = true)
    (hM : ∀ x, o = some x → Ct z.1.2.1 w g y q' fr' lo' av σ (out' x)) (hp : pc + 3 = pc')
    (kk : ∀ x, o = some x → Rt z q w g out pc' lv ((out' x).1.toList ++ rest) (out' x).2 (k x)) : Rt z q w g out pc lv st σ (o.bind k) := by
  subst hp
  intro x hE H locs ls hP hS hl
  obtain ⟨u, hu, hk⟩ := Option.bind_eq_some_iff.mp hE
  have hts := C.2.2.2.2.2.2.1
  have hrm : z.1.2.2.2.1 = rmq fr lo := C.2.2.2.2.2.2.2.2.2.1
  refine q_run C (va_runSN (As := av) (rest := rest) (n := n) ⟨C.1, C.2.1, C.2.2.1, C.2.2.2.2.2.1, hts⟩ (hM u hu)
    ⟨va_cnB n hts (good_tbl F.1) rfl rfl rfl hw (hts _ F.2.1) F.2.2.1 (by rw [hrm]; exact ⟨Nat.le_of_ble_eq_true hR.1, Nat.le_of_ble_eq_true hR.2⟩), hts _ F.2.2.2.2, trivial⟩
    ⟨Pq_blind w g av σ, fun U hU hW' => ⟨rfl, by rw [hU]; exact hP, va_K.moved hW'.alike C.2.2.2.2.2.2.2.1, C.2.2.2.2.2.2.2.2.2.2.go hS.2.1 hU hW'⟩⟩ rfl hn hl.1 hst (lv_room hW) hd ⟨Nat.zero_le _, Nat.zero_le _⟩) hS (fun H1 locs1 hP1 hS1 => kk u hu x hk H1 locs1 ls hP1 hS1 hl)
theorem q_callVN (C : Cx z q w g fr lo) (F : Mf y q' n false) (hw : va_Nw (.methodLinkNest q.2.2.1 i y "FlightLegs") z.1.2.2.2.2.1) (hd : decode q.1 pc = .ok (.invokevirtual i, 3)) (j : Nat) (hj : j < w.2.1) {b : Nat × Nat} (hb : w.2.2.1 j = .inr b) {T : u_T} (hc : w.1.1[b.1]? = some (y.cls, T, b.2)) (av rest : List Value) (hst : st = av.reverse ++ .ref (g.1 j) :: rest) (hn : av.length = n) (hW : (rest.map fun v => v.category).sum ≤ 8) (hR : Nat.ble (fr' + 1) fr = true ∧ Nat.ble (8 + (q'.2.1 + 11) + lo') lo = true)
    (hM : ∀ x, o = some x → Ct z.1.2.1 w g y q' fr' lo' (.ref (g.1 j) :: av) σ (out' x)) (hp : pc + 3 = pc')
    (kk : ∀ x, o = some x → Rt z q w g out pc' lv ((out' x).1.toList ++ rest) (out' x).2 (k x)) : Rt z q w g out pc lv st σ (o.bind k) := by
  subst hp
  intro x hE H locs ls hP hS hl
  obtain ⟨u, hu, hk⟩ := Option.bind_eq_some_iff.mp hE
  have hts := C.2.2.2.2.2.2.1
  have hrm : z.1.2.2.2.1 = rmq fr lo := C.2.2.2.2.2.2.2.2.2.1
  refine q_run C (va_runVN (As := av) (rest := rest) (n := n) (C := y.cls) ⟨C.1, C.2.1, C.2.2.1, C.2.2.2.2.2.1, hts⟩ (hM u hu)
    ⟨va_cnB n hts (good_tbl F.1) rfl rfl rfl hw (hts _ F.2.1) F.2.2.1 (by rw [hrm]; exact ⟨Nat.le_of_ble_eq_true hR.1, Nat.le_of_ble_eq_true hR.2⟩), hts _ F.2.2.2.2.1, hts _ F.2.2.2.2.2⟩
    ⟨Pq_blind w g _ σ, va_recv (D := g.2.2.1) C.2.2.2.2.2.2.2.1 hP hc ((wl_get hj).trans (by rw [ent_obj hb])), fun U hU hW' => ⟨rfl, by rw [hU]; exact hP, va_K.moved hW'.alike C.2.2.2.2.2.2.2.1, C.2.2.2.2.2.2.2.2.2.2.go hS.2.1 hU hW'⟩⟩ rfl hn hl.1 hst (lv_room hW) hd ⟨Nat.zero_le _, Nat.zero_le _⟩) hS (fun H1 locs1 hP1 hS1 => kk u hu x hk H1 locs1 ls hP1 hS1 hl)
/-- a call on the text of the kinds -/
theorem q_callVS (C : Cx z q w g fr lo) (hf : w.1.2 = true) (F : Mf y q' n false) (hy : y.cls = "java/lang/String") (hw : Cond.methodLink q.2.2.1 i y ∈ lw_g) (hd : decode q.1 pc = .ok (.invokevirtual i, 3)) (av rest : List Value) (hst : st = av.reverse ++ .ref (g.2.2.2.1 2) :: rest) (hn : av.length = n) (hW : (rest.map fun v => v.category).sum ≤ 8) (hR : Nat.ble (fr' + 1) fr = true ∧ Nat.ble (8 + (q'.2.1 + 11) + lo') lo = true)
    (hM : ∀ x, o = some x → Ct z.1.2.1 w g y q' fr' lo' (.ref (g.2.2.2.1 2) :: av) σ (out' x)) (hp : pc + 3 = pc')
    (kk : ∀ x, o = some x → Rt z q w g out pc' lv ((out' x).1.toList ++ rest) (out' x).2 (k x)) : Rt z q w g out pc lv st σ (o.bind k) := by
  subst hp
  intro x hE H locs ls hP hS hl
  obtain ⟨u, hu, hk⟩ := Option.bind_eq_some_iff.mp hE
  have hts := C.2.2.2.2.2.2.1
  have hrm : z.1.2.2.2.1 = rmq fr lo := C.2.2.2.2.2.2.2.2.2.1
  refine q_run C (va_runV (As := av) (rest := rest) (n := n) (C := y.cls) ⟨C.1, C.2.1, C.2.2.1, C.2.2.2.2.2.1, hts⟩ (hM u hu)
    ⟨callB_of n hts (good_tbl F.1) rfl rfl rfl (hts _ F.2.1) (hts _ hw) F.2.2.1 (by rw [hrm]; exact ⟨Nat.le_of_ble_eq_true hR.1, Nat.le_of_ble_eq_true hR.2⟩), hts _ F.2.2.2.2.1, hts _ F.2.2.2.2.2⟩
    ⟨Pq_blind w g _ σ, by rw [hy]; exact vk_recv (C.2.2.2.2.2.2.2.2.2.2 hf).2.2.2.2.2.1 (i := 0) (by decide) hS, fun U hU hW' => ⟨rfl, by rw [hU]; exact hP, va_K.moved hW'.alike C.2.2.2.2.2.2.2.1, C.2.2.2.2.2.2.2.2.2.2.go hS.2.1 hU hW'⟩⟩ rfl hn hl.1 hst (lv_room hW) hd ⟨Nat.zero_le _, Nat.zero_le _⟩) hS (fun H1 locs1 hP1 hS1 => kk u hu x hk H1 locs1 ls hP1 hS1 hl)
end ROWS2
