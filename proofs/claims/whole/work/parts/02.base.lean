def lw_g : List Cond := lw_tbl.filter goodWord
/-- a word of the tables by its place -/
theorem mg {x : Cond} (i : Nat) (h : lw_tbl[i]? = some x) (hg : goodWord x = true) : x ∈ lw_g := List.mem_filter.mpr ⟨List.mem_of_getElem? h, hg⟩
theorem mg0 {x : Cond} (i : Nat) (h : (k2_sels lw_privs)[i]? = some x) (hg : goodWord x = true) : x ∈ lw_g := List.mem_filter.mpr ⟨List.mem_append_left _ (List.mem_of_getElem? h), hg⟩
theorem mg1 {x : Cond} (i : Nat) (h : tables_1_1[i]? = some x) (hg : goodWord x = true) : x ∈ lw_g := List.mem_filter.mpr ⟨List.mem_append_right _ (List.mem_append_left _ (List.mem_of_getElem? h)), hg⟩
theorem mg2 {x : Cond} (i : Nat) (h : tables_1_2[i]? = some x) (hg : goodWord x = true) : x ∈ lw_g := List.mem_filter.mpr ⟨List.mem_append_right _ (List.mem_append_right _ (List.mem_append_left _ (List.mem_of_getElem? h))), hg⟩
theorem mg3 {x : Cond} (i : Nat) (h : tables_1_3[i]? = some x) (hg : goodWord x = true) : x ∈ lw_g := List.mem_filter.mpr ⟨List.mem_append_right _ (List.mem_append_right _ (List.mem_append_right _ (List.mem_append_left _ (List.mem_of_getElem? h)))), hg⟩
theorem mg4 {x : Cond} (i : Nat) (h : tables_1_4[i]? = some x) (hg : goodWord x = true) : x ∈ lw_g := List.mem_filter.mpr ⟨List.mem_append_right _ (List.mem_append_right _ (List.mem_append_right _ (List.mem_append_right _ (List.mem_append_left _ (List.mem_of_getElem? h))))), hg⟩
theorem mg5 {x : Cond} (i : Nat) (h : tables_1_5[i]? = some x) (hg : goodWord x = true) : x ∈ lw_g := List.mem_filter.mpr ⟨List.mem_append_right _ (List.mem_append_right _ (List.mem_append_right _ (List.mem_append_right _ (List.mem_append_right _ (List.mem_append_left _ (List.mem_of_getElem? h)))))), hg⟩
theorem mg6 {x : Cond} (i : Nat) (h : tables_1_6[i]? = some x) (hg : goodWord x = true) : x ∈ lw_g := List.mem_filter.mpr ⟨List.mem_append_right _ (List.mem_append_right _ (List.mem_append_right _ (List.mem_append_right _ (List.mem_append_right _ (List.mem_append_right _ (List.mem_append_left _ (List.mem_of_getElem? h))))))), hg⟩
theorem mg7 {x : Cond} (i : Nat) (h : tables_1_7[i]? = some x) (hg : goodWord x = true) : x ∈ lw_g := List.mem_filter.mpr ⟨List.mem_append_right _ (List.mem_append_right _ (List.mem_append_right _ (List.mem_append_right _ (List.mem_append_right _ (List.mem_append_right _ (List.mem_append_right _ (List.mem_append_left _ (List.mem_of_getElem? h)))))))), hg⟩
theorem mg8 {x : Cond} (i : Nat) (h : tables_1_8[i]? = some x) (hg : goodWord x = true) : x ∈ lw_g := List.mem_filter.mpr ⟨List.mem_append_right _ (List.mem_append_right _ (List.mem_append_right _ (List.mem_append_right _ (List.mem_append_right _ (List.mem_append_right _ (List.mem_append_right _ (List.mem_append_right _ (List.mem_append_left _ (List.mem_of_getElem? h))))))))), hg⟩
theorem mg9 {x : Cond} (i : Nat) (h : tables_1_9[i]? = some x) (hg : goodWord x = true) : x ∈ lw_g := List.mem_filter.mpr ⟨List.mem_append_right _ (List.mem_append_right _ (List.mem_append_right _ (List.mem_append_right _ (List.mem_append_right _ (List.mem_append_right _ (List.mem_append_right _ (List.mem_append_right _ (List.mem_append_right _ (List.mem_of_getElem? h))))))))), hg⟩
theorem mgs {ws : List Cond} (ps : List Nat) (h : (decide (ws = ps.filterMap (fun i => lw_tbl[i]?)) && ws.all goodWord) = true) : ∀ x ∈ ws, x ∈ lw_tbl ∧ goodWord x = true := by
  intro x hx
  simp only [Bool.and_eq_true, decide_eq_true_eq] at h
  refine ⟨?_, List.all_eq_true.mp h.2 x hx⟩
  rw [h.1] at hx
  obtain ⟨i, -, hi⟩ := List.mem_filterMap.mp hx
  exact List.mem_of_getElem? hi
/-! The pure state of a fixed set of cells, the world that a layout makes of it, and the judgement Rt: from here the method answers as the pure expression E says. -/
abbrev St : Type := Nat → Nat → Int32
def s2 (σ : St) (o k : Nat) (v : Int32) : St := fun a b => if a = o then (if b = k then v else σ a b) else σ a b
/-- how many cells; each one's kind: an array (of booleans?, length) or an object (number of its kind, fields); which fields are references, and to which cell -/
abbrev Lay : Type := Nat × (Nat → (Bool × Nat) ⊕ (Nat × Nat)) × (Nat → Nat → Option Nat)
/-- the addresses of the cells; the kinds of int and boolean arrays; the numbers and slots of the objects' kinds -/
abbrev Ge : Type := (Nat → Nat) × (ClassId × ClassId) × va_G × (Nat → Nat) × Option Nat
def fv (Y : Lay) (g : Ge) (σ : St) (j k : Nat) : Value := match Y.2.2 j k with
  | some r => .ref (g.1 r)
  | none => .int (σ j k)
def ent (Y : Lay) (g : Ge) (σ : St) (j : Nat) : va_E := match Y.2.1 j with
  | .inl b => .inl (bif b.1 then g.2.1.2 else g.2.1.1, b.2, .inl (σ j))
  | .inr b => .inr (b.1, (List.range b.2).map (fv Y g σ j))
def wl (Y : Lay) (g : Ge) (σ : St) : va_W := (List.range Y.1).map (fun j => (g.1 j, ent Y g σ j))
def tys0 (g : Ge) : List (ClassId × FieldType) := [(g.2.1.1, .int), (g.2.1.2, .boolean)]
def inB (Y : Lay) (g : Ge) : Nat → Prop := fun q => ∃ j, j < Y.1 ∧ q = g.1 j
def injB (Y : Lay) (g : Ge) : Prop := ∀ i j, i < Y.1 → j < Y.1 → g.1 i = g.1 j → i = j
theorem wl_get {Y : Lay} {g : Ge} {σ : St} {j : Nat} (h : j < Y.1) : (wl Y g σ)[j]? = some (g.1 j, ent Y g σ j) := by
  simp [wl, h]
theorem wl_lt {Y : Lay} {g : Ge} {σ : St} {j : Nat} {q : Nat × va_E} (h : (wl Y g σ)[j]? = some q) : j < Y.1 := by
  have h1 := (List.getElem?_eq_some_iff.mp h).1
  simpa [wl] using h1
theorem wl_D {Y : Lay} {g : Ge} (hi : injB Y g) (σ : St) : va_D (inB Y g) (wl Y g σ) := by
  refine ⟨fun i j a b h1 h2 e => ?_, fun k q h => ?_⟩
  · have l1 := wl_lt h1
    have l2 := wl_lt h2
    rw [wl_get l1] at h1
    rw [wl_get l2] at h2
    cases h1
    cases h2
    exact hi i j l1 l2 e
  · have l1 := wl_lt h
    rw [wl_get l1] at h
    cases h
    exact ⟨k, l1, rfl⟩
theorem wl_set {Y : Lay} {g : Ge} {σ σ' : St} {j : Nat} (hj : j < Y.1) {e : va_E} (he : ent Y g σ' j = e) (ho : ∀ i, i ≠ j → ent Y g σ' i = ent Y g σ i) : (wl Y g σ).set j (g.1 j, e) = wl Y g σ' := by
  apply List.ext_getElem?
  intro i
  by_cases hij : i = j
  · subst hij
    rw [List.getElem?_set_self (by simpa [wl] using hj), wl_get hj, he]
  · rw [List.getElem?_set_ne (Ne.symm hij)]
    by_cases hi : i < Y.1
    · rw [wl_get hi, wl_get hi, ho i hij]
    · rw [List.getElem?_eq_none (by simpa [wl] using hi), List.getElem?_eq_none (by simpa [wl] using hi)]
theorem s2_ne {σ : St} {o k : Nat} {v : Int32} {i : Nat} (h : i ≠ o) : s2 σ o k v i = σ i := by
  funext b
  simp [s2, h]
theorem s2_eq {σ : St} {o k : Nat} {v : Int32} : s2 σ o k v o = upd (σ o) k v := by
  funext b
  simp [s2, upd]
theorem ent_ne {Y : Lay} {g : Ge} {σ : St} {o k : Nat} {v : Int32} {i : Nat} (h : i ≠ o) : ent Y g (s2 σ o k v) i = ent Y g σ i := by
  have e := s2_ne (σ := σ) (k := k) (v := v) h
  unfold ent
  split
  · rw [e]
  · have e2 : fv Y g (s2 σ o k v) i = fv Y g σ i := by
      funext b
      unfold fv
      rw [e]
    rw [e2]
theorem ent_arr {Y : Lay} {g : Ge} {σ : St} {j : Nat} {b : Bool × Nat} (h : Y.2.1 j = .inl b) : ent Y g σ j = .inl (bif b.1 then g.2.1.2 else g.2.1.1, b.2, .inl (σ j)) := by
  unfold ent
  rw [h]
theorem ent_obj {Y : Lay} {g : Ge} {σ : St} {j : Nat} {b : Nat × Nat} (h : Y.2.1 j = .inr b) : ent Y g σ j = .inr (b.1, (List.range b.2).map (fv Y g σ j)) := by
  unfold ent
  rw [h]
theorem ent_put {Y : Lay} {g : Ge} {σ : St} {j k : Nat} {v : Int32} {b : Nat × Nat} (h : Y.2.1 j = .inr b) (hk : Y.2.2 j k = none) : ent Y g (s2 σ j k v) j = .inr (b.1, ((List.range b.2).map (fv Y g σ j)).set k (.int v)) := by
  rw [ent_obj h]
  congr 2
  apply List.ext_getElem?
  intro i
  by_cases hi : i < b.2
  · by_cases hik : i = k
    · subst hik
      rw [List.getElem?_set_self (by simpa using hi)]
      simp [hi, fv, hk, s2]
    · rw [List.getElem?_set_ne (Ne.symm hik)]
      simp [hi, fv, s2, hik]
  · rw [List.getElem?_eq_none (by simpa using hi), List.getElem?_eq_none (by simpa using hi)]
/-! the machine at a frame of a method: program, launch, environment, room, state, method; arguments, frames below, method, code -/
abbrev Zx : Type := (Program × Launch × Env × Room × State × MethodId) × (Array Value × List Frame × Method × Code)
/-- a method: its bytes, how many locals, its class's name, what it returns -/
abbrev Mq : Type := ByteArray × Nat × String × Option FieldType
/-- the kinds of objects, whether the facts on the statics are wanted, the layout -/
abbrev Wq : Type := (List vw_C × Bool) × Lay
/-- what a method's end says: the answer, the cells, nothing else touched -/
def SINS : List Int32 := [0, 259, 500, 707, 866, 966, 1000, 966, 866, 707, 500, 259, 0, -259, -500, -707, -866, -966, -1000, -966, -866, -707, -500, -259]
def LEDS : List Int32 := [0, 132, 268, 414, 577, 767, 1000, 1303, 1732]
def KNDS : List Int32 := [73, 70, 84, 70, 68, 70, 67, 70, 67, 65, 67, 73, 86, 77, 72, 70]
/-- what the statics hold, which nobody writes: two tables, a text, the text's flags; two links between nest mates -/
def SFc (X : Nat → Nat) (F : Option Nat) (A : Nat → Prop) (U : State) (H : Heap) : Prop :=
  va_Z "FlightLegs$Compass" "SINES" "[I" (.ref (X 0)) A U H ∧ va_T .int (X 0) 24 (fun j => .int (SINS.getD j 0)) A U H ∧
  va_Z "FlightLegs$Track" "LEADS" "[I" (.ref (X 1)) A U H ∧ va_T .int (X 1) 9 (fun j => .int (LEDS.getD j 0)) A U H ∧
  vk_R "FlightLegs$RouteText" 85 "IFTFDFCFCACIVMHF" (X 2) U ∧ vk_S 1 [16] [KNDS] (fun _ => X 2) (fun _ => X 3) A U H ∧
  va_Z "java/lang/String" "COMPACT_STRINGS" "Z" (.int 1) A U H ∧ va_Z "jdk/internal/util/Preconditions" "SIOOBE_FORMATTER" "Ljava/util/function/BiFunction;" (va_rf F) A U H ∧
  va_Nw (.methodLinkNest "FlightLegs$Path" 69 ⟨"FlightLegs$Track", "turnInto", "(I)V"⟩ "FlightLegs") U ∧ va_Nw (.methodLinkNest "FlightLegs$RouteText" 114 ⟨"FlightLegs", "within", "(III)Z"⟩ "FlightLegs") U
theorem SFc.kept {X : Nat → Nat} {F : Option Nat} {A : Nat → Prop} {U : State} {H H1 : Heap} (h : SFc X F A U H) (hq : ∀ a : Nat, a < H.size → ¬ A a → H1[a]? = H[a]?) : SFc X F A U H1 :=
  ⟨h.1.kept hq, h.2.1.kept hq, h.2.2.1.kept hq, h.2.2.2.1.kept hq, h.2.2.2.2.1, h.2.2.2.2.2.1.kept hq, h.2.2.2.2.2.2.1.kept hq, h.2.2.2.2.2.2.2.1.kept hq, h.2.2.2.2.2.2.2.2⟩
theorem SFc.warm {X : Nat → Nat} {F : Option Nat} {A : Nat → Prop} {s U : State} {H : Heap} (hW : s.WarmedH U.vm) (h : SFc X F A s H) : SFc X F A U H :=
  ⟨h.1.moved hW.alike, h.2.1.moved hW.alike, h.2.2.1.moved hW.alike, h.2.2.2.1.moved hW.alike, h.2.2.2.2.1.warm hW, h.2.2.2.2.2.1.moved hW.alike, h.2.2.2.2.2.2.1.moved hW.alike, h.2.2.2.2.2.2.2.1.moved hW.alike, h.2.2.2.2.2.2.2.2.1.warmM hW, h.2.2.2.2.2.2.2.2.2.warmM hW⟩
theorem SFc.same {X : Nat → Nat} {F : Option Nat} {A : Nat → Prop} {u U : State} {H : Heap} (hv : U.vm = u.vm) (h : SFc X F A u H) : SFc X F A U H := by
  have ha : u.vm.Alike U.vm := by rw [hv]; exact Vm.Alike.refl u.vm
  exact ⟨h.1.moved ha, h.2.1.moved ha, h.2.2.1.moved ha, h.2.2.2.1.moved ha, h.2.2.2.2.1.same hv, h.2.2.2.2.2.1.moved ha, h.2.2.2.2.2.2.1.moved ha, h.2.2.2.2.2.2.2.1.moved ha, h.2.2.2.2.2.2.2.2.1.same rfl hv.symm, h.2.2.2.2.2.2.2.2.2.same rfl hv.symm⟩
def SF (w : Wq) (g : Ge) (U : State) (H : Heap) : Prop := w.1.2 = true → SFc g.2.2.2.1 g.2.2.2.2 (inB w.2 g) U H
theorem SF.go {w : Wq} {g : Ge} {s U : State} {H : Heap} (h : SF w g s s.heap) (hq : ∀ a : Nat, a < s.heap.size → ¬ inB w.2 g a → H[a]? = s.heap[a]?) (hU : U.heap = H) (hW : s.WarmedH U.vm) : SF w g U U.heap := fun hf => by
  rw [hU]
  exact ((h hf).kept hq).warm hW
def Qq (w : Wq) (g : Ge) (o : Option Value × St) : Array Value → State → Outcome → State → Prop := fun _ st oc t => (oc = .returned o.1 ∧ va_P g.2.2.1 w.1.1 (wl w.2 g o.2) t.heap) ∧ va_F (inB w.2 g) st t
def Pq (w : Wq) (g : Ge) (av : List Value) (σ : St) : Array Value → State → Prop := fun a U => a = av.toArray ∧ va_P g.2.2.1 w.1.1 (wl w.2 g σ) U.heap ∧ va_K g.2.2.1 w.1.1 (tys0 g) U ∧ SF w g U U.heap
def rmq (fr lo : Nat) : Room := { frames := fr, cells := 0, slots := 0, locals := lo }
def wsq (y : MethodName) (bytes : ByteArray) (maxL : Nat) (ret : Option FieldType) : List Cond := Cond.code y bytes maxL ret :: lw_g
/-- a method's contract at given arguments and cells -/
def Ct (l : Launch) (w : Wq) (g : Ge) (y : MethodName) (q : Mq) (fr lo : Nat) (av : List Value) (σ : St) (o : Option Value × St) : Prop :=
  Met l y (wsq y q.1 q.2.1 q.2.2.2) (rmq fr lo) (Pq w g av σ) (Qq w g o) 0 0 (inB w.2 g)
def Cx (z : Zx) (q : Mq) (w : Wq) (g : Ge) (fr lo : Nat) : Prop :=
  z.1.1.tables.exec = Jvm.exec ∧ z.2.2.2.2.code = q.1 ∧ z.2.2.2.2.maxLocals = q.2.1 ∧ z.2.2.2.1.sig.returnType = q.2.2.2 ∧ z.2.2.2.1.locks = false ∧ z.1.2.2.2.2.1.vm.findClass q.2.2.1 = some z.1.2.2.2.2.2.cls ∧ (∀ x ∈ lw_g, x.before z.2.1 z.1.2.2.2.2.1 = true) ∧ va_K g.2.2.1 w.1.1 (tys0 g) z.1.2.2.2.2.1 ∧ injB w.2 g ∧ z.1.2.2.2.1 = rmq fr lo ∧ SF w g z.1.2.2.2.2.1 z.1.2.2.2.2.1.heap
def Rt {ρ : Type} (z : Zx) (q : Mq) (w : Wq) (g : Ge) (out : ρ → Option Value × St) (pc : Nat) (lv : List (Nat × Value)) (st : List Value) (σ : St) (E : Option ρ) : Prop :=
  ∀ x : ρ, E = some x → ∀ (H : Heap) (locs : List Loc) (ls : Array Slot), va_P g.2.2.1 w.1.1 (wl w.2 g σ) H → va_S (inB w.2 g) z.1.2.2.2.2.1.heap H locs → lv_has ls q.2.1 lv →
    W z.1.1 z.1.2.1 z.1.2.2.1 z.1.2.2.2.1 z.1.2.2.2.2.1 z.1.2.2.2.2.2 z.2.1 z.2.2.1 z.2.2.2.1 z.2.2.2.2 H locs 0 0 (MQ z.2.2.1 (Qq w g (out x)) z.2.1 z.1.2.2.2.2.1 0 0 (inB w.2 g)) (F0 z.1.2.2.2.2.2 pc ls st)
def Lt {α β : Type} (e : α) (k : α → β) : β := k e
def Jn {α β : Type} (k : α) (b : α → β) : β := b k
/-- a loop: with fuel; without any left it has no answer -/
def lp {α ρ : Type} (b : (α → Option ρ) → α → Option ρ) : Nat → α → Option ρ
  | 0, _ => none
  | n + 1, a => b (lp b n) a
abbrev Ix (i : Int32) (n : Nat) : Prop := ¬ (i < 0 ∨ n ≤ i.toNatClampNeg)
def Gd {ρ : Type} (c : Prop) [inst : Decidable c] (t : Option ρ) : Option ρ := if c then t else none
theorem b01 {v : Int32} (h : v &&& 1 = v) : v = 0 ∨ v = 1 := by
  have h1 : (v &&& 1).toBitVec.toNat = v.toBitVec.toNat := by rw [h]
  rw [Int32.toBitVec_and, BitVec.toNat_and] at h1
  have h3 : (1 : Int32).toBitVec.toNat = 1 := by decide
  rw [h3, Nat.and_one_is_mod] at h1
  have h4 : v.toBitVec.toNat = 0 ∨ v.toBitVec.toNat = 1 := by omega
  rcases h4 with h5 | h5
  · exact Or.inl (Int32.toBitVec_inj.mp (BitVec.eq_of_toNat_eq (h5.trans (by decide))))
  · exact Or.inr (Int32.toBitVec_inj.mp (BitVec.eq_of_toNat_eq (h5.trans (by decide))))
theorem fitsb {v : Int32} (h : v &&& 1 = v) : fits .boolean (.int v) = true := by
  rcases b01 h with h | h <;> subst h <;> decide
