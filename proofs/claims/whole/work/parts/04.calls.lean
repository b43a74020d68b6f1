/-! calls, and a contract out of a walk -/
theorem Pq_blind (w : Wq) (g : Ge) (av : List Value) (σ : St) : FrameBlind (Pq w g av σ) := fun a U _ mk h => ⟨h.1, h.2.1, va_K.moved (u := U) (U := U.calling _ mk a) (Vm.Alike.refl U.vm) h.2.2.1, fun hf => (h.2.2.2 hf).same (u := U) (U := U.calling _ mk a) rfl⟩
theorem good_tbl {y : MethodName} {q : Mq} (hcode : Cond.code y q.1 q.2.1 q.2.2.2 ∈ lw_g) : GoodIn lw_g (wsq y q.1 q.2.1 q.2.2.2) := by
  intro x hx
  have hm : x ∈ lw_g := by
    rcases List.mem_cons.mp hx with h | h
    · rw [h]; exact hcode
    · exact h
  exact ⟨hm, good_of_word (List.mem_filter.mp hm).2⟩
/-- what the tables say of a method: static (b = true) or an object's -/
def Mf (y : MethodName) (q : Mq) (n : Nat) (b : Bool) : Prop := Cond.code y q.1 q.2.1 q.2.2.2 ∈ lw_g ∧ Cond.initialized y.cls ∈ lw_g ∧ (y.cls ≠ "java/lang/invoke/MethodHandle" ∧ y.cls ≠ "java/lang/invoke/VarHandle" ∧ (parseMethodDescriptor y.desc).map (fun d => d.parameters.length) = some n) ∧ plainName y.cls = true ∧ (bif b then Cond.static y ∈ lw_g else Cond.instanceMethod y ∈ lw_g ∧ Cond.selects y.cls y y ∈ lw_g)
section CALLS
variable {ρ ρ' : Type} {z : Zx} {q q' : Mq} {w : Wq} {g : Ge} {out : ρ → Option Value × St} {out' : ρ' → Option Value × St} {pc pc' : Nat} {lv : List (Nat × Value)} {st : List Value} {σ : St} {fr lo fr' lo' : Nat} {y : MethodName} {n i : Nat} {o : Option ρ'} {k : ρ' → Option ρ}
theorem q_run (C : Cx z q w g fr lo) {H : Heap} {locs : List Loc} {ls : Array Slot} {rest : List Value} {o1 : Option Value × St} {x : ρ} {av : Array Value}
    (hr : va_Run z.1.1 z.1.2.1 z.1.2.2.1 z.1.2.2.2.1 z.1.2.2.2.2.1 z.1.2.2.2.2.2 z.2.1 z.2.2.1 z.2.2.2.1 z.2.2.2.2 H locs 0 0 0 0 (F0 z.1.2.2.2.2.2 pc ls st) rest (Qq w g o1 av) (inB w.2 g))
    (hS : va_S (inB w.2 g) z.1.2.2.2.2.1.heap H locs)
    (kk : ∀ (H : Heap) (locs : List Loc), va_P g.2.2.1 w.1.1 (wl w.2 g o1.2) H → va_S (inB w.2 g) z.1.2.2.2.2.1.heap H locs → W z.1.1 z.1.2.1 z.1.2.2.1 z.1.2.2.2.1 z.1.2.2.2.2.1 z.1.2.2.2.2.2 z.2.1 z.2.2.1 z.2.2.2.1 z.2.2.2.2 H locs 0 0 (MQ z.2.2.1 (Qq w g (out x)) z.2.1 z.1.2.2.2.2.1 0 0 (inB w.2 g)) (F0 z.1.2.2.2.2.2 (pc + 3) ls (o1.1.toList ++ rest))) :
    W z.1.1 z.1.2.1 z.1.2.2.1 z.1.2.2.2.1 z.1.2.2.2.2.1 z.1.2.2.2.2.2 z.2.1 z.2.2.1 z.2.2.2.1 z.2.2.2.2 H locs 0 0 (MQ z.2.2.1 (Qq w g (out x)) z.2.1 z.1.2.2.2.2.1 0 0 (inB w.2 g)) (F0 z.1.2.2.2.2.2 pc ls st) := by
  intro T hT X
  obtain ⟨v, st₀, t, T', L, h0, X', hL, e1, e2, ⟨⟨hv, hP1⟩, hz, hk⟩, stp⟩ := hr T hT X
  have hv : v = o1.1 := by injection hv
  subst hv
  rw [h0] at hz hk
  obtain ⟨t2, a1, b1⟩ := kk T'.heap (locs ++ L) (by rw [e1]; exact hP1)
    ⟨Nat.le_trans hS.1 (by rw [e1]; exact hz), fun u h1 h2 => by rw [e1, hk u (Nat.lt_of_lt_of_le h1 hS.1) h2]; exact hS.2.1 u h1 h2, fun u hu => by
      rcases List.mem_append.mp hu with h | h
      · exact hS.2.2 u h
      · exact hL u h⟩ T' rfl X'
  exact ⟨t2, stp t2 a1, b1⟩
theorem q_callS (C : Cx z q w g fr lo) (F : Mf y q' n true) (hw : Cond.methodLink q.2.2.1 i y ∈ lw_g) (hd : decode q.1 pc = .ok (.invokestatic i, 3)) (av rest : List Value) (hst : st = av.reverse ++ rest) (hn : av.length = n) (hW : (rest.map fun v => v.category).sum ≤ 8) (hR : Nat.ble (fr' + 1) fr = true ∧ Nat.ble (8 + (q'.2.1 + 11) + lo') lo = true)
    (hM : ∀ x, o = some x → Ct z.1.2.1 w g y q' fr' lo' av σ (out' x)) (hp : pc + 3 = pc')
    (kk : ∀ x, o = some x → Rt z q w g out pc' lv ((out' x).1.toList ++ rest) (out' x).2 (k x)) : Rt z q w g out pc lv st σ (o.bind k) := by
  subst hp
  intro x hE H locs ls hP hS hl
  obtain ⟨u, hu, hk⟩ := Option.bind_eq_some_iff.mp hE
  have hts := C.2.2.2.2.2.2.1
  have hrm : z.1.2.2.2.1 = rmq fr lo := C.2.2.2.2.2.2.2.2.2.1
  refine q_run C (va_runS (As := av) (rest := rest) (n := n) ⟨C.1, C.2.1, C.2.2.1, C.2.2.2.2.2.1, hts⟩ (hM u hu)
    ⟨callB_of n hts (good_tbl F.1) rfl rfl rfl (hts _ F.2.1) (hts _ hw) F.2.2.1 (by rw [hrm]; exact ⟨Nat.le_of_ble_eq_true hR.1, Nat.le_of_ble_eq_true hR.2⟩), hts _ F.2.2.2.2⟩
    ⟨Pq_blind w g av σ, fun U hU hW' => ⟨rfl, by rw [hU]; exact hP, va_K.moved hW'.alike C.2.2.2.2.2.2.2.1, C.2.2.2.2.2.2.2.2.2.2.go hS.2.1 hU hW'⟩⟩ rfl hn hl.1 hst (lv_room hW) hd ⟨Nat.zero_le _, Nat.zero_le _⟩) hS (fun H1 locs1 hP1 hS1 => kk u hu x hk H1 locs1 ls hP1 hS1 hl)
theorem q_callV (C : Cx z q w g fr lo) (F : Mf y q' n false) (hw : Cond.methodLink q.2.2.1 i y ∈ lw_g) (hd : decode q.1 pc = .ok (.invokevirtual i, 3)) (j : Nat) (hj : j < w.2.1) {b : Nat × Nat} (hb : w.2.2.1 j = .inr b) {T : u_T} (hc : w.1.1[b.1]? = some (y.cls, T, b.2)) (av rest : List Value) (hst : st = av.reverse ++ .ref (g.1 j) :: rest) (hn : av.length = n) (hW : (rest.map fun v => v.category).sum ≤ 8) (hR : Nat.ble (fr' + 1) fr = true ∧ Nat.ble (8 + (q'.2.1 + 11) + lo') lo = true)
    (hM : ∀ x, o = some x → Ct z.1.2.1 w g y q' fr' lo' (.ref (g.1 j) :: av) σ (out' x)) (hp : pc + 3 = pc')
    (kk : ∀ x, o = some x → Rt z q w g out pc' lv ((out' x).1.toList ++ rest) (out' x).2 (k x)) : Rt z q w g out pc lv st σ (o.bind k) := by
  subst hp
  intro x hE H locs ls hP hS hl
  obtain ⟨u, hu, hk⟩ := Option.bind_eq_some_iff.mp hE
  have hts := C.2.2.2.2.2.2.1
  have hrm : z.1.2.2.2.1 = rmq fr lo := C.2.2.2.2.2.2.2.2.2.1
  refine q_run C (va_runV (As := av) (rest := rest) (n := n) (C := y.cls) ⟨C.1, C.2.1, C.2.2.1, C.2.2.2.2.2.1, hts⟩ (hM u hu)
    ⟨callB_of n hts (good_tbl F.1) rfl rfl rfl (hts _ F.2.1) (hts _ hw) F.2.2.1 (by rw [hrm]; exact ⟨Nat.le_of_ble_eq_true hR.1, Nat.le_of_ble_eq_true hR.2⟩), hts _ F.2.2.2.2.1, hts _ F.2.2.2.2.2⟩
    ⟨Pq_blind w g _ σ, va_recv (D := g.2.2.1) C.2.2.2.2.2.2.2.1 hP hc ((wl_get hj).trans (by rw [ent_obj hb])), fun U hU hW' => ⟨rfl, by rw [hU]; exact hP, va_K.moved hW'.alike C.2.2.2.2.2.2.2.1, C.2.2.2.2.2.2.2.2.2.2.go hS.2.1 hU hW'⟩⟩ rfl hn hl.1 hst (lv_room hW) hd ⟨Nat.zero_le _, Nat.zero_le _⟩) hS (fun H1 locs1 hP1 hS1 => kk u hu x hk H1 locs1 ls hP1 hS1 hl)
theorem q_callSr (C : Cx z q w g fr lo) (F : Mf y q' n true) (hw : Cond.methodLink q.2.2.1 i y ∈ lw_g) (hd : decode q.1 pc = .ok (.invokestatic i, 3)) (av rest : List Value) (hst : st = av.reverse ++ rest) (hn : av.length = n) (hW : (rest.map fun v => v.category).sum ≤ 8) (hR : Nat.ble (fr' + 1) fr = true ∧ Nat.ble (8 + (q'.2.1 + 11) + lo') lo = true) {o : Option (Int32)} {k : Int32 → Option ρ}
    (hM : ∀ x : Int32, o = some x → Ct z.1.2.1 w g y q' fr' lo' av σ (some (.int x), σ)) (hp : pc + 3 = pc')
    (kk : ∀ x : Int32, o = some x → Rt z q w g out pc' lv (.int x :: rest) (σ) (k x)) : Rt z q w g out pc lv st σ (o.bind k) :=
  q_callS (out' := fun x : Int32 => (some (.int x), σ)) C F hw hd av rest hst hn hW hR hM hp kk
theorem q_callSw (C : Cx z q w g fr lo) (F : Mf y q' n true) (hw : Cond.methodLink q.2.2.1 i y ∈ lw_g) (hd : decode q.1 pc = .ok (.invokestatic i, 3)) (av rest : List Value) (hst : st = av.reverse ++ rest) (hn : av.length = n) (hW : (rest.map fun v => v.category).sum ≤ 8) (hR : Nat.ble (fr' + 1) fr = true ∧ Nat.ble (8 + (q'.2.1 + 11) + lo') lo = true) {o : Option (Int32 × St)} {k : Int32 × St → Option ρ}
    (hM : ∀ x : Int32 × St, o = some x → Ct z.1.2.1 w g y q' fr' lo' av σ (some (.int x.1), x.2)) (hp : pc + 3 = pc')
    (kk : ∀ x : Int32 × St, o = some x → Rt z q w g out pc' lv (.int x.1 :: rest) (x.2) (k x)) : Rt z q w g out pc lv st σ (o.bind k) :=
  q_callS (out' := fun x : Int32 × St => (some (.int x.1), x.2)) C F hw hd av rest hst hn hW hR hM hp kk
theorem q_callSv (C : Cx z q w g fr lo) (F : Mf y q' n true) (hw : Cond.methodLink q.2.2.1 i y ∈ lw_g) (hd : decode q.1 pc = .ok (.invokestatic i, 3)) (av rest : List Value) (hst : st = av.reverse ++ rest) (hn : av.length = n) (hW : (rest.map fun v => v.category).sum ≤ 8) (hR : Nat.ble (fr' + 1) fr = true ∧ Nat.ble (8 + (q'.2.1 + 11) + lo') lo = true) {o : Option (St)} {k : St → Option ρ}
    (hM : ∀ x : St, o = some x → Ct z.1.2.1 w g y q' fr' lo' av σ (none, x)) (hp : pc + 3 = pc')
    (kk : ∀ x : St, o = some x → Rt z q w g out pc' lv (rest) (x) (k x)) : Rt z q w g out pc lv st σ (o.bind k) :=
  q_callS (out' := fun x : St => (none, x)) C F hw hd av rest hst hn hW hR hM hp kk
theorem q_callVr (C : Cx z q w g fr lo) (F : Mf y q' n false) (hw : Cond.methodLink q.2.2.1 i y ∈ lw_g) (hd : decode q.1 pc = .ok (.invokevirtual i, 3)) (j : Nat) (hj : j < w.2.1) {b : Nat × Nat} (hb : w.2.2.1 j = .inr b) {T : u_T} (hc : w.1.1[b.1]? = some (y.cls, T, b.2)) (av rest : List Value) (hst : st = av.reverse ++ .ref (g.1 j) :: rest) (hn : av.length = n) (hW : (rest.map fun v => v.category).sum ≤ 8) (hR : Nat.ble (fr' + 1) fr = true ∧ Nat.ble (8 + (q'.2.1 + 11) + lo') lo = true) {o : Option (Int32)} {k : Int32 → Option ρ}
    (hM : ∀ x : Int32, o = some x → Ct z.1.2.1 w g y q' fr' lo' (.ref (g.1 j) :: av) σ (some (.int x), σ)) (hp : pc + 3 = pc')
    (kk : ∀ x : Int32, o = some x → Rt z q w g out pc' lv (.int x :: rest) (σ) (k x)) : Rt z q w g out pc lv st σ (o.bind k) :=
  q_callV (out' := fun x : Int32 => (some (.int x), σ)) C F hw hd j hj hb hc av rest hst hn hW hR hM hp kk
theorem q_callVw (C : Cx z q w g fr lo) (F : Mf y q' n false) (hw : Cond.methodLink q.2.2.1 i y ∈ lw_g) (hd : decode q.1 pc = .ok (.invokevirtual i, 3)) (j : Nat) (hj : j < w.2.1) {b : Nat × Nat} (hb : w.2.2.1 j = .inr b) {T : u_T} (hc : w.1.1[b.1]? = some (y.cls, T, b.2)) (av rest : List Value) (hst : st = av.reverse ++ .ref (g.1 j) :: rest) (hn : av.length = n) (hW : (rest.map fun v => v.category).sum ≤ 8) (hR : Nat.ble (fr' + 1) fr = true ∧ Nat.ble (8 + (q'.2.1 + 11) + lo') lo = true) {o : Option (Int32 × St)} {k : Int32 × St → Option ρ}
    (hM : ∀ x : Int32 × St, o = some x → Ct z.1.2.1 w g y q' fr' lo' (.ref (g.1 j) :: av) σ (some (.int x.1), x.2)) (hp : pc + 3 = pc')
    (kk : ∀ x : Int32 × St, o = some x → Rt z q w g out pc' lv (.int x.1 :: rest) (x.2) (k x)) : Rt z q w g out pc lv st σ (o.bind k) :=
  q_callV (out' := fun x : Int32 × St => (some (.int x.1), x.2)) C F hw hd j hj hb hc av rest hst hn hW hR hM hp kk
theorem q_callVv (C : Cx z q w g fr lo) (F : Mf y q' n false) (hw : Cond.methodLink q.2.2.1 i y ∈ lw_g) (hd : decode q.1 pc = .ok (.invokevirtual i, 3)) (j : Nat) (hj : j < w.2.1) {b : Nat × Nat} (hb : w.2.2.1 j = .inr b) {T : u_T} (hc : w.1.1[b.1]? = some (y.cls, T, b.2)) (av rest : List Value) (hst : st = av.reverse ++ .ref (g.1 j) :: rest) (hn : av.length = n) (hW : (rest.map fun v => v.category).sum ≤ 8) (hR : Nat.ble (fr' + 1) fr = true ∧ Nat.ble (8 + (q'.2.1 + 11) + lo') lo = true) {o : Option (St)} {k : St → Option ρ}
    (hM : ∀ x : St, o = some x → Ct z.1.2.1 w g y q' fr' lo' (.ref (g.1 j) :: av) σ (none, x)) (hp : pc + 3 = pc')
    (kk : ∀ x : St, o = some x → Rt z q w g out pc' lv (rest) (x) (k x)) : Rt z q w g out pc lv st σ (o.bind k) :=
  q_callV (out' := fun x : St => (none, x)) C F hw hd j hj hb hc av rest hst hn hW hR hM hp kk
end CALLS
/-- a contract out of a walk from the entry -/
theorem Ct.of {ρ : Type} {l : Launch} {w : Wq} {g : Ge} {y : MethodName} {q : Mq} {n : Nat} {b : Bool} {fr lo : Nat} {av : List Value} {σ : St} {out : ρ → Option Value × St} {E : Option ρ} {x : ρ} (F : Mf y q n b) (hown : y.cls = q.2.2.1) (hi : injB w.2 g) (hn : Nat.ble (lg_sl av).length q.2.1 = true) (hE : E = some x)
    (body : ∀ z : Zx, z.1.2.1 = l → Cx z q w g fr lo → Rt z q w g out 0 (lv_args 0 av) [] σ E) : Ct l w g y q fr lo av σ (out x) := by
  refine Met.ofW (cc := q.1) (maxL := q.2.1) (ret := q.2.2.2) (ws' := lw_g) F.2.2.2.1 rfl ?_
  intro p e s m args below meth c s₁ B hml hv
  obtain ⟨rfl, hP, hK, hF⟩ := hv
  have hts : ∀ x ∈ lw_g, x.before av.toArray s = true := fun x hx => atoms_spec (ws := wsq y q.1 q.2.1 q.2.2.2) B.pre x (List.mem_cons_of_mem _ hx)
  have hown' : s.vm.findClass q.2.2.1 = some m.cls := by
    rw [← hown]
    exact findClass_of_methodNamed B.named
  rw [lg_entry_eq]
  exact body ((p, l, e, rmq fr lo, s, m), (av.toArray, below, meth, c)) rfl ⟨B.exec, B.bytes, hml, B.returns, B.notSynchronized, hown', hts, hK, hi, rfl, hF⟩ x hE s.heap [] _ hP va_S.rf (lv_entry av (Nat.le_of_ble_eq_true hn))
