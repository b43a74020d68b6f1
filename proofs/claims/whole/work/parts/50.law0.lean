/-! THE CLAIM OUT OF ONE WALK OF THE LAW'S BODY. Your part is whole_start (and what it stands on); all else here is the same for every law, but numbers. -/
def R_law : String := "FlightLegsLaw"
def lw_P (b : Addr) (xs : List Int32) (args : Array Value) (s : State) : Prop := args = #[.ref b] ∧ s.IntsAt b xs ∧ xs.length ≤ 2048 ∧ (Jvm.Cond.and given_1 narrow_1).before args s = true
def lw_Q (_ : Array Value) (s : State) (o : Outcome) (t : State) : Prop := o = .returned (some (.int 1)) ∧ Framed s o t [] 600000 7302250
def lw_Z (below : List Frame) (a : Array Value) (s : State) : State → Prop := fun t => ∃ o, t.status = .running ∧ Ended t below o ∧ lw_Q a s o t
/-- the law's own end, with 1 on the stack, nothing written that was there before, its room as the claim has it -/
theorem lw_ret {p : Program} {l : Launch} {e : Env} {s : State} {m : MethodId} {below : List Frame} {meth : Method} {c : Code} {b : Nat} (hx : p.tables.exec = Jvm.exec) (hb : c.code = code) (hr : meth.sig.returnType = ret) (hlocks : meth.locks = false) {pc : Nat} {H : Heap} {ls : Array Slot} (hdg : decode code pc = .ok (.ireturn, 1)) : W p l e room_1 s m #[Value.ref b] below meth c H [] 600000 7302250 (lw_Z below #[Value.ref b] s) (F0 m pc ls [.int 1]) := by
  intro T hT X
  obtain ⟨fs, hret, hrun, hended, hW, hframe⟩ := X.leave (v := some (.int 1)) (hlocks := hlocks) (fun h => by rw [hr] at h; cases h)
  have hmeth' : T.vm.method? m = some meth := X.method'
  refine ⟨T.setFrames fs, ?_, .returned (some (.int 1)), hrun, hended, rfl, ⟨_, rfl⟩, hW, hframe⟩
  jvm_step X.here [X.here.top, hx, hb, hdg, hmeth', hr, ret, narrow_b1]
  (try refine ⟨rfl, ?_⟩); (try refine ⟨rfl, ?_⟩)
  first | (intro acts; rw [hret _ acts rfl rfl rfl]) | rw [hret _ _ rfl rfl rfl]
  exact Steps.refl _
/-- what holds at the law's entry: the machine, the code, the tables' words (any of lw_tbl by 'hts w (by decide +kernel)'), the script of L ints xs at the cell b, what the Statement gives of the start (any of its parts by flat_of_before) -/
def lw_At (p : Program) (s : State) (m : MethodId) (meth : Method) (c : Code) (b L : Nat) (xs : Nat → Int32) : Prop :=
  p.tables.exec = Jvm.exec ∧ c.code = code ∧ meth.sig.returnType = ret ∧ c.maxLocals = 4 ∧ s.vm.findClass R_law = some m.cls ∧ (∀ w ∈ lw_tbl, w.before #[Value.ref b] s = true) ∧ va_X b L xs s s.heap ∧ b < s.heap.size ∧ meth.locks = false ∧ (Jvm.Cond.and given_1 narrow_1).before #[Value.ref b] s = true
/-! the law's own judgement: from here it ends with 1, if the pure expression E is 1 -/
abbrev Zl : Type := Program × Launch × Env × State × MethodId × List Frame × Method × Code
abbrev Gl : Type := Ge × Ge × Nat × Nat × (Nat → Int32)
def Lc (v : Zl) (G : Gl) : Prop :=
  v.1.tables.exec = Jvm.exec ∧ v.2.2.2.2.2.2.2.code = code ∧ v.2.2.2.2.2.2.1.sig.returnType = ret ∧ v.2.2.2.2.2.2.2.maxLocals = 4 ∧ v.2.2.2.2.2.2.1.locks = false ∧ v.2.2.2.1.vm.findClass R_law = some v.2.2.2.2.1.cls ∧ (∀ x ∈ lw_g, x.before #[Value.ref G.2.2.1] v.2.2.2.1 = true) ∧
  va_K G.1.2.2.1 clA (tys0 G.1) v.2.2.2.1 ∧ va_K G.2.1.2.2.1 clA (tys0 G.2.1) v.2.2.2.1 ∧ injB YC G.1 ∧ injB YM G.2.1 ∧ SF wC G.1 v.2.2.2.1 v.2.2.2.1.heap ∧ va_X G.2.2.1 G.2.2.2.1 G.2.2.2.2 v.2.2.2.1 v.2.2.2.1.heap ∧ G.2.2.1 < v.2.2.2.1.heap.size ∧
  (∀ q, inB YC G.1 q → v.2.2.2.1.heap.size ≤ q) ∧ (∀ q, inB YM G.2.1 q → v.2.2.2.1.heap.size ≤ q) ∧ (∀ q, inB YC G.1 q → ¬ inB YM G.2.1 q)
def Lw (v : Zl) (G : Gl) (pc : Nat) (lv : List (Nat × Value)) (st : List Value) (c m : St) (E : Option Int32) : Prop :=
  E = some 1 → ∀ (H : Heap) (locs : List Loc) (ls : Array Slot), va_P G.1.2.2.1 clA (wl YC G.1 c) H → va_P G.2.1.2.2.1 clA (wl YM G.2.1 m) H → va_S (fun q => v.2.2.2.1.heap.size ≤ q) v.2.2.2.1.heap H locs → lv_has ls 4 lv →
    W v.1 v.2.1 v.2.2.1 room_1 v.2.2.2.1 v.2.2.2.2.1 #[Value.ref G.2.2.1] v.2.2.2.2.2.1 v.2.2.2.2.2.2.1 v.2.2.2.2.2.2.2 H locs 600000 7302250 (lw_Z v.2.2.2.2.2.1 #[Value.ref G.2.2.1] v.2.2.2.1) (F0 v.2.2.2.2.1 pc ls st)
def bz (v : Int32) : Int32 := if v = 0 then 0 else 1
section LAWROWS
variable {v : Zl} {G : Gl} {pc pc' : Nat} {lv lv' : List (Nat × Value)} {st : List Value} {c m : St} {E E1 E2 : Option Int32}
theorem Lw.sub (ks : List Nat) (h : lv_pick lv ks = lv') (k : Lw v G pc lv' st c m E) : Lw v G pc lv st c m E := fun hE H locs ls hP hQ hS hl => k hE H locs ls hP hQ hS (lv_sub hl ks h)
theorem l_lp {α : Type} {b : (α → Option Int32) → α → Option Int32} (LV : α → List (Nat × Value)) (SC SM : α → St)
    (h : ∀ ih : α → Option Int32, (∀ a, Lw v G pc (LV a) [] (SC a) (SM a) (ih a)) → ∀ a, Lw v G pc (LV a) [] (SC a) (SM a) (b ih a)) : ∀ (n : Nat) (a : α), Lw v G pc (LV a) [] (SC a) (SM a) (lp b n a) := by
  intro n
  induction n with
  | zero => exact fun a hE => by cases hE
  | succ n ih => exact fun a => h (lp b n) ih a
theorem l_iload_n (C : Lc v G) (k : Nat) {i : Fin 4} {x : Int32} (hd : decode code pc = .ok (.iload_n i, 1)) (hk : lv[k]? = some ((i : Nat), .int x)) (hp : pc + 1 = pc') (kk : Lw v G pc' lv (.int x :: st) c m E) : Lw v G pc lv st c m E := by
  subst hp
  exact fun hE H locs ls hP hQ hS hl => lv_iload_n C.1 C.2.1 hd rfl (lv_at hl k hk) (kk hE H locs ls hP hQ hS hl)
theorem l_aload_n (C : Lc v G) (k : Nat) {i : Fin 4} {x : Nat} (hd : decode code pc = .ok (.aload_n i, 1)) (hk : lv[k]? = some ((i : Nat), .ref x)) (hp : pc + 1 = pc') (kk : Lw v G pc' lv (.ref x :: st) c m E) : Lw v G pc lv st c m E := by
  subst hp
  exact fun hE H locs ls hP hQ hS hl => lv_aload_n C.1 C.2.1 hd rfl (lv_at hl k hk) (kk hE H locs ls hP hQ hS hl)
theorem l_iconst (C : Lc v G) {n : Int} {x : Int32} (hd : decode code pc = .ok (.iconst n, 1)) (hv : Int32.ofInt n = x) (hp : pc + 1 = pc') (kk : Lw v G pc' lv (.int x :: st) c m E) : Lw v G pc lv st c m E := by
  subst hp
  exact fun hE H locs ls hP hQ hS hl => lv_iconst C.1 C.2.1 hd hv (kk hE H locs ls hP hQ hS hl)
theorem l_bipush (C : Lc v G) {n : Int} {x : Int32} (hd : decode code pc = .ok (.bipush n, 2)) (hv : (Int8.ofInt n).toInt32 = x) (hp : pc + 2 = pc') (kk : Lw v G pc' lv (.int x :: st) c m E) : Lw v G pc lv st c m E := by
  subst hp
  exact fun hE H locs ls hP hQ hS hl => lv_bipush C.1 C.2.1 hd hv (kk hE H locs ls hP hQ hS hl)
theorem l_iadd (C : Lc v G) {a b : Int32} (hd : decode code pc = .ok (.iadd, 1)) (hp : pc + 1 = pc') (kk : Lw v G pc' lv (.int (a + b) :: st) c m E) : Lw v G pc lv (.int b :: .int a :: st) c m E := by
  subst hp
  exact fun hE H locs ls hP hQ hS hl => lv_iadd C.1 C.2.1 hd (kk hE H locs ls hP hQ hS hl)
theorem l_isub (C : Lc v G) {a b : Int32} (hd : decode code pc = .ok (.isub, 1)) (hp : pc + 1 = pc') (kk : Lw v G pc' lv (.int (a - b) :: st) c m E) : Lw v G pc lv (.int b :: .int a :: st) c m E := by
  subst hp
  exact fun hE H locs ls hP hQ hS hl => lv_isub C.1 C.2.1 hd (kk hE H locs ls hP hQ hS hl)
theorem l_iand (C : Lc v G) {a b : Int32} (hd : decode code pc = .ok (.iand, 1)) (hp : pc + 1 = pc') (kk : Lw v G pc' lv (.int (a &&& b) :: st) c m E) : Lw v G pc lv (.int b :: .int a :: st) c m E := by
  subst hp
  exact fun hE H locs ls hP hQ hS hl => lv_iand C.1 C.2.1 hd (kk hE H locs ls hP hQ hS hl)
theorem l_goto (C : Lc v G) {off : Int} {tgt : Nat} (hd : decode code pc = .ok (.goto off, 3)) (ht : (pc : Int) + off = (tgt : Int)) (kk : Lw v G tgt lv st c m E) : Lw v G pc lv st c m E :=
  fun hE H locs ls hP hQ hS hl => lv_goto C.1 C.2.1 hd ht (kk hE H locs ls hP hQ hS hl)
theorem l_iinc (C : Lc v G) (k : Nat) {i : Nat} {n : Int} {x u : Int32} (hd : decode code pc = .ok (.iinc i n, 3)) (hk : lv[k]? = some (i, .int x)) (hv : x + Int32.ofInt n = u) (hn : i < 4) (hl' : (i, Value.int u) :: lv.filter (fun q => !(q.1 == i) && !(q.1 + 1 == i && q.2.category == 2)) = lv') (hp : pc + 3 = pc') (kk : Lw v G pc' lv' st c m E) : Lw v G pc lv st c m E := by
  subst hp
  exact fun hE H locs ls hP hQ hS hl => lv_iinc C.1 C.2.1 hd hl hk hv hn hl' (fun ls hl => kk hE H locs ls hP hQ hS hl)
theorem l_icmp_eq (C : Lc v G) {a b : Int32} {off : Int} {tgt : Nat} {inst : Decidable (a = b)} (hd : decode code pc = .ok (.if_icmp .eq off, 3)) (ht : (pc : Int) + off = (tgt : Int)) (hp : pc + 3 = pc') (kt : Lw v G tgt lv st c m E1) (kf : Lw v G pc' lv st c m E2) : Lw v G pc lv (.int b :: .int a :: st) c m (@ite _ (a = b) inst E1 E2) := by
  subst hp
  intro hE H locs ls hP hQ hS hl
  exact lv_icmp_eq C.1 C.2.1 hd ht (fun h => kt (by rw [if_pos h] at hE; exact hE) H locs ls hP hQ hS hl) (fun h => kf (by rw [if_neg h] at hE; exact hE) H locs ls hP hQ hS hl)
theorem l_icmp_gt (C : Lc v G) {a b : Int32} {off : Int} {tgt : Nat} {inst : Decidable (b < a)} (hd : decode code pc = .ok (.if_icmp .gt off, 3)) (ht : (pc : Int) + off = (tgt : Int)) (hp : pc + 3 = pc') (kt : Lw v G tgt lv st c m E1) (kf : Lw v G pc' lv st c m E2) : Lw v G pc lv (.int b :: .int a :: st) c m (@ite _ (b < a) inst E1 E2) := by
  subst hp
  intro hE H locs ls hP hQ hS hl
  exact lv_icmp_gt C.1 C.2.1 hd ht (fun h => kt (by rw [if_pos h] at hE; exact hE) H locs ls hP hQ hS hl) (fun h => kf (by rw [if_neg h] at hE; exact hE) H locs ls hP hQ hS hl)
/-- x != 0, as javac has it: four instructions -/
theorem l_bool (C : Lc v G) {a : Int32} {p1 p2 p3 : Nat} (hd : decode code pc = .ok (.ifCond .eq 7, 3)) (h1 : decode code p1 = .ok (.iconst 1, 1)) (h2 : decode code p2 = .ok (.goto 4, 3)) (h3 : decode code p3 = .ok (.iconst 0, 1)) (e1 : p1 = pc + 3) (e2 : p2 = pc + 4) (e3 : p3 = pc + 7) (hp : pc + 8 = pc') (kk : Lw v G pc' lv (.int (bz a) :: st) c m E) : Lw v G pc lv (.int a :: st) c m E := by
  subst hp
  subst e1
  subst e2
  subst e3
  intro hE H locs ls hP hQ hS hl
  refine lv_if_eq (tgt := pc + 7) C.1 C.2.1 hd (by omega) (fun h => ?_) (fun h => ?_)
  · have e : bz a = 0 := by simp [bz, h]
    refine lv_iconst (v := 0) C.1 C.2.1 h3 (by decide) ?_
    have k2 := kk hE H locs ls hP hQ hS hl
    rw [e] at k2
    exact k2
  · have e : bz a = 1 := by simp [bz, h]
    refine lv_iconst (v := 1) C.1 C.2.1 h1 (by decide) ?_
    refine lv_goto (tgt := pc + 8) C.1 C.2.1 h2 (by omega) ?_
    have k2 := kk hE H locs ls hP hQ hS hl
    rw [e] at k2
    exact k2
theorem l_guard {q : Prop} {inst : Decidable q} (kk : q → Lw v G pc lv st c m E) : Lw v G pc lv st c m (@Gd _ q inst E) := by
  unfold Gd
  by_cases h : q
  · rw [if_pos h]
    exact kk h
  · rw [if_neg h]
    exact fun hE => by cases hE
theorem l_sld (C : Lc v G) {i : Int32} {inst : Decidable (Ix i G.2.2.2.1)} (hd : decode code pc = .ok (.iaload, 1)) (hp : pc + 1 = pc') (kk : Lw v G pc' lv (.int (G.2.2.2.2 i.toNatClampNeg) :: st) c m E) : Lw v G pc lv (.int i :: .ref G.2.2.1 :: st) c m (@Gd _ (Ix i G.2.2.2.1) inst E) := by
  subst hp
  refine l_guard (fun hi => ?_)
  intro hE H locs ls hP hQ hS hl
  exact va_sld C.1 C.2.1 C.2.2.2.2.2.2.2.2.2.2.2.2.1 C.2.2.2.2.2.2.2.2.2.2.2.2.2.1 (Nat.not_le.mpr C.2.2.2.2.2.2.2.2.2.2.2.2.2.1) hS hi hd (kk hE H locs ls hP hQ hS hl)
theorem l_slen (C : Lc v G) (hd : decode code pc = .ok (.arraylength, 1)) (hp : pc + 1 = pc') (kk : Lw v G pc' lv (.int (Int32.ofNat G.2.2.2.1) :: st) c m E) : Lw v G pc lv (.ref G.2.2.1 :: st) c m E := by
  subst hp
  intro hE H locs ls hP hQ hS hl
  exact va_slen C.1 C.2.1 C.2.2.2.2.2.2.2.2.2.2.2.2.1 C.2.2.2.2.2.2.2.2.2.2.2.2.2.1 (Nat.not_le.mpr C.2.2.2.2.2.2.2.2.2.2.2.2.2.1) hS hd (kk hE H locs ls hP hQ hS hl)
/-- the law's two ends -/
theorem l_ret1 (C : Lc v G) (hd : decode code pc = .ok (.ireturn, 1)) : Lw v G pc lv [.int 1] c m (some 1) := by
  intro hE H locs ls hP hQ hS hl
  refine va_forget (fun q hq => hS.2.2 q hq) ?_
  exact lw_ret C.1 C.2.1 C.2.2.1 C.2.2.2.2.1 hd
theorem l_ret0 : Lw v G pc lv [.int 0] c m (some 0) := by
  intro hE
  exact absurd (Option.some.inj hE) (by decide)
variable {ρ' : Type} {out' : ρ' → Option Value × St} {y : MethodName} {q' : Mq} {n i fr' lo' : Nat} {o : Option ρ'} {k : ρ' → Option Int32}
theorem l_callC (C : Lc v G) (F : Mf y q' n false) (hcl : clA[10]? = some (y.cls, Tk10, 11)) (hw : Cond.methodLink R_law i y ∈ lw_g) (hd : decode code pc = .ok (.invokevirtual i, 3)) (av rest : List Value) (hst : st = av.reverse ++ .ref (G.1.1 0) :: rest) (hn : av.length = n) (hW : (rest.map fun v => v.category).sum ≤ 8) (hR : Nat.ble (fr' + 1) 13 = true ∧ Nat.ble (8 + (q'.2.1 + 11) + lo') 538 = true)
    (hM : ∀ x, o = some x → Ct v.2.1 wC G.1 y q' fr' lo' (.ref (G.1.1 0) :: av) c (out' x)) (hp : pc + 3 = pc')
    (kk : ∀ x, o = some x → Lw v G pc' lv ((out' x).1.toList ++ rest) (out' x).2 m (k x)) : Lw v G pc lv st c m (o.bind k) := by
  subst hp
  obtain ⟨p, l, e, s, mi, below, meth, cd⟩ := v
  intro hE H locs ls hP hQ hS hl
  obtain ⟨u, hu, hk⟩ := Option.bind_eq_some_iff.mp hE
  obtain ⟨h1, h2, h3, h4, h5, h6, hts, hKC, hKM, hiC, hiM, hSF, hX, hbl, hAC, hAM, hdj⟩ := C
  have hkept : ∀ a : Nat, a < s.heap.size → ¬ inB YC G.1 a → H[a]? = s.heap[a]? := fun a ha _ => hS.2.1 a ha (Nat.not_le.mpr ha)
  have hr := va_runV (H := H) (locs := locs) (cells := 600000) (slots := 7302250) (R := room_1) (below := below) (meth := meth) (e := e) (g := F0 mi pc ls st) (As := av) (rest := rest) (n := n) (C := y.cls) ⟨h1, h2, h4, h6, hts⟩ (hM u hu)
    ⟨callB_of n hts (good_tbl F.1) rfl rfl rfl (hts _ F.2.1) (hts _ hw) F.2.2.1 ⟨Nat.le_of_ble_eq_true hR.1, Nat.le_of_ble_eq_true hR.2⟩, hts _ F.2.2.2.2.1, hts _ F.2.2.2.2.2⟩
    ⟨Pq_blind wC G.1 _ c, va_recv (D := G.1.2.2.1) hKC hP hcl ((wl_get (σ := c) (show 0 < YC.1 by decide)).trans (by rw [ent_obj (show YC.2.1 0 = .inr (10, 11) from rfl)])), fun U hU hW' => ⟨rfl, by rw [hU]; exact hP, va_K.moved hW'.alike hKC, hSF.go hkept hU hW'⟩⟩ rfl hn hl.1 hst (lv_room hW) hd ⟨Nat.le_refl _, Nat.le_refl _⟩
  intro T hT X
  obtain ⟨w, st₀, t, T', Lo, h0, X', hLo, e1, e2, ⟨⟨hv, hP1⟩, hz, hkk⟩, stp⟩ := hr T hT X
  have hv : w = (out' u).1 := by injection hv
  subst hv
  rw [h0] at hz hkk
  obtain ⟨t2, a1, b1⟩ := kk u hu hk T'.heap (locs ++ Lo) ls (by rw [e1]; exact hP1)
    (hQ.kept (fun j q hj => by
      have hlt := (hQ j q hj).lt
      rw [e1]
      refine hkk q.1 hlt (fun hin => hdj q.1 hin ?_)
      have l1 := wl_lt hj
      rw [wl_get l1] at hj
      cases hj
      exact ⟨j, l1, rfl⟩))
    ⟨Nat.le_trans hS.1 (by rw [e1]; exact hz), fun a ha hn => by rw [e1, hkk a (Nat.lt_of_lt_of_le ha hS.1) (fun hin => hn (hAC a hin))]; exact hS.2.1 a ha hn, fun a ha => by
      rcases List.mem_append.mp ha with h | h
      · exact hS.2.2 a h
      · exact hAC _ (hLo a h)⟩ hl T' rfl X'
  exact ⟨t2, stp t2 a1, b1⟩
theorem l_callM (C : Lc v G) (F : Mf y q' n false) (hcl : clA[11]? = some (y.cls, Tk11, 75)) (hw : Cond.methodLink R_law i y ∈ lw_g) (hd : decode code pc = .ok (.invokevirtual i, 3)) (av rest : List Value) (hst : st = av.reverse ++ .ref (G.2.1.1 0) :: rest) (hn : av.length = n) (hW : (rest.map fun v => v.category).sum ≤ 8) (hR : Nat.ble (fr' + 1) 13 = true ∧ Nat.ble (8 + (q'.2.1 + 11) + lo') 538 = true)
    (hM : ∀ x, o = some x → Ct v.2.1 wM G.2.1 y q' fr' lo' (.ref (G.2.1.1 0) :: av) m (out' x)) (hp : pc + 3 = pc')
    (kk : ∀ x, o = some x → Lw v G pc' lv ((out' x).1.toList ++ rest) c (out' x).2 (k x)) : Lw v G pc lv st c m (o.bind k) := by
  subst hp
  obtain ⟨p, l, e, s, mi, below, meth, cd⟩ := v
  intro hE H locs ls hP hQ hS hl
  obtain ⟨u, hu, hk⟩ := Option.bind_eq_some_iff.mp hE
  obtain ⟨h1, h2, h3, h4, h5, h6, hts, hKC, hKM, hiC, hiM, hSF, hX, hbl, hAC, hAM, hdj⟩ := C
  have hr := va_runV (H := H) (locs := locs) (cells := 600000) (slots := 7302250) (R := room_1) (below := below) (meth := meth) (e := e) (g := F0 mi pc ls st) (As := av) (rest := rest) (n := n) (C := y.cls) ⟨h1, h2, h4, h6, hts⟩ (hM u hu)
    ⟨callB_of n hts (good_tbl F.1) rfl rfl rfl (hts _ F.2.1) (hts _ hw) F.2.2.1 ⟨Nat.le_of_ble_eq_true hR.1, Nat.le_of_ble_eq_true hR.2⟩, hts _ F.2.2.2.2.1, hts _ F.2.2.2.2.2⟩
    ⟨Pq_blind wM G.2.1 _ m, va_recv (D := G.2.1.2.2.1) hKM hQ hcl ((wl_get (σ := m) (show 0 < YM.1 by decide)).trans (by rw [ent_obj (show YM.2.1 0 = .inr (11, 75) from rfl)])), fun U hU hW' => ⟨rfl, by rw [hU]; exact hQ, va_K.moved hW'.alike hKM, fun hf => by cases hf⟩⟩ rfl hn hl.1 hst (lv_room hW) hd ⟨Nat.le_refl _, Nat.le_refl _⟩
  intro T hT X
  obtain ⟨w, st₀, t, T', Lo, h0, X', hLo, e1, e2, ⟨⟨hv, hP1⟩, hz, hkk⟩, stp⟩ := hr T hT X
  have hv : w = (out' u).1 := by injection hv
  subst hv
  rw [h0] at hz hkk
  obtain ⟨t2, a1, b1⟩ := kk u hu hk T'.heap (locs ++ Lo) ls
    (hP.kept (fun j q hj => by
      have hlt := (hP j q hj).lt
      rw [e1]
      refine hkk q.1 hlt (fun hin => hdj q.1 ?_ hin)
      have l1 := wl_lt hj
      rw [wl_get l1] at hj
      cases hj
      exact ⟨j, l1, rfl⟩))
    (by rw [e1]; exact hP1)
    ⟨Nat.le_trans hS.1 (by rw [e1]; exact hz), fun a ha hn => by rw [e1, hkk a (Nat.lt_of_lt_of_le ha hS.1) (fun hin => hn (hAM a hin))]; exact hS.2.1 a ha hn, fun a ha => by
      rcases List.mem_append.mp ha with h | h
      · exact hS.2.2 a h
      · exact hAM _ (hLo a h)⟩ hl T' rfl X'
  exact ⟨t2, stp t2 a1, b1⟩
end LAWROWS
