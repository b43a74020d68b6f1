/-! The rows of Rt: one instruction each. -/
theorem Rt.sub {ρ : Type} {z : Zx} {q : Mq} {w : Wq} {g : Ge} {out : ρ → Option Value × St} {pc : Nat} {lv lv' : List (Nat × Value)} {st : List Value} {σ : St} {E : Option ρ} (ks : List Nat) (h : lv_pick lv ks = lv') (k : Rt z q w g out pc lv' st σ E) : Rt z q w g out pc lv st σ E :=
  fun x hE H locs ls hP hS hl => k x hE H locs ls hP hS (lv_sub hl ks h)
section ROWS
variable {ρ : Type} {z : Zx} {q : Mq} {w : Wq} {g : Ge} {out : ρ → Option Value × St} {pc : Nat} {lv lv' : List (Nat × Value)} {st : List Value} {σ : St} {E E1 E2 : Option ρ} {fr lo : Nat}
theorem q_let {α : Type} {e : α} {k : α → Option ρ} (kk : ∀ y : α, y = e → Rt z q w g out pc lv st σ (k y)) : Rt z q w g out pc lv st σ (Lt e k) := kk e rfl
theorem q_guard {c : Prop} {inst : Decidable c} (kk : c → Rt z q w g out pc lv st σ E) : Rt z q w g out pc lv st σ (@Gd _ c inst E) := by
  unfold Gd
  by_cases h : c
  · rw [if_pos h]
    exact kk h
  · rw [if_neg h]
    exact fun x hE => by cases hE
theorem q_join {α : Type} {k : α} {b : α → Option ρ} (P : α → Prop) (hk : P k) (kk : ∀ J, P J → Rt z q w g out pc lv st σ (b J)) : Rt z q w g out pc lv st σ (Jn k b) := kk k hk
theorem q_lp {α : Type} {b : (α → Option ρ) → α → Option ρ} (LV : α → List (Nat × Value)) (ST : α → List Value) (SG : α → St)
    (h : ∀ ih : α → Option ρ, (∀ a, Rt z q w g out pc (LV a) (ST a) (SG a) (ih a)) → ∀ a, Rt z q w g out pc (LV a) (ST a) (SG a) (b ih a)) : ∀ (n : Nat) (a : α), Rt z q w g out pc (LV a) (ST a) (SG a) (lp b n a) := by
  intro n
  induction n with
  | zero => exact fun a x hE => by cases hE
  | succ n ih => exact fun a => h (lp b n) ih a
/-- the top of the stack by another name -/
theorem q_topi {x e : Int32} (ex : x = e) (kk : Rt z q w g out pc lv (.int x :: st) σ E) : Rt z q w g out pc lv (.int e :: st) σ E := ex ▸ kk
theorem q_topl {x e : Int64} (ex : x = e) (kk : Rt z q w g out pc lv (.long x :: st) σ E) : Rt z q w g out pc lv (.long e :: st) σ E := ex ▸ kk
theorem q_state {σ' : St} (ex : σ' = σ) (kk : Rt z q w g out pc lv st σ' E) : Rt z q w g out pc lv st σ E := ex ▸ kk
variable {pc' : Nat}
theorem q_iconst (C : Cx z q w g fr lo) {n : Int} {v : Int32} (hd : decode q.1 pc = .ok (.iconst n, 1)) (hv : Int32.ofInt n = v) (hp : pc + 1 = pc') (kk : Rt z q w g out pc' lv (.int v :: st) σ E) : Rt z q w g out pc lv st σ E := by
  subst hp
  exact fun x hE H locs ls hP hS hl => lv_iconst C.1 C.2.1 hd hv (kk x hE H locs ls hP hS hl)
theorem q_bipush (C : Cx z q w g fr lo) {n : Int} {v : Int32} (hd : decode q.1 pc = .ok (.bipush n, 2)) (hv : (Int8.ofInt n).toInt32 = v) (hp : pc + 2 = pc') (kk : Rt z q w g out pc' lv (.int v :: st) σ E) : Rt z q w g out pc lv st σ E := by
  subst hp
  exact fun x hE H locs ls hP hS hl => lv_bipush C.1 C.2.1 hd hv (kk x hE H locs ls hP hS hl)
theorem q_sipush (C : Cx z q w g fr lo) {n : Int} {v : Int32} (hd : decode q.1 pc = .ok (.sipush n, 3)) (hv : (Int16.ofInt n).toInt32 = v) (hp : pc + 3 = pc') (kk : Rt z q w g out pc' lv (.int v :: st) σ E) : Rt z q w g out pc lv st σ E := by
  subst hp
  exact fun x hE H locs ls hP hS hl => lv_sipush C.1 C.2.1 hd hv (kk x hE H locs ls hP hS hl)
theorem q_lconst (C : Cx z q w g fr lo) {n : Fin 2} {v : Int64} (hd : decode q.1 pc = .ok (.lconst n, 1)) (hv : Int64.ofNat (n : Nat) = v) (hp : pc + 1 = pc') (kk : Rt z q w g out pc' lv (.long v :: st) σ E) : Rt z q w g out pc lv st σ E := by
  subst hp
  exact fun x hE H locs ls hP hS hl => lv_lconst C.1 C.2.1 hd hv (kk x hE H locs ls hP hS hl)
theorem q_ldc (C : Cx z q w g fr lo) {i : Nat} {v : Int32} (hw : Cond.constant q.2.2.1 i v ∈ lw_g) (hd : decode q.1 pc = .ok (.ldc i, 2)) (hp : pc + 2 = pc') (kk : Rt z q w g out pc' lv (.int v :: st) σ E) : Rt z q w g out pc lv st σ E := by
  subst hp
  exact fun x hE H locs ls hP hS hl => lv_ldc C.1 C.2.1 C.2.2.2.2.2.1 (C.2.2.2.2.2.2.1 _ hw) hd (kk x hE H locs ls hP hS hl)
theorem q_ldcw (C : Cx z q w g fr lo) {i : Nat} {v : Int32} (hw : Cond.constant q.2.2.1 i v ∈ lw_g) (hd : decode q.1 pc = .ok (.ldc_w i, 3)) (hp : pc + 3 = pc') (kk : Rt z q w g out pc' lv (.int v :: st) σ E) : Rt z q w g out pc lv st σ E := by
  subst hp
  exact fun x hE H locs ls hP hS hl => lv_ldcw C.1 C.2.1 C.2.2.2.2.2.1 (C.2.2.2.2.2.2.1 _ hw) hd (kk x hE H locs ls hP hS hl)
theorem q_ldc2 (C : Cx z q w g fr lo) {i : Nat} {v : Int64} (hw : Cond.constantLong q.2.2.1 i v ∈ lw_g) (hd : decode q.1 pc = .ok (.ldc2_w i, 3)) (hp : pc + 3 = pc') (kk : Rt z q w g out pc' lv (.long v :: st) σ E) : Rt z q w g out pc lv st σ E := by
  subst hp
  exact fun x hE H locs ls hP hS hl => lv_ldc2 C.1 C.2.1 C.2.2.2.2.2.1 (C.2.2.2.2.2.2.1 _ hw) hd (kk x hE H locs ls hP hS hl)
theorem q_iload (C : Cx z q w g fr lo) (k : Nat) {i : Nat} {v : Int32} (hd : decode q.1 pc = .ok (.iload i, 2)) (hk : lv[k]? = some (i, .int v)) (hp : pc + 2 = pc') (kk : Rt z q w g out pc' lv (.int v :: st) σ E) : Rt z q w g out pc lv st σ E := by
  subst hp
  exact fun x hE H locs ls hP hS hl => lv_iload C.1 C.2.1 hd (lv_at hl k hk) (kk x hE H locs ls hP hS hl)
theorem q_iload_n (C : Cx z q w g fr lo) (k : Nat) {i : Fin 4} {v : Int32} (hd : decode q.1 pc = .ok (.iload_n i, 1)) (hk : lv[k]? = some ((i : Nat), .int v)) (hp : pc + 1 = pc') (kk : Rt z q w g out pc' lv (.int v :: st) σ E) : Rt z q w g out pc lv st σ E := by
  subst hp
  exact fun x hE H locs ls hP hS hl => lv_iload_n C.1 C.2.1 hd rfl (lv_at hl k hk) (kk x hE H locs ls hP hS hl)
theorem q_lload (C : Cx z q w g fr lo) (k : Nat) {i : Nat} {v : Int64} (hd : decode q.1 pc = .ok (.lload i, 2)) (hk : lv[k]? = some (i, .long v)) (hp : pc + 2 = pc') (kk : Rt z q w g out pc' lv (.long v :: st) σ E) : Rt z q w g out pc lv st σ E := by
  subst hp
  exact fun x hE H locs ls hP hS hl => lv_lload C.1 C.2.1 hd (lv_at hl k hk) (kk x hE H locs ls hP hS hl)
theorem q_lload_n (C : Cx z q w g fr lo) (k : Nat) {i : Fin 4} {v : Int64} (hd : decode q.1 pc = .ok (.lload_n i, 1)) (hk : lv[k]? = some ((i : Nat), .long v)) (hp : pc + 1 = pc') (kk : Rt z q w g out pc' lv (.long v :: st) σ E) : Rt z q w g out pc lv st σ E := by
  subst hp
  exact fun x hE H locs ls hP hS hl => lv_lload_n C.1 C.2.1 hd rfl (lv_at hl k hk) (kk x hE H locs ls hP hS hl)
theorem q_aload (C : Cx z q w g fr lo) (k : Nat) {i : Nat} {v : Nat} (hd : decode q.1 pc = .ok (.aload i, 2)) (hk : lv[k]? = some (i, .ref v)) (hp : pc + 2 = pc') (kk : Rt z q w g out pc' lv (.ref v :: st) σ E) : Rt z q w g out pc lv st σ E := by
  subst hp
  exact fun x hE H locs ls hP hS hl => lv_aload C.1 C.2.1 hd (lv_at hl k hk) (kk x hE H locs ls hP hS hl)
theorem q_aload_n (C : Cx z q w g fr lo) (k : Nat) {i : Fin 4} {v : Nat} (hd : decode q.1 pc = .ok (.aload_n i, 1)) (hk : lv[k]? = some ((i : Nat), .ref v)) (hp : pc + 1 = pc') (kk : Rt z q w g out pc' lv (.ref v :: st) σ E) : Rt z q w g out pc lv st σ E := by
  subst hp
  exact fun x hE H locs ls hP hS hl => lv_aload_n C.1 C.2.1 hd rfl (lv_at hl k hk) (kk x hE H locs ls hP hS hl)
theorem q_istore (C : Cx z q w g fr lo) {i : Nat} {v : Int32} (hd : decode q.1 pc = .ok (.istore i, 2)) (hn : i < q.2.1) (hl' : (i, Value.int v) :: lv.filter (fun q => !(q.1 == i) && !(q.1 + 1 == i && q.2.category == 2)) = lv') (hp : pc + 2 = pc') (kk : Rt z q w g out pc' lv' st σ E) : Rt z q w g out pc lv (.int v :: st) σ E := by
  subst hp
  exact fun x hE H locs ls hP hS hl => lv_istore C.1 C.2.1 hd hl hn hl' (fun ls hl => kk x hE H locs ls hP hS hl)
theorem q_istore_n (C : Cx z q w g fr lo) {i : Fin 4} {v : Int32} (hd : decode q.1 pc = .ok (.istore_n i, 1)) (hn : (i : Nat) < q.2.1) (hl' : ((i : Nat), Value.int v) :: lv.filter (fun q => !(q.1 == (i : Nat)) && !(q.1 + 1 == (i : Nat) && q.2.category == 2)) = lv') (hp : pc + 1 = pc') (kk : Rt z q w g out pc' lv' st σ E) : Rt z q w g out pc lv (.int v :: st) σ E := by
  subst hp
  exact fun x hE H locs ls hP hS hl => lv_istore_n C.1 C.2.1 hd rfl hl hn hl' (fun ls hl => kk x hE H locs ls hP hS hl)
theorem q_lstore (C : Cx z q w g fr lo) {i : Nat} {v : Int64} (hd : decode q.1 pc = .ok (.lstore i, 2)) (hn : i + 1 < q.2.1) (hl' : (i, Value.long v) :: lv.filter (fun q => !(q.1 == i) && (!(q.1 == i + 1) && !(q.1 + 1 == i && q.2.category == 2))) = lv') (hp : pc + 2 = pc') (kk : Rt z q w g out pc' lv' st σ E) : Rt z q w g out pc lv (.long v :: st) σ E := by
  subst hp
  exact fun x hE H locs ls hP hS hl => lv_lstore C.1 C.2.1 hd hl hn hl' (fun ls hl => kk x hE H locs ls hP hS hl)
theorem q_lstore_n (C : Cx z q w g fr lo) {i : Fin 4} {v : Int64} (hd : decode q.1 pc = .ok (.lstore_n i, 1)) (hn : (i : Nat) + 1 < q.2.1) (hl' : ((i : Nat), Value.long v) :: lv.filter (fun q => !(q.1 == (i : Nat)) && (!(q.1 == (i : Nat) + 1) && !(q.1 + 1 == (i : Nat) && q.2.category == 2))) = lv') (hp : pc + 1 = pc') (kk : Rt z q w g out pc' lv' st σ E) : Rt z q w g out pc lv (.long v :: st) σ E := by
  subst hp
  exact fun x hE H locs ls hP hS hl => lv_lstore_n C.1 C.2.1 hd rfl hl hn hl' (fun ls hl => kk x hE H locs ls hP hS hl)
theorem q_astore (C : Cx z q w g fr lo) {i : Nat} {v : Nat} (hd : decode q.1 pc = .ok (.astore i, 2)) (hn : i < q.2.1) (hl' : (i, Value.ref v) :: lv.filter (fun q => !(q.1 == i) && !(q.1 + 1 == i && q.2.category == 2)) = lv') (hp : pc + 2 = pc') (kk : Rt z q w g out pc' lv' st σ E) : Rt z q w g out pc lv (.ref v :: st) σ E := by
  subst hp
  exact fun x hE H locs ls hP hS hl => lv_astore C.1 C.2.1 hd hl hn hl' (fun ls hl => kk x hE H locs ls hP hS hl)
theorem q_astore_n (C : Cx z q w g fr lo) {i : Fin 4} {v : Nat} (hd : decode q.1 pc = .ok (.astore_n i, 1)) (hn : (i : Nat) < q.2.1) (hl' : ((i : Nat), Value.ref v) :: lv.filter (fun q => !(q.1 == (i : Nat)) && !(q.1 + 1 == (i : Nat) && q.2.category == 2)) = lv') (hp : pc + 1 = pc') (kk : Rt z q w g out pc' lv' st σ E) : Rt z q w g out pc lv (.ref v :: st) σ E := by
  subst hp
  exact fun x hE H locs ls hP hS hl => lv_astore_n C.1 C.2.1 hd rfl hl hn hl' (fun ls hl => kk x hE H locs ls hP hS hl)
theorem q_iinc (C : Cx z q w g fr lo) (k : Nat) {i : Nat} {n : Int} {v u : Int32} (hd : decode q.1 pc = .ok (.iinc i n, 3)) (hk : lv[k]? = some (i, .int v)) (hv : v + Int32.ofInt n = u) (hn : i < q.2.1) (hl' : (i, Value.int u) :: lv.filter (fun q => !(q.1 == i) && !(q.1 + 1 == i && q.2.category == 2)) = lv') (hp : pc + 3 = pc') (kk : Rt z q w g out pc' lv' st σ E) : Rt z q w g out pc lv st σ E := by
  subst hp
  exact fun x hE H locs ls hP hS hl => lv_iinc C.1 C.2.1 hd hl hk hv hn hl' (fun ls hl => kk x hE H locs ls hP hS hl)
theorem q_dup (C : Cx z q w g fr lo) {v : Value} (hd : decode q.1 pc = .ok (.dup, 1)) (hc : v.category = 1) (hp : pc + 1 = pc') (kk : Rt z q w g out pc' lv (v :: v :: st) σ E) : Rt z q w g out pc lv (v :: st) σ E := by
  subst hp
  exact fun x hE H locs ls hP hS hl => lv_dup C.1 C.2.1 hd hc (kk x hE H locs ls hP hS hl)
theorem q_dup2 (C : Cx z q w g fr lo) {v u : Value} (hd : decode q.1 pc = .ok (.dup2, 1)) (hc : v.category = 1) (hc2 : u.category = 1) (hp : pc + 1 = pc') (kk : Rt z q w g out pc' lv (v :: u :: v :: u :: st) σ E) : Rt z q w g out pc lv (v :: u :: st) σ E := by
  subst hp
  exact fun x hE H locs ls hP hS hl => lv_dup2_11 C.1 C.2.1 hd hc hc2 (kk x hE H locs ls hP hS hl)
theorem q_pop (C : Cx z q w g fr lo) {v : Value} (hd : decode q.1 pc = .ok (.pop, 1)) (hc : v.category = 1) (hp : pc + 1 = pc') (kk : Rt z q w g out pc' lv st σ E) : Rt z q w g out pc lv (v :: st) σ E := by
  subst hp
  exact fun x hE H locs ls hP hS hl => lv_pop C.1 C.2.1 hd hc (kk x hE H locs ls hP hS hl)
theorem q_iadd (C : Cx z q w g fr lo) {a b : Int32} (hd : decode q.1 pc = .ok (.iadd, 1)) (hp : pc + 1 = pc') (kk : Rt z q w g out pc' lv (.int (a + b) :: st) σ E) : Rt z q w g out pc lv (.int b :: .int a :: st) σ E := by
  subst hp
  exact fun x hE H locs ls hP hS hl => lv_iadd C.1 C.2.1 hd (kk x hE H locs ls hP hS hl)
theorem q_isub (C : Cx z q w g fr lo) {a b : Int32} (hd : decode q.1 pc = .ok (.isub, 1)) (hp : pc + 1 = pc') (kk : Rt z q w g out pc' lv (.int (a - b) :: st) σ E) : Rt z q w g out pc lv (.int b :: .int a :: st) σ E := by
  subst hp
  exact fun x hE H locs ls hP hS hl => lv_isub C.1 C.2.1 hd (kk x hE H locs ls hP hS hl)
theorem q_imul (C : Cx z q w g fr lo) {a b : Int32} (hd : decode q.1 pc = .ok (.imul, 1)) (hp : pc + 1 = pc') (kk : Rt z q w g out pc' lv (.int (a * b) :: st) σ E) : Rt z q w g out pc lv (.int b :: .int a :: st) σ E := by
  subst hp
  exact fun x hE H locs ls hP hS hl => lv_imul C.1 C.2.1 hd (kk x hE H locs ls hP hS hl)
theorem q_iand (C : Cx z q w g fr lo) {a b : Int32} (hd : decode q.1 pc = .ok (.iand, 1)) (hp : pc + 1 = pc') (kk : Rt z q w g out pc' lv (.int (a &&& b) :: st) σ E) : Rt z q w g out pc lv (.int b :: .int a :: st) σ E := by
  subst hp
  exact fun x hE H locs ls hP hS hl => lv_iand C.1 C.2.1 hd (kk x hE H locs ls hP hS hl)
theorem q_ior (C : Cx z q w g fr lo) {a b : Int32} (hd : decode q.1 pc = .ok (.ior, 1)) (hp : pc + 1 = pc') (kk : Rt z q w g out pc' lv (.int (a ||| b) :: st) σ E) : Rt z q w g out pc lv (.int b :: .int a :: st) σ E := by
  subst hp
  exact fun x hE H locs ls hP hS hl => lv_ior C.1 C.2.1 hd (kk x hE H locs ls hP hS hl)
theorem q_ishl (C : Cx z q w g fr lo) {a b : Int32} (hd : decode q.1 pc = .ok (.ishl, 1)) (hp : pc + 1 = pc') (kk : Rt z q w g out pc' lv (.int (a <<< (b &&& 31)) :: st) σ E) : Rt z q w g out pc lv (.int b :: .int a :: st) σ E := by
  subst hp
  exact fun x hE H locs ls hP hS hl => lv_ishl C.1 C.2.1 hd (kk x hE H locs ls hP hS hl)
theorem q_ishr (C : Cx z q w g fr lo) {a b : Int32} (hd : decode q.1 pc = .ok (.ishr, 1)) (hp : pc + 1 = pc') (kk : Rt z q w g out pc' lv (.int (a >>> (b &&& 31)) :: st) σ E) : Rt z q w g out pc lv (.int b :: .int a :: st) σ E := by
  subst hp
  exact fun x hE H locs ls hP hS hl => lv_ishr C.1 C.2.1 hd (kk x hE H locs ls hP hS hl)
theorem q_ladd (C : Cx z q w g fr lo) {a b : Int64} (hd : decode q.1 pc = .ok (.ladd, 1)) (hp : pc + 1 = pc') (kk : Rt z q w g out pc' lv (.long (a + b) :: st) σ E) : Rt z q w g out pc lv (.long b :: .long a :: st) σ E := by
  subst hp
  exact fun x hE H locs ls hP hS hl => lv_ladd C.1 C.2.1 hd (kk x hE H locs ls hP hS hl)
theorem q_lsub (C : Cx z q w g fr lo) {a b : Int64} (hd : decode q.1 pc = .ok (.lsub, 1)) (hp : pc + 1 = pc') (kk : Rt z q w g out pc' lv (.long (a - b) :: st) σ E) : Rt z q w g out pc lv (.long b :: .long a :: st) σ E := by
  subst hp
  exact fun x hE H locs ls hP hS hl => lv_lsub C.1 C.2.1 hd (kk x hE H locs ls hP hS hl)
theorem q_lmul (C : Cx z q w g fr lo) {a b : Int64} (hd : decode q.1 pc = .ok (.lmul, 1)) (hp : pc + 1 = pc') (kk : Rt z q w g out pc' lv (.long (a * b) :: st) σ E) : Rt z q w g out pc lv (.long b :: .long a :: st) σ E := by
  subst hp
  exact fun x hE H locs ls hP hS hl => lv_lmul C.1 C.2.1 hd (kk x hE H locs ls hP hS hl)
theorem q_idiv (C : Cx z q w g fr lo) {a b : Int32} (hne : ¬ b = 0) (hd : decode q.1 pc = .ok (.idiv, 1)) (hp : pc + 1 = pc') (kk : Rt z q w g out pc' lv (.int (a / b) :: st) σ E) : Rt z q w g out pc lv (.int b :: .int a :: st) σ E := by
  subst hp
  exact fun x hE H locs ls hP hS hl => lv_idiv C.1 C.2.1 hd hne (kk x hE H locs ls hP hS hl)
theorem q_irem (C : Cx z q w g fr lo) {a b : Int32} (hne : ¬ b = 0) (hd : decode q.1 pc = .ok (.irem, 1)) (hp : pc + 1 = pc') (kk : Rt z q w g out pc' lv (.int (a - a / b * b) :: st) σ E) : Rt z q w g out pc lv (.int b :: .int a :: st) σ E := by
  subst hp
  exact fun x hE H locs ls hP hS hl => lv_irem C.1 C.2.1 hd hne (kk x hE H locs ls hP hS hl)
theorem q_ldiv (C : Cx z q w g fr lo) {a b : Int64} (hne : ¬ b = 0) (hd : decode q.1 pc = .ok (.ldiv, 1)) (hp : pc + 1 = pc') (kk : Rt z q w g out pc' lv (.long (a / b) :: st) σ E) : Rt z q w g out pc lv (.long b :: .long a :: st) σ E := by
  subst hp
  exact fun x hE H locs ls hP hS hl => lv_ldiv C.1 C.2.1 hd hne (kk x hE H locs ls hP hS hl)
theorem q_ineg (C : Cx z q w g fr lo) {a : Int32} (hd : decode q.1 pc = .ok (.ineg, 1)) (hp : pc + 1 = pc') (kk : Rt z q w g out pc' lv (.int (-a) :: st) σ E) : Rt z q w g out pc lv (.int a :: st) σ E := by
  subst hp
  exact fun x hE H locs ls hP hS hl => lv_ineg C.1 C.2.1 hd (kk x hE H locs ls hP hS hl)
theorem q_lneg (C : Cx z q w g fr lo) {a : Int64} (hd : decode q.1 pc = .ok (.lneg, 1)) (hp : pc + 1 = pc') (kk : Rt z q w g out pc' lv (.long (-a) :: st) σ E) : Rt z q w g out pc lv (.long a :: st) σ E := by
  subst hp
  exact fun x hE H locs ls hP hS hl => lv_lneg C.1 C.2.1 hd (kk x hE H locs ls hP hS hl)
theorem q_i2l (C : Cx z q w g fr lo) {a : Int32} (hd : decode q.1 pc = .ok (.i2l, 1)) (hp : pc + 1 = pc') (kk : Rt z q w g out pc' lv (.long a.toInt64 :: st) σ E) : Rt z q w g out pc lv (.int a :: st) σ E := by
  subst hp
  exact fun x hE H locs ls hP hS hl => lv_i2l C.1 C.2.1 hd rfl (kk x hE H locs ls hP hS hl)
theorem q_l2i (C : Cx z q w g fr lo) {a : Int64} (hd : decode q.1 pc = .ok (.l2i, 1)) (hp : pc + 1 = pc') (kk : Rt z q w g out pc' lv (.int a.toInt32 :: st) σ E) : Rt z q w g out pc lv (.long a :: st) σ E := by
  subst hp
  exact fun x hE H locs ls hP hS hl => lv_l2i C.1 C.2.1 hd rfl (kk x hE H locs ls hP hS hl)
theorem q_lshl (C : Cx z q w g fr lo) {a : Int64} {b : Int32} (hd : decode q.1 pc = .ok (.lshl, 1)) (hp : pc + 1 = pc') (kk : Rt z q w g out pc' lv (.long (a <<< (b.toInt64 &&& 63)) :: st) σ E) : Rt z q w g out pc lv (.int b :: .long a :: st) σ E := by
  subst hp
  exact fun x hE H locs ls hP hS hl => lv_lshl C.1 C.2.1 hd rfl (kk x hE H locs ls hP hS hl)
theorem q_lshr (C : Cx z q w g fr lo) {a : Int64} {b : Int32} (hd : decode q.1 pc = .ok (.lshr, 1)) (hp : pc + 1 = pc') (kk : Rt z q w g out pc' lv (.long (a >>> (b.toInt64 &&& 63)) :: st) σ E) : Rt z q w g out pc lv (.int b :: .long a :: st) σ E := by
  subst hp
  exact fun x hE H locs ls hP hS hl => lv_lshr C.1 C.2.1 hd rfl (kk x hE H locs ls hP hS hl)
theorem q_lcmp (C : Cx z q w g fr lo) {a b : Int64} (hd : decode q.1 pc = .ok (.lcmp, 1)) (hp : pc + 1 = pc') (kk : Rt z q w g out pc' lv (.int (lg_cmp a b) :: st) σ E) : Rt z q w g out pc lv (.long b :: .long a :: st) σ E := by
  subst hp
  exact fun x hE H locs ls hP hS hl => W.lcmp C.1 C.2.1 hd (kk x hE H locs ls hP hS hl)
theorem q_goto (C : Cx z q w g fr lo) {off : Int} {tgt : Nat} (hd : decode q.1 pc = .ok (.goto off, 3)) (ht : (pc : Int) + off = (tgt : Int)) (kk : Rt z q w g out tgt lv st σ E) : Rt z q w g out pc lv st σ E :=
  fun x hE H locs ls hP hS hl => lv_goto C.1 C.2.1 hd ht (kk x hE H locs ls hP hS hl)
theorem q_icmp_eq (C : Cx z q w g fr lo) {a b : Int32} {off : Int} {tgt : Nat} {inst : Decidable (a = b)} (hd : decode q.1 pc = .ok (.if_icmp .eq off, 3)) (ht : (pc : Int) + off = (tgt : Int)) (hp : pc + 3 = pc') (kt : Rt z q w g out tgt lv st σ E1) (kf : Rt z q w g out pc' lv st σ E2) : Rt z q w g out pc lv (.int b :: .int a :: st) σ (@ite _ (a = b) inst E1 E2) := by
  subst hp
  intro x hE H locs ls hP hS hl
  exact lv_icmp_eq C.1 C.2.1 hd ht (fun h => kt x (by rw [if_pos h] at hE; exact hE) H locs ls hP hS hl) (fun h => kf x (by rw [if_neg h] at hE; exact hE) H locs ls hP hS hl)
theorem q_if_eq (C : Cx z q w g fr lo) {a : Int32} {off : Int} {tgt : Nat} {inst : Decidable (a = 0)} (hd : decode q.1 pc = .ok (.ifCond .eq off, 3)) (ht : (pc : Int) + off = (tgt : Int)) (hp : pc + 3 = pc') (kt : Rt z q w g out tgt lv st σ E1) (kf : Rt z q w g out pc' lv st σ E2) : Rt z q w g out pc lv (.int a :: st) σ (@ite _ (a = 0) inst E1 E2) := by
  subst hp
  intro x hE H locs ls hP hS hl
  exact lv_if_eq C.1 C.2.1 hd ht (fun h => kt x (by rw [if_pos h] at hE; exact hE) H locs ls hP hS hl) (fun h => kf x (by rw [if_neg h] at hE; exact hE) H locs ls hP hS hl)
theorem q_icmp_ne (C : Cx z q w g fr lo) {a b : Int32} {off : Int} {tgt : Nat} {inst : Decidable (a = b)} (hd : decode q.1 pc = .ok (.if_icmp .ne off, 3)) (ht : (pc : Int) + off = (tgt : Int)) (hp : pc + 3 = pc') (kt : Rt z q w g out tgt lv st σ E1) (kf : Rt z q w g out pc' lv st σ E2) : Rt z q w g out pc lv (.int b :: .int a :: st) σ (@ite _ (a = b) inst E2 E1) := by
  subst hp
  intro x hE H locs ls hP hS hl
  exact lv_icmp_ne C.1 C.2.1 hd ht (fun h => kt x (by rw [if_neg h] at hE; exact hE) H locs ls hP hS hl) (fun h => kf x (by rw [if_pos h] at hE; exact hE) H locs ls hP hS hl)
theorem q_if_ne (C : Cx z q w g fr lo) {a : Int32} {off : Int} {tgt : Nat} {inst : Decidable (a = 0)} (hd : decode q.1 pc = .ok (.ifCond .ne off, 3)) (ht : (pc : Int) + off = (tgt : Int)) (hp : pc + 3 = pc') (kt : Rt z q w g out tgt lv st σ E1) (kf : Rt z q w g out pc' lv st σ E2) : Rt z q w g out pc lv (.int a :: st) σ (@ite _ (a = 0) inst E2 E1) := by
  subst hp
  intro x hE H locs ls hP hS hl
  exact lv_if_ne C.1 C.2.1 hd ht (fun h => kt x (by rw [if_neg h] at hE; exact hE) H locs ls hP hS hl) (fun h => kf x (by rw [if_pos h] at hE; exact hE) H locs ls hP hS hl)
theorem q_icmp_lt (C : Cx z q w g fr lo) {a b : Int32} {off : Int} {tgt : Nat} {inst : Decidable (a < b)} (hd : decode q.1 pc = .ok (.if_icmp .lt off, 3)) (ht : (pc : Int) + off = (tgt : Int)) (hp : pc + 3 = pc') (kt : Rt z q w g out tgt lv st σ E1) (kf : Rt z q w g out pc' lv st σ E2) : Rt z q w g out pc lv (.int b :: .int a :: st) σ (@ite _ (a < b) inst E1 E2) := by
  subst hp
  intro x hE H locs ls hP hS hl
  exact lv_icmp_lt C.1 C.2.1 hd ht (fun h => kt x (by rw [if_pos h] at hE; exact hE) H locs ls hP hS hl) (fun h => kf x (by rw [if_neg h] at hE; exact hE) H locs ls hP hS hl)
theorem q_if_lt (C : Cx z q w g fr lo) {a : Int32} {off : Int} {tgt : Nat} {inst : Decidable (a < 0)} (hd : decode q.1 pc = .ok (.ifCond .lt off, 3)) (ht : (pc : Int) + off = (tgt : Int)) (hp : pc + 3 = pc') (kt : Rt z q w g out tgt lv st σ E1) (kf : Rt z q w g out pc' lv st σ E2) : Rt z q w g out pc lv (.int a :: st) σ (@ite _ (a < 0) inst E1 E2) := by
  subst hp
  intro x hE H locs ls hP hS hl
  exact lv_if_lt C.1 C.2.1 hd ht (fun h => kt x (by rw [if_pos h] at hE; exact hE) H locs ls hP hS hl) (fun h => kf x (by rw [if_neg h] at hE; exact hE) H locs ls hP hS hl)
theorem q_icmp_ge (C : Cx z q w g fr lo) {a b : Int32} {off : Int} {tgt : Nat} {inst : Decidable (b ≤ a)} (hd : decode q.1 pc = .ok (.if_icmp .ge off, 3)) (ht : (pc : Int) + off = (tgt : Int)) (hp : pc + 3 = pc') (kt : Rt z q w g out tgt lv st σ E1) (kf : Rt z q w g out pc' lv st σ E2) : Rt z q w g out pc lv (.int b :: .int a :: st) σ (@ite _ (b ≤ a) inst E1 E2) := by
  subst hp
  intro x hE H locs ls hP hS hl
  exact lv_icmp_ge C.1 C.2.1 hd ht (fun h => kt x (by rw [if_pos h] at hE; exact hE) H locs ls hP hS hl) (fun h => kf x (by rw [if_neg h] at hE; exact hE) H locs ls hP hS hl)
theorem q_if_ge (C : Cx z q w g fr lo) {a : Int32} {off : Int} {tgt : Nat} {inst : Decidable (0 ≤ a)} (hd : decode q.1 pc = .ok (.ifCond .ge off, 3)) (ht : (pc : Int) + off = (tgt : Int)) (hp : pc + 3 = pc') (kt : Rt z q w g out tgt lv st σ E1) (kf : Rt z q w g out pc' lv st σ E2) : Rt z q w g out pc lv (.int a :: st) σ (@ite _ (0 ≤ a) inst E1 E2) := by
  subst hp
  intro x hE H locs ls hP hS hl
  exact lv_if_ge C.1 C.2.1 hd ht (fun h => kt x (by rw [if_pos h] at hE; exact hE) H locs ls hP hS hl) (fun h => kf x (by rw [if_neg h] at hE; exact hE) H locs ls hP hS hl)
theorem q_icmp_gt (C : Cx z q w g fr lo) {a b : Int32} {off : Int} {tgt : Nat} {inst : Decidable (b < a)} (hd : decode q.1 pc = .ok (.if_icmp .gt off, 3)) (ht : (pc : Int) + off = (tgt : Int)) (hp : pc + 3 = pc') (kt : Rt z q w g out tgt lv st σ E1) (kf : Rt z q w g out pc' lv st σ E2) : Rt z q w g out pc lv (.int b :: .int a :: st) σ (@ite _ (b < a) inst E1 E2) := by
  subst hp
  intro x hE H locs ls hP hS hl
  exact lv_icmp_gt C.1 C.2.1 hd ht (fun h => kt x (by rw [if_pos h] at hE; exact hE) H locs ls hP hS hl) (fun h => kf x (by rw [if_neg h] at hE; exact hE) H locs ls hP hS hl)
theorem q_if_gt (C : Cx z q w g fr lo) {a : Int32} {off : Int} {tgt : Nat} {inst : Decidable (0 < a)} (hd : decode q.1 pc = .ok (.ifCond .gt off, 3)) (ht : (pc : Int) + off = (tgt : Int)) (hp : pc + 3 = pc') (kt : Rt z q w g out tgt lv st σ E1) (kf : Rt z q w g out pc' lv st σ E2) : Rt z q w g out pc lv (.int a :: st) σ (@ite _ (0 < a) inst E1 E2) := by
  subst hp
  intro x hE H locs ls hP hS hl
  exact lv_if_gt C.1 C.2.1 hd ht (fun h => kt x (by rw [if_pos h] at hE; exact hE) H locs ls hP hS hl) (fun h => kf x (by rw [if_neg h] at hE; exact hE) H locs ls hP hS hl)
theorem q_icmp_le (C : Cx z q w g fr lo) {a b : Int32} {off : Int} {tgt : Nat} {inst : Decidable (a ≤ b)} (hd : decode q.1 pc = .ok (.if_icmp .le off, 3)) (ht : (pc : Int) + off = (tgt : Int)) (hp : pc + 3 = pc') (kt : Rt z q w g out tgt lv st σ E1) (kf : Rt z q w g out pc' lv st σ E2) : Rt z q w g out pc lv (.int b :: .int a :: st) σ (@ite _ (a ≤ b) inst E1 E2) := by
  subst hp
  intro x hE H locs ls hP hS hl
  exact lv_icmp_le C.1 C.2.1 hd ht (fun h => kt x (by rw [if_pos h] at hE; exact hE) H locs ls hP hS hl) (fun h => kf x (by rw [if_neg h] at hE; exact hE) H locs ls hP hS hl)
theorem q_if_le (C : Cx z q w g fr lo) {a : Int32} {off : Int} {tgt : Nat} {inst : Decidable (a ≤ 0)} (hd : decode q.1 pc = .ok (.ifCond .le off, 3)) (ht : (pc : Int) + off = (tgt : Int)) (hp : pc + 3 = pc') (kt : Rt z q w g out tgt lv st σ E1) (kf : Rt z q w g out pc' lv st σ E2) : Rt z q w g out pc lv (.int a :: st) σ (@ite _ (a ≤ 0) inst E1 E2) := by
  subst hp
  intro x hE H locs ls hP hS hl
  exact lv_if_le C.1 C.2.1 hd ht (fun h => kt x (by rw [if_pos h] at hE; exact hE) H locs ls hP hS hl) (fun h => kf x (by rw [if_neg h] at hE; exact hE) H locs ls hP hS hl)
theorem cq_eq (a b : Int64) : (lg_cmp a b = 0) ↔ a = b := by
  unfold lg_cmp
  simp only [gt_iff_lt, Int64.lt_iff_toInt_lt, Int64.le_iff_toInt_le, ← Int64.toInt_inj]
  repeat' split
  all_goals (first | (simp; omega) | (constructor <;> intro h <;> first | omega | (exfalso; revert h; decide) | decide) | (simp_all; done) | omega)
theorem cq_lt (a b : Int64) : (lg_cmp a b < 0) ↔ a < b := by
  unfold lg_cmp
  simp only [gt_iff_lt, Int64.lt_iff_toInt_lt, Int64.le_iff_toInt_le, ← Int64.toInt_inj]
  repeat' split
  all_goals (first | (simp; omega) | (constructor <;> intro h <;> first | omega | (exfalso; revert h; decide) | decide) | (simp_all; done) | omega)
theorem cq_ge (a b : Int64) : (0 ≤ lg_cmp a b) ↔ b ≤ a := by
  unfold lg_cmp
  simp only [gt_iff_lt, Int64.lt_iff_toInt_lt, Int64.le_iff_toInt_le, ← Int64.toInt_inj]
  repeat' split
  all_goals (first | (simp; omega) | (constructor <;> intro h <;> first | omega | (exfalso; revert h; decide) | decide) | (simp_all; done) | omega)
theorem cq_gt (a b : Int64) : (0 < lg_cmp a b) ↔ b < a := by
  unfold lg_cmp
  simp only [gt_iff_lt, Int64.lt_iff_toInt_lt, Int64.le_iff_toInt_le, ← Int64.toInt_inj]
  repeat' split
  all_goals (first | (simp; omega) | (constructor <;> intro h <;> first | omega | (exfalso; revert h; decide) | decide) | (simp_all; done) | omega)
theorem cq_le (a b : Int64) : (lg_cmp a b ≤ 0) ↔ a ≤ b := by
  unfold lg_cmp
  simp only [gt_iff_lt, Int64.lt_iff_toInt_lt, Int64.le_iff_toInt_le, ← Int64.toInt_inj]
  repeat' split
  all_goals (first | (simp; omega) | (constructor <;> intro h <;> first | omega | (exfalso; revert h; decide) | decide) | (simp_all; done) | omega)
theorem q_lcmp_eq (C : Cx z q w g fr lo) {a b : Int64} {off : Int} {tgt : Nat} {inst : Decidable (a = b)} (hd : decode q.1 pc = .ok (.lcmp, 1)) (hd2 : decode q.1 (pc + 1) = .ok (.ifCond .eq off, 3)) (ht : ((pc + 1 : Nat) : Int) + off = (tgt : Int)) (hp : pc + 1 + 3 = pc') (kt : Rt z q w g out tgt lv st σ E1) (kf : Rt z q w g out pc' lv st σ E2) : Rt z q w g out pc lv (.long b :: .long a :: st) σ (@ite _ (a = b) inst E1 E2) := by
  subst hp
  intro x hE H locs ls hP hS hl
  refine W.lcmp C.1 C.2.1 hd ?_
  exact lv_if_eq C.1 C.2.1 hd2 ht (fun h => kt x (by rw [if_pos ((cq_eq a b).mp h)] at hE; exact hE) H locs ls hP hS hl) (fun h => kf x (by rw [if_neg (fun h2 => h ((cq_eq a b).mpr h2))] at hE; exact hE) H locs ls hP hS hl)
theorem q_lcmp_lt (C : Cx z q w g fr lo) {a b : Int64} {off : Int} {tgt : Nat} {inst : Decidable (a < b)} (hd : decode q.1 pc = .ok (.lcmp, 1)) (hd2 : decode q.1 (pc + 1) = .ok (.ifCond .lt off, 3)) (ht : ((pc + 1 : Nat) : Int) + off = (tgt : Int)) (hp : pc + 1 + 3 = pc') (kt : Rt z q w g out tgt lv st σ E1) (kf : Rt z q w g out pc' lv st σ E2) : Rt z q w g out pc lv (.long b :: .long a :: st) σ (@ite _ (a < b) inst E1 E2) := by
  subst hp
  intro x hE H locs ls hP hS hl
  refine W.lcmp C.1 C.2.1 hd ?_
  exact lv_if_lt C.1 C.2.1 hd2 ht (fun h => kt x (by rw [if_pos ((cq_lt a b).mp h)] at hE; exact hE) H locs ls hP hS hl) (fun h => kf x (by rw [if_neg (fun h2 => h ((cq_lt a b).mpr h2))] at hE; exact hE) H locs ls hP hS hl)
theorem q_lcmp_ge (C : Cx z q w g fr lo) {a b : Int64} {off : Int} {tgt : Nat} {inst : Decidable (b ≤ a)} (hd : decode q.1 pc = .ok (.lcmp, 1)) (hd2 : decode q.1 (pc + 1) = .ok (.ifCond .ge off, 3)) (ht : ((pc + 1 : Nat) : Int) + off = (tgt : Int)) (hp : pc + 1 + 3 = pc') (kt : Rt z q w g out tgt lv st σ E1) (kf : Rt z q w g out pc' lv st σ E2) : Rt z q w g out pc lv (.long b :: .long a :: st) σ (@ite _ (b ≤ a) inst E1 E2) := by
  subst hp
  intro x hE H locs ls hP hS hl
  refine W.lcmp C.1 C.2.1 hd ?_
  exact lv_if_ge C.1 C.2.1 hd2 ht (fun h => kt x (by rw [if_pos ((cq_ge a b).mp h)] at hE; exact hE) H locs ls hP hS hl) (fun h => kf x (by rw [if_neg (fun h2 => h ((cq_ge a b).mpr h2))] at hE; exact hE) H locs ls hP hS hl)
theorem q_lcmp_gt (C : Cx z q w g fr lo) {a b : Int64} {off : Int} {tgt : Nat} {inst : Decidable (b < a)} (hd : decode q.1 pc = .ok (.lcmp, 1)) (hd2 : decode q.1 (pc + 1) = .ok (.ifCond .gt off, 3)) (ht : ((pc + 1 : Nat) : Int) + off = (tgt : Int)) (hp : pc + 1 + 3 = pc') (kt : Rt z q w g out tgt lv st σ E1) (kf : Rt z q w g out pc' lv st σ E2) : Rt z q w g out pc lv (.long b :: .long a :: st) σ (@ite _ (b < a) inst E1 E2) := by
  subst hp
  intro x hE H locs ls hP hS hl
  refine W.lcmp C.1 C.2.1 hd ?_
  exact lv_if_gt C.1 C.2.1 hd2 ht (fun h => kt x (by rw [if_pos ((cq_gt a b).mp h)] at hE; exact hE) H locs ls hP hS hl) (fun h => kf x (by rw [if_neg (fun h2 => h ((cq_gt a b).mpr h2))] at hE; exact hE) H locs ls hP hS hl)
theorem q_lcmp_le (C : Cx z q w g fr lo) {a b : Int64} {off : Int} {tgt : Nat} {inst : Decidable (a ≤ b)} (hd : decode q.1 pc = .ok (.lcmp, 1)) (hd2 : decode q.1 (pc + 1) = .ok (.ifCond .le off, 3)) (ht : ((pc + 1 : Nat) : Int) + off = (tgt : Int)) (hp : pc + 1 + 3 = pc') (kt : Rt z q w g out tgt lv st σ E1) (kf : Rt z q w g out pc' lv st σ E2) : Rt z q w g out pc lv (.long b :: .long a :: st) σ (@ite _ (a ≤ b) inst E1 E2) := by
  subst hp
  intro x hE H locs ls hP hS hl
  refine W.lcmp C.1 C.2.1 hd ?_
  exact lv_if_le C.1 C.2.1 hd2 ht (fun h => kt x (by rw [if_pos ((cq_le a b).mp h)] at hE; exact hE) H locs ls hP hS hl) (fun h => kf x (by rw [if_neg (fun h2 => h ((cq_le a b).mpr h2))] at hE; exact hE) H locs ls hP hS hl)
theorem q_lcmp_ne (C : Cx z q w g fr lo) {a b : Int64} {off : Int} {tgt : Nat} {inst : Decidable (a = b)} (hd : decode q.1 pc = .ok (.lcmp, 1)) (hd2 : decode q.1 (pc + 1) = .ok (.ifCond .ne off, 3)) (ht : ((pc + 1 : Nat) : Int) + off = (tgt : Int)) (hp : pc + 1 + 3 = pc') (kt : Rt z q w g out tgt lv st σ E1) (kf : Rt z q w g out pc' lv st σ E2) : Rt z q w g out pc lv (.long b :: .long a :: st) σ (@ite _ (a = b) inst E2 E1) := by
  subst hp
  intro x hE H locs ls hP hS hl
  refine W.lcmp C.1 C.2.1 hd ?_
  exact lv_if_ne C.1 C.2.1 hd2 ht (fun h => kt x (by rw [if_neg (fun h2 => h ((cq_eq a b).mpr h2))] at hE; exact hE) H locs ls hP hS hl) (fun h => kf x (by rw [if_pos ((cq_eq a b).mp h)] at hE; exact hE) H locs ls hP hS hl)
/-! fields and arrays -/
theorem q_getI (C : Cx z q w g fr lo) (j k : Nat) {b : Nat × Nat} {S : String} {T : u_T} (hj : j < w.2.1) (hb : w.2.2.1 j = .inr b) (hk : k < b.2) (hr : w.2.2.2 j k = none) (hc : w.1.1[b.1]? = some (S, T, b.2)) (hin : ∀ x ∈ u_ws S T b.2, x ∈ lw_g) {i : Nat} (hw : Cond.fieldLink q.2.2.1 i (T k).1 (T k).2.1 (T k).2.2.1 ∈ lw_g) (hd : decode q.1 pc = .ok (.getfield i, 3)) (hp : pc + 3 = pc') (kk : Rt z q w g out pc' lv (.int (σ j k) :: st) σ E) : Rt z q w g out pc lv (.ref (g.1 j) :: st) σ E := by
  subst hp
  intro x hE H locs ls hP hS hl
  exact va_get (D := g.2.2.1) (v := .int (σ j k)) C.1 C.2.1 C.2.2.2.2.2.2.1 hin C.2.2.2.2.2.1 C.2.2.2.2.2.2.2.1 hP j ((wl_get hj).trans (by rw [ent_obj hb])) hc k hk (C.2.2.2.2.2.2.1 _ hw) (fun _ h => h) (by simp [hk, fv, hr]) hd (kk x hE H locs ls hP hS hl)
theorem q_getR (C : Cx z q w g fr lo) (j k : Nat) {r : Nat} {b : Nat × Nat} {S : String} {T : u_T} (hj : j < w.2.1) (hb : w.2.2.1 j = .inr b) (hk : k < b.2) (hr : w.2.2.2 j k = some r) (hc : w.1.1[b.1]? = some (S, T, b.2)) (hin : ∀ x ∈ u_ws S T b.2, x ∈ lw_g) {i : Nat} (hw : Cond.fieldLink q.2.2.1 i (T k).1 (T k).2.1 (T k).2.2.1 ∈ lw_g) (hd : decode q.1 pc = .ok (.getfield i, 3)) (hp : pc + 3 = pc') (kk : Rt z q w g out pc' lv (.ref (g.1 r) :: st) σ E) : Rt z q w g out pc lv (.ref (g.1 j) :: st) σ E := by
  subst hp
  intro x hE H locs ls hP hS hl
  exact va_get (D := g.2.2.1) (v := .ref (g.1 r)) C.1 C.2.1 C.2.2.2.2.2.2.1 hin C.2.2.2.2.2.1 C.2.2.2.2.2.2.2.1 hP j ((wl_get hj).trans (by rw [ent_obj hb])) hc k hk (C.2.2.2.2.2.2.1 _ hw) (fun _ h => h) (by simp [hk, fv, hr]) hd (kk x hE H locs ls hP hS hl)
theorem q_putI (C : Cx z q w g fr lo) (j k : Nat) {v : Int32} {b : Nat × Nat} {S : String} {T : u_T} {ty : Nat → FieldType} (hj : j < w.2.1) (hb : w.2.2.1 j = .inr b) (hk : k < b.2) (hr : w.2.2.2 j k = none) (hc : w.1.1[b.1]? = some (S, T, b.2)) (hin : ∀ x ∈ u_ws S T b.2, x ∈ lw_g) (hty : ∀ k, k < b.2 → parseFieldDescriptor (T k).2.2.1 = some (ty k)) (hnm : ∀ a, a < b.2 → ∀ c, c < b.2 → a ≠ c → (T a).2.1 ≠ (T c).2.1) (hfin : (T k).2.2.2 = false) (hn : narrow (ty k) (.int v) = .int v) (hft : fits (ty k) (.int v) = true) {i : Nat} (hw : Cond.fieldLink q.2.2.1 i (T k).1 (T k).2.1 (T k).2.2.1 ∈ lw_g) (hd : decode q.1 pc = .ok (.putfield i, 3)) (hp : pc + 3 = pc') (kk : Rt z q w g out pc' lv st (s2 σ j k v) E) : Rt z q w g out pc lv (.int v :: .ref (g.1 j) :: st) σ E := by
  subst hp
  intro x hE H locs ls hP hS hl
  refine va_put (D := g.2.2.1) (v := .int v) (ty := ty k) (fs := (List.range b.2).map (fv w.2 g σ j)) C.1 C.2.1 C.2.2.2.2.2.2.1 hin ty hty hnm C.2.2.2.2.2.1 C.2.2.2.2.2.2.2.1 hP (wl_D C.2.2.2.2.2.2.2.2.1 σ) hS j ((wl_get hj).trans (by rw [ent_obj hb])) hc k hk (C.2.2.2.2.2.2.1 _ hw) (fun _ h => h) hfin (hty k hk) hn hft (by simpa using hk) hd (fun H1 locs1 hP1 _ hS1 => ?_)
  rw [wl_set hj (ent_put hb hr) (fun i hi => ent_ne hi)] at hP1
  exact kk x hE H1 locs1 ls hP1 hS1 hl
theorem q_iald (C : Cx z q w g fr lo) (j : Nat) {n : Nat} (hj : j < w.2.1) (hb : w.2.2.1 j = .inl (false, n)) {i : Int32} {inst : Decidable (Ix i n)} (hd : decode q.1 pc = .ok (.iaload, 1)) (hp : pc + 1 = pc') (kk : Rt z q w g out pc' lv (.int (σ j i.toNatClampNeg) :: st) σ E) : Rt z q w g out pc lv (.int i :: .ref (g.1 j) :: st) σ (@Gd _ (Ix i n) inst E) := by
  subst hp
  refine q_guard (fun hi => ?_)
  intro x hE H locs ls hP hS hl
  exact va_iald (D := g.2.2.1) C.1 C.2.1 C.2.2.2.2.2.2.2.1 hP j 0 ((wl_get hj).trans (by rw [ent_arr hb]; rfl)) rfl hi hd (kk x hE H locs ls hP hS hl)
theorem q_zald (C : Cx z q w g fr lo) (j : Nat) {n : Nat} (hj : j < w.2.1) (hb : w.2.2.1 j = .inl (true, n)) {i : Int32} {inst : Decidable (Ix i n)} (hd : decode q.1 pc = .ok (.baload, 1)) (hp : pc + 1 = pc') (kk : Rt z q w g out pc' lv (.int (σ j i.toNatClampNeg) :: st) σ E) : Rt z q w g out pc lv (.int i :: .ref (g.1 j) :: st) σ (@Gd _ (Ix i n) inst E) := by
  subst hp
  refine q_guard (fun hi => ?_)
  intro x hE H locs ls hP hS hl
  exact va_zald (D := g.2.2.1) C.1 C.2.1 C.2.2.2.2.2.2.2.1 hP j 1 ((wl_get hj).trans (by rw [ent_arr hb]; rfl)) rfl hi hd (kk x hE H locs ls hP hS hl)
theorem ent_ast {Y : Lay} {g : Ge} {σ : St} {j k : Nat} {v : Int32} {b : Bool × Nat} (h : Y.2.1 j = .inl b) : ent Y g (s2 σ j k v) j = .inl (bif b.1 then g.2.1.2 else g.2.1.1, b.2, .inl (upd (σ j) k v)) := by
  rw [ent_arr h, s2_eq]
theorem q_iast (C : Cx z q w g fr lo) (j : Nat) {n : Nat} (hj : j < w.2.1) (hb : w.2.2.1 j = .inl (false, n)) {i v : Int32} {inst : Decidable (Ix i n)} (hd : decode q.1 pc = .ok (.iastore, 1)) (hp : pc + 1 = pc') (kk : Rt z q w g out pc' lv st (s2 σ j i.toNatClampNeg v) E) : Rt z q w g out pc lv (.int v :: .int i :: .ref (g.1 j) :: st) σ (@Gd _ (Ix i n) inst E) := by
  subst hp
  refine q_guard (fun hi => ?_)
  intro x hE H locs ls hP hS hl
  refine va_iast (D := g.2.2.1) C.1 C.2.1 C.2.2.2.2.2.2.2.1 hP (wl_D C.2.2.2.2.2.2.2.2.1 σ) hS j 0 ((wl_get hj).trans (by rw [ent_arr hb]; rfl)) rfl hi hd (fun H1 locs1 hP1 _ hS1 => ?_)
  have e1 := wl_set (g := g) (σ := σ) (σ' := s2 σ j i.toNatClampNeg v) (e := .inl (g.2.1.1, n, .inl (upd (σ j) i.toNatClampNeg v))) hj (ent_ast hb) (fun i hi => ent_ne hi)
  rw [e1] at hP1
  exact kk x hE H1 locs1 ls hP1 hS1 hl
theorem q_zast (C : Cx z q w g fr lo) (j : Nat) {n : Nat} (hj : j < w.2.1) (hb : w.2.2.1 j = .inl (true, n)) {i v : Int32} {inst : Decidable (Ix i n)} (hd : decode q.1 pc = .ok (.bastore, 1)) (hp : pc + 1 = pc') (kk : Rt z q w g out pc' lv st (s2 σ j i.toNatClampNeg (v &&& 1)) E) : Rt z q w g out pc lv (.int v :: .int i :: .ref (g.1 j) :: st) σ (@Gd _ (Ix i n) inst E) := by
  subst hp
  refine q_guard (fun hi => ?_)
  intro x hE H locs ls hP hS hl
  refine va_zast (D := g.2.2.1) C.1 C.2.1 C.2.2.2.2.2.2.2.1 hP (wl_D C.2.2.2.2.2.2.2.2.1 σ) hS j 1 ((wl_get hj).trans (by rw [ent_arr hb]; rfl)) rfl hi hd (fun H1 locs1 hP1 _ hS1 => ?_)
  have e1 := wl_set (g := g) (σ := σ) (σ' := s2 σ j i.toNatClampNeg (v &&& 1)) (e := .inl (g.2.1.2, n, .inl (upd (σ j) i.toNatClampNeg (v &&& 1)))) hj (ent_ast hb) (fun i hi => ent_ne hi)
  have hP1 : va_P g.2.2.1 w.1.1 ((wl w.2 g σ).set j (g.1 j, .inl (g.2.1.2, n, .inl (upd (σ j) i.toNatClampNeg (v &&& 1))))) H1 := hP1
  rw [e1] at hP1
  exact kk x hE H1 locs1 ls hP1 hS1 hl
theorem q_alen (C : Cx z q w g fr lo) (j : Nat) {b : Bool × Nat} (hj : j < w.2.1) (hb : w.2.2.1 j = .inl b) (hd : decode q.1 pc = .ok (.arraylength, 1)) (hp : pc + 1 = pc') (kk : Rt z q w g out pc' lv (.int (Int32.ofNat b.2) :: st) σ E) : Rt z q w g out pc lv (.ref (g.1 j) :: st) σ E := by
  subst hp
  intro x hE H locs ls hP hS hl
  obtain ⟨b1, n⟩ := b
  cases b1
  · exact va_alen (D := g.2.2.1) C.1 C.2.1 C.2.2.2.2.2.2.2.1 hP j 0 ((wl_get hj).trans (by rw [ent_arr hb]; rfl)) (ty := .int) rfl rfl hd (kk x hE H locs ls hP hS hl)
  · exact va_alen (D := g.2.2.1) C.1 C.2.1 C.2.2.2.2.2.2.2.1 hP j 1 ((wl_get hj).trans (by rw [ent_arr hb]; rfl)) (ty := .boolean) rfl rfl hd (kk x hE H locs ls hP hS hl)
/-! ends -/
theorem q_iret (C : Cx z q w g fr lo) (hr : q.2.2.2 = some .int) {v : ρ} {a : Int32} (hd : decode q.1 pc = .ok (.ireturn, 1)) (ho : out v = (some (.int a), σ)) : Rt z q w g out pc lv [.int a] σ (some v) := by
  intro x hE H locs ls hP hS hl
  cases hE
  refine W.iret (v := a) C.1 C.2.1 (C.2.2.2.1.trans hr) (fun t ht hW => ⟨⟨by rw [ho], by rw [ho, ht]; exact hP⟩, hS.F ht⟩) hS.2.2 hd C.2.2.2.2.1
theorem q_zret (C : Cx z q w g fr lo) (hr : q.2.2.2 = some .boolean) {v : ρ} {a : Int32} (hb : a &&& 1 = a) (hd : decode q.1 pc = .ok (.ireturn, 1)) (ho : out v = (some (.int a), σ)) : Rt z q w g out pc lv [.int a] σ (some v) := by
  intro x hE H locs ls hP hS hl
  cases hE
  refine W.zret (v := a) (ty := .boolean) C.1 C.2.1 (C.2.2.2.1.trans hr) (by show Value.int (a &&& 1) = .int a; rw [hb]) (fun t ht hW => ⟨⟨by rw [ho], by rw [ho, ht]; exact hP⟩, hS.F ht⟩) hS.2.2 hd C.2.2.2.2.1
theorem q_vret (C : Cx z q w g fr lo) (hr : q.2.2.2 = none) {v : ρ} (hd : decode q.1 pc = .ok (.return_, 1)) (ho : out v = (none, σ)) : Rt z q w g out pc lv [] σ (some v) := by
  intro x hE H locs ls hP hS hl
  cases hE
  refine W.vret C.1 C.2.1 (C.2.2.2.1.trans hr) (fun t ht hW => ⟨⟨by rw [ho], by rw [ho, ht]; exact hP⟩, hS.F ht⟩) hS.2.2 hd C.2.2.2.2.1
end ROWS
