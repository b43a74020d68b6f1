/-! the pure statement, and the law from its entry -/
theorem pure_main (L : Nat) (hL : L ≤ 2048) (xs : Nat → Int32) : law_f L xs c0 m0 = some 1 := pure_all L hL xs
theorem whole_start {p : Program} {e : Env} {s : State} {m : MethodId} {below : List Frame} {meth : Method} {c : Code} (l : Launch) (hflags : l.flags = flags0) {b L : Nat} {xs : Nat → Int32} (hL : L ≤ 2048) (C0 : lw_At p s m meth c b L xs) : W p l e room_1 s m #[Value.ref b] below meth c s.heap [] 0 0 (lw_Z below #[Value.ref b] s) (entryFrame m ([Value.ref b] : List Value).toArray 4) := start_of l (pure_main L hL xs) C0
