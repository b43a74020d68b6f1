/-! the reference, methods 6 -/
theorem d_M_reads_0 : decode qM_reads.1 0 = .ok (.aload_n 0, 1) := by decide +kernel
theorem d_M_reads_1 : decode qM_reads.1 1 = .ok (.iconst 0, 1) := by decide +kernel
theorem d_M_reads_2 : decode qM_reads.1 2 = .ok (.putfield 411, 3) := by decide +kernel
theorem d_M_reads_5 : decode qM_reads.1 5 = .ok (.aload_n 0, 1) := by decide +kernel
theorem d_M_reads_6 : decode qM_reads.1 6 = .ok (.iconst 0, 1) := by decide +kernel
theorem d_M_reads_7 : decode qM_reads.1 7 = .ok (.putfield 389, 3) := by decide +kernel
theorem d_M_reads_10 : decode qM_reads.1 10 = .ok (.aload_n 0, 1) := by decide +kernel
theorem d_M_reads_11 : decode qM_reads.1 11 = .ok (.invokevirtual 404, 3) := by decide +kernel
theorem d_M_reads_14 : decode qM_reads.1 14 = .ok (.aload_n 0, 1) := by decide +kernel
theorem d_M_reads_15 : decode qM_reads.1 15 = .ok (.invokevirtual 447, 3) := by decide +kernel
theorem d_M_reads_18 : decode qM_reads.1 18 = .ok (.istore_n 1, 1) := by decide +kernel
theorem d_M_reads_19 : decode qM_reads.1 19 = .ok (.iload_n 1, 1) := by decide +kernel
theorem d_M_reads_20 : decode qM_reads.1 20 = .ok (.ifCond .eq 54, 3) := by decide +kernel
theorem d_M_reads_23 : decode qM_reads.1 23 = .ok (.aload_n 0, 1) := by decide +kernel
theorem d_M_reads_24 : decode qM_reads.1 24 = .ok (.getfield 392, 3) := by decide +kernel
theorem d_M_reads_27 : decode qM_reads.1 27 = .ok (.aload_n 0, 1) := by decide +kernel
theorem d_M_reads_28 : decode qM_reads.1 28 = .ok (.getfield 377, 3) := by decide +kernel
theorem d_M_reads_31 : decode qM_reads.1 31 = .ok (.if_icmp .ge 43, 3) := by decide +kernel
theorem d_M_reads_34 : decode qM_reads.1 34 = .ok (.aload_n 0, 1) := by decide +kernel
theorem d_M_reads_35 : decode qM_reads.1 35 = .ok (.bipush 59, 2) := by decide +kernel
theorem d_M_reads_37 : decode qM_reads.1 37 = .ok (.invokevirtual 417, 3) := by decide +kernel
theorem d_M_reads_40 : decode qM_reads.1 40 = .ok (.ifCond .eq 16, 3) := by decide +kernel
theorem d_M_reads_43 : decode qM_reads.1 43 = .ok (.aload_n 0, 1) := by decide +kernel
theorem d_M_reads_44 : decode qM_reads.1 44 = .ok (.getfield 411, 3) := by decide +kernel
theorem d_M_reads_47 : decode qM_reads.1 47 = .ok (.bipush 12, 2) := by decide +kernel
theorem d_M_reads_49 : decode qM_reads.1 49 = .ok (.if_icmp .ge 7, 3) := by decide +kernel
theorem d_M_reads_52 : decode qM_reads.1 52 = .ok (.iconst 1, 1) := by decide +kernel
theorem d_M_reads_53 : decode qM_reads.1 53 = .ok (.goto 4, 3) := by decide +kernel
theorem d_M_reads_56 : decode qM_reads.1 56 = .ok (.iconst 0, 1) := by decide +kernel
theorem d_M_reads_57 : decode qM_reads.1 57 = .ok (.istore_n 1, 1) := by decide +kernel
theorem d_M_reads_58 : decode qM_reads.1 58 = .ok (.iload_n 1, 1) := by decide +kernel
theorem d_M_reads_59 : decode qM_reads.1 59 = .ok (.ifCond .eq (-40), 3) := by decide +kernel
theorem d_M_reads_62 : decode qM_reads.1 62 = .ok (.aload_n 0, 1) := by decide +kernel
theorem d_M_reads_63 : decode qM_reads.1 63 = .ok (.invokevirtual 404, 3) := by decide +kernel
theorem d_M_reads_66 : decode qM_reads.1 66 = .ok (.aload_n 0, 1) := by decide +kernel
theorem d_M_reads_67 : decode qM_reads.1 67 = .ok (.invokevirtual 447, 3) := by decide +kernel
theorem d_M_reads_70 : decode qM_reads.1 70 = .ok (.istore_n 1, 1) := by decide +kernel
theorem d_M_reads_71 : decode qM_reads.1 71 = .ok (.goto (-52), 3) := by decide +kernel
theorem d_M_reads_74 : decode qM_reads.1 74 = .ok (.iload_n 1, 1) := by decide +kernel
theorem d_M_reads_75 : decode qM_reads.1 75 = .ok (.ireturn, 1) := by decide +kernel
set_option maxRecDepth 100000 in
def lb_m_reads_19 (J7 : Int32 → St → Option (Int32 × St)) (ih10 : Int32 × St → Option (Int32 × St)) (a9 : Int32 × St) : Option (Int32 × St) :=
  if (a9.1 : Int32) = 0 then (
  J7 a9.1 a9.2
  ) else (
  if ((a9.2 0 68) : Int32) ≤ (a9.2 0 69) then (
  J7 a9.1 a9.2
  ) else (
  Option.bind (m_isLetter a9.2 (59 : Int32)) fun x11 =>
  Jn (fun (x12 : Int32) =>
  if (x12 : Int32) = 0 then (
  ih10 (x12, a9.2)
  ) else (
  Option.bind (m_nextToken a9.2) fun x14 =>
  Option.bind (m_readsLeg x14) fun x15 =>
  ih10 (x15.1, x15.2)
  )
  ) fun J13 =>
  Jn (fun (_ : Unit) =>
  J13 (0 : Int32)
  ) fun J16 =>
  if (x11 : Int32) = 0 then (
  J16 ()
  ) else (
  if ((12 : Int32) : Int32) ≤ (a9.2 0 73) then (
  J16 ()
  ) else (
  J13 (1 : Int32)
  )
  )
  )
  )
set_option maxRecDepth 100000 in
def m_reads (σ : St) : Option (Int32 × St) :=
  Lt (s2 σ 0 73 (0 : Int32)) fun σ1 =>
  Lt (s2 σ1 0 70 (0 : Int32)) fun σ2 =>
  Option.bind (m_nextToken σ2) fun x3 =>
  Option.bind (m_readsLeg x3) fun x4 =>
  Jn (fun (x5 : Int32) (σ6 : St) =>
  Gd ((x5 : Int32) &&& 1 = x5) <|
  some (x5, σ6)
  ) fun J7 =>
  lp (lb_m_reads_19 J7) 4000 (x4.1, x4.2)
set_option maxHeartbeats 4000000 in
set_option maxRecDepth 100000 in
theorem cM_reads (l : Launch) (g : Ge) (hi : injB wM.2 g) (σ : St) (x : Int32 × St) (h : m_reads σ = some x) : Ct l wM g yM_reads qM_reads 7 158 [.ref (g.1 0)] σ (some (.int x.1), x.2) := by
  refine Ct.of (out := o_w) FM_reads rfl hi rfl h (fun z hz C => ?_)
  clear h
  subst hz
  unfold m_reads
  show Rt z qM_reads wM g o_w 0 [(0, .ref (g.1 0))] [] σ _
  refine q_aload_n (pc' := 1) C 0 d_M_reads_0 rfl rfl ?_
  refine q_iconst (pc' := 2) C d_M_reads_1 ki_0 rfl ?_
  refine pM_411 (pc' := 5) C d_M_reads_2 rfl rfl ?_
  refine q_let (fun σ1 e1 => ?_)
  refine q_state e1 ?_
  refine q_aload_n (pc' := 6) C 0 d_M_reads_5 rfl rfl ?_
  refine q_iconst (pc' := 7) C d_M_reads_6 ki_0 rfl ?_
  refine pM_389 (pc' := 10) C d_M_reads_7 rfl rfl ?_
  refine q_let (fun σ2 e2 => ?_)
  refine q_state e2 ?_
  refine q_aload_n (pc' := 11) C 0 d_M_reads_10 rfl rfl ?_
  refine q_callVv (fr' := 2) (lo' := 45) (pc' := 14) C FM_nextToken lmM_404 d_M_reads_11 0 jM_0 kM_0 cM0 [] [] rfl rfl (Nat.le_of_ble_eq_true rfl) ⟨rfl, rfl⟩ (fun x h => cM_nextToken _ g hi σ2 x h) rfl (fun x3 _ => ?_)
  refine q_aload_n (pc' := 15) C 0 d_M_reads_14 rfl rfl ?_
  refine q_callVw (fr' := 6) (lo' := 136) (pc' := 18) C FM_readsLeg lmM_447 d_M_reads_15 0 jM_0 kM_0 cM0 [] [] rfl rfl (Nat.le_of_ble_eq_true rfl) ⟨rfl, rfl⟩ (fun x h => cM_readsLeg _ g hi x3 x h) rfl (fun x4 _ => ?_)
  refine q_istore_n (pc' := 19) (lv' := [(1, .int x4.1), (0, .ref (g.1 0))]) C d_M_reads_18 (by decide) rfl rfl ?_
  refine q_join (fun J7 : Int32 → St → Option (Int32 × St) => ∀ (x5 : Int32) (σ6 : St), Rt z qM_reads wM g o_w 74 [(1, .int x5)] [] σ6 (J7 x5 σ6)) (fun x5 σ6 => ?_) (fun J7 hJ7 => ?_)
  · refine q_iload_n (pc' := 75) C 0 d_M_reads_74 rfl rfl ?_
    refine q_guard (fun gx8 => ?_)
    exact q_zret C rfl gx8 d_M_reads_75 rfl
  refine Rt.sub [1, 0] rfl (q_lp (fun a9 : Int32 × St => [(0, .ref (g.1 0)), (1, .int a9.1)]) (fun a9 => []) (fun a9 => a9.2) (fun ih10 hih10 a9 => ?_) 4000 (x4.1, x4.2))
  unfold lb_m_reads_19
  refine q_iload_n (pc' := 20) C 1 d_M_reads_19 rfl rfl ?_
  refine q_if_eq (tgt := 74) (pc' := 23) C d_M_reads_20 rfl rfl ?_ ?_
  · exact Rt.sub [1] rfl (hJ7 a9.1 a9.2)
  · refine q_aload_n (pc' := 24) C 0 d_M_reads_23 rfl rfl ?_
    refine gM_392 (pc' := 27) C d_M_reads_24 rfl rfl ?_
    refine q_aload_n (pc' := 28) C 0 d_M_reads_27 rfl rfl ?_
    refine gM_377 (pc' := 31) C d_M_reads_28 rfl rfl ?_
    refine q_icmp_ge (tgt := 74) (pc' := 34) C d_M_reads_31 rfl rfl ?_ ?_
    · exact Rt.sub [1] rfl (hJ7 a9.1 a9.2)
    · refine q_aload_n (pc' := 35) C 0 d_M_reads_34 rfl rfl ?_
      refine q_bipush (pc' := 37) C d_M_reads_35 kb_59 rfl ?_
      refine q_callVr (fr' := 0) (lo' := 0) (pc' := 40) C FM_isLetter lmM_417 d_M_reads_37 0 jM_0 kM_0 cM0 [.int (59 : Int32)] [] rfl rfl (Nat.le_of_ble_eq_true rfl) ⟨rfl, rfl⟩ (fun x h => cM_isLetter _ g hi a9.2 (59 : Int32) x h) rfl (fun x11 _ => ?_)
      refine q_join (fun J13 : Int32 → Option (Int32 × St) => ∀ (x12 : Int32), Rt z qM_reads wM g o_w 57 [(0, .ref (g.1 0))] [.int x12] a9.2 (J13 x12)) (fun x12 => ?_) (fun J13 hJ13 => ?_)
      · refine q_istore_n (pc' := 58) (lv' := [(1, .int x12), (0, .ref (g.1 0))]) C d_M_reads_57 (by decide) rfl rfl ?_
        refine q_iload_n (pc' := 59) C 0 d_M_reads_58 rfl rfl ?_
        refine q_if_eq (tgt := 19) (pc' := 62) C d_M_reads_59 rfl rfl ?_ ?_
        · exact Rt.sub [1, 0] rfl (hih10 (x12, a9.2))
        · refine q_aload_n (pc' := 63) C 1 d_M_reads_62 rfl rfl ?_
          refine q_callVv (fr' := 2) (lo' := 45) (pc' := 66) C FM_nextToken lmM_404 d_M_reads_63 0 jM_0 kM_0 cM0 [] [] rfl rfl (Nat.le_of_ble_eq_true rfl) ⟨rfl, rfl⟩ (fun x h => cM_nextToken _ g hi a9.2 x h) rfl (fun x14 _ => ?_)
          refine q_aload_n (pc' := 67) C 1 d_M_reads_66 rfl rfl ?_
          refine q_callVw (fr' := 6) (lo' := 136) (pc' := 70) C FM_readsLeg lmM_447 d_M_reads_67 0 jM_0 kM_0 cM0 [] [] rfl rfl (Nat.le_of_ble_eq_true rfl) ⟨rfl, rfl⟩ (fun x h => cM_readsLeg _ g hi x14 x h) rfl (fun x15 _ => ?_)
          refine q_istore_n (pc' := 71) (lv' := [(1, .int x15.1), (0, .ref (g.1 0))]) C d_M_reads_70 (by decide) rfl rfl ?_
          refine q_goto (tgt := 19) C d_M_reads_71 rfl ?_
          exact Rt.sub [1, 0] rfl (hih10 (x15.1, x15.2))
      refine q_join (fun J16 : Unit → Option (Int32 × St) => ∀ (_ : Unit), Rt z qM_reads wM g o_w 56 [(0, .ref (g.1 0))] [] a9.2 (J16 ())) (fun _ => ?_) (fun J16 hJ16 => ?_)
      · refine q_iconst (pc' := 57) C d_M_reads_56 ki_0 rfl ?_
        exact Rt.sub [0] rfl (hJ13 (0 : Int32))
      refine q_if_eq (tgt := 56) (pc' := 43) C d_M_reads_40 rfl rfl ?_ ?_
      · exact Rt.sub [0] rfl (hJ16 ())
      · refine q_aload_n (pc' := 44) C 0 d_M_reads_43 rfl rfl ?_
        refine gM_411 (pc' := 47) C d_M_reads_44 rfl rfl ?_
        refine q_bipush (pc' := 49) C d_M_reads_47 kb_12 rfl ?_
        refine q_icmp_ge (tgt := 56) (pc' := 52) C d_M_reads_49 rfl rfl ?_ ?_
        · exact Rt.sub [0] rfl (hJ16 ())
        · refine q_iconst (pc' := 53) C d_M_reads_52 ki_1 rfl ?_
          refine q_goto (tgt := 57) C d_M_reads_53 rfl ?_
          exact Rt.sub [0] rfl (hJ13 (1 : Int32))
theorem d_M_textFault_0 : decode qM_textFault.1 0 = .ok (.aload_n 0, 1) := by decide +kernel
theorem d_M_textFault_1 : decode qM_textFault.1 1 = .ok (.invokevirtual 450, 3) := by decide +kernel
theorem d_M_textFault_4 : decode qM_textFault.1 4 = .ok (.ifCond .eq 9, 3) := by decide +kernel
theorem d_M_textFault_7 : decode qM_textFault.1 7 = .ok (.ldc_w 453, 3) := by decide +kernel
theorem d_M_textFault_10 : decode qM_textFault.1 10 = .ok (.goto 7, 3) := by decide +kernel
theorem d_M_textFault_13 : decode qM_textFault.1 13 = .ok (.aload_n 0, 1) := by decide +kernel
theorem d_M_textFault_14 : decode qM_textFault.1 14 = .ok (.getfield 392, 3) := by decide +kernel
theorem d_M_textFault_17 : decode qM_textFault.1 17 = .ok (.ireturn, 1) := by decide +kernel
set_option maxRecDepth 100000 in
def m_textFault (σ : St) : Option (Int32 × St) :=
  Option.bind (m_reads σ) fun x1 =>
  Jn (fun (x2 : Int32) =>
  some (x2, x1.2)
  ) fun J3 =>
  if (x1.1 : Int32) = 0 then (
  J3 (x1.2 0 69)
  ) else (
  J3 (-1000000 : Int32)
  )
set_option maxHeartbeats 4000000 in
set_option maxRecDepth 100000 in
theorem cM_textFault (l : Launch) (g : Ge) (hi : injB wM.2 g) (σ : St) (x : Int32 × St) (h : m_textFault σ = some x) : Ct l wM g yM_textFault qM_textFault 8 179 [.ref (g.1 0)] σ (some (.int x.1), x.2) := by
  refine Ct.of (out := o_w) FM_textFault rfl hi rfl h (fun z hz C => ?_)
  clear h
  subst hz
  unfold m_textFault
  show Rt z qM_textFault wM g o_w 0 [(0, .ref (g.1 0))] [] σ _
  refine q_aload_n (pc' := 1) C 0 d_M_textFault_0 rfl rfl ?_
  refine q_callVw (fr' := 7) (lo' := 158) (pc' := 4) C FM_reads lmM_450 d_M_textFault_1 0 jM_0 kM_0 cM0 [] [] rfl rfl (Nat.le_of_ble_eq_true rfl) ⟨rfl, rfl⟩ (fun x h => cM_reads _ g hi σ x h) rfl (fun x1 _ => ?_)
  refine q_join (fun J3 : Int32 → Option (Int32 × St) => ∀ (x2 : Int32), Rt z qM_textFault wM g o_w 17 [] [.int x2] x1.2 (J3 x2)) (fun x2 => ?_) (fun J3 hJ3 => ?_)
  · exact q_iret C rfl d_M_textFault_17 rfl
  refine q_if_eq (tgt := 13) (pc' := 7) C d_M_textFault_4 rfl rfl ?_ ?_
  · refine q_aload_n (pc' := 14) C 0 d_M_textFault_13 rfl rfl ?_
    refine gM_392 (pc' := 17) C d_M_textFault_14 rfl rfl ?_
    exact Rt.sub [] rfl (hJ3 (x1.2 0 69))
  · refine q_ldcw (pc' := 10) C lcM_453 d_M_textFault_7 rfl ?_
    refine q_goto (tgt := 17) C d_M_textFault_10 rfl ?_
    exact Rt.sub [] rfl (hJ3 (-1000000 : Int32))
theorem d_M_laysTold_0 : decode qM_laysTold.1 0 = .ok (.iconst 0, 1) := by decide +kernel
theorem d_M_laysTold_1 : decode qM_laysTold.1 1 = .ok (.istore 4, 2) := by decide +kernel
theorem d_M_laysTold_3 : decode qM_laysTold.1 3 = .ok (.iload 4, 2) := by decide +kernel
theorem d_M_laysTold_5 : decode qM_laysTold.1 5 = .ok (.bipush 14, 2) := by decide +kernel
theorem d_M_laysTold_7 : decode qM_laysTold.1 7 = .ok (.if_icmp .ge 37, 3) := by decide +kernel
theorem d_M_laysTold_10 : decode qM_laysTold.1 10 = .ok (.aload_n 0, 1) := by decide +kernel
theorem d_M_laysTold_11 : decode qM_laysTold.1 11 = .ok (.getfield 7, 3) := by decide +kernel
theorem d_M_laysTold_14 : decode qM_laysTold.1 14 = .ok (.iload_n 2, 1) := by decide +kernel
theorem d_M_laysTold_15 : decode qM_laysTold.1 15 = .ok (.iconst 3, 1) := by decide +kernel
theorem d_M_laysTold_16 : decode qM_laysTold.1 16 = .ok (.iadd, 1) := by decide +kernel
theorem d_M_laysTold_17 : decode qM_laysTold.1 17 = .ok (.bipush 14, 2) := by decide +kernel
theorem d_M_laysTold_19 : decode qM_laysTold.1 19 = .ok (.iload_n 3, 1) := by decide +kernel
theorem d_M_laysTold_20 : decode qM_laysTold.1 20 = .ok (.imul, 1) := by decide +kernel
theorem d_M_laysTold_21 : decode qM_laysTold.1 21 = .ok (.iadd, 1) := by decide +kernel
theorem d_M_laysTold_22 : decode qM_laysTold.1 22 = .ok (.iload 4, 2) := by decide +kernel
theorem d_M_laysTold_24 : decode qM_laysTold.1 24 = .ok (.iadd, 1) := by decide +kernel
theorem d_M_laysTold_25 : decode qM_laysTold.1 25 = .ok (.aload_n 0, 1) := by decide +kernel
theorem d_M_laysTold_26 : decode qM_laysTold.1 26 = .ok (.getfield 153, 3) := by decide +kernel
theorem d_M_laysTold_29 : decode qM_laysTold.1 29 = .ok (.bipush 14, 2) := by decide +kernel
theorem d_M_laysTold_31 : decode qM_laysTold.1 31 = .ok (.iload_n 1, 1) := by decide +kernel
theorem d_M_laysTold_32 : decode qM_laysTold.1 32 = .ok (.imul, 1) := by decide +kernel
theorem d_M_laysTold_33 : decode qM_laysTold.1 33 = .ok (.iload 4, 2) := by decide +kernel
theorem d_M_laysTold_35 : decode qM_laysTold.1 35 = .ok (.iadd, 1) := by decide +kernel
theorem d_M_laysTold_36 : decode qM_laysTold.1 36 = .ok (.iaload, 1) := by decide +kernel
theorem d_M_laysTold_37 : decode qM_laysTold.1 37 = .ok (.iastore, 1) := by decide +kernel
theorem d_M_laysTold_38 : decode qM_laysTold.1 38 = .ok (.iinc 4 1, 3) := by decide +kernel
theorem d_M_laysTold_41 : decode qM_laysTold.1 41 = .ok (.goto (-38), 3) := by decide +kernel
theorem d_M_laysTold_44 : decode qM_laysTold.1 44 = .ok (.return_, 1) := by decide +kernel
set_option maxRecDepth 100000 in
def lb_m_laysTold_3 (p1 : Int32) (p2 : Int32) (p3 : Int32) (J2 : St → Option (St)) (ih4 : Int32 × St → Option (St)) (a3 : Int32 × St) : Option (St) :=
  if ((14 : Int32) : Int32) ≤ a3.1 then (
  J2 a3.2
  ) else (
  Gd (Ix (((14 : Int32) * p1) + a3.1) 168) <|
  Gd (Ix (((p2 + (3 : Int32)) + ((14 : Int32) * p3)) + a3.1) 2673) <|
  Lt (s2 a3.2 1 (Int32.toNatClampNeg (((p2 + (3 : Int32)) + ((14 : Int32) * p3)) + a3.1)) (a3.2 43 (Int32.toNatClampNeg (((14 : Int32) * p1) + a3.1)))) fun σ5 =>
  Lt (a3.1 + (1 : Int32) : Int32) fun x6 =>
  ih4 (x6, σ5)
  )
set_option maxRecDepth 100000 in
def m_laysTold (σ : St) (p1 : Int32) (p2 : Int32) (p3 : Int32) : Option (St) :=
  Jn (fun (σ1 : St) =>
  some σ1
  ) fun J2 =>
  lp (lb_m_laysTold_3 p1 p2 p3 J2) 4000 ((0 : Int32), σ)
set_option maxHeartbeats 4000000 in
set_option maxRecDepth 100000 in
theorem cM_laysTold (l : Launch) (g : Ge) (hi : injB wM.2 g) (σ : St) (p1 : Int32) (p2 : Int32) (p3 : Int32) (x : St) (h : m_laysTold σ p1 p2 p3 = some x) : Ct l wM g yM_laysTold qM_laysTold 0 0 [.ref (g.1 0), .int p1, .int p2, .int p3] σ (none, x) := by
  refine Ct.of (out := o_v) FM_laysTold rfl hi rfl h (fun z hz C => ?_)
  clear h
  subst hz
  unfold m_laysTold
  show Rt z qM_laysTold wM g o_v 0 [(0, .ref (g.1 0)), (1, .int p1), (2, .int p2), (3, .int p3)] [] σ _
  refine q_iconst (pc' := 1) C d_M_laysTold_0 ki_0 rfl ?_
  refine q_istore (pc' := 3) (lv' := [(4, .int (0 : Int32)), (0, .ref (g.1 0)), (1, .int p1), (2, .int p2), (3, .int p3)]) C d_M_laysTold_1 (by decide) rfl rfl ?_
  refine q_join (fun J2 : St → Option (St) => ∀ (σ1 : St), Rt z qM_laysTold wM g o_v 44 [] [] σ1 (J2 σ1)) (fun σ1 => ?_) (fun J2 hJ2 => ?_)
  · exact q_vret C rfl d_M_laysTold_44 rfl
  refine Rt.sub [1, 2, 3, 4, 0] rfl (q_lp (fun a3 : Int32 × St => [(0, .ref (g.1 0)), (1, .int p1), (2, .int p2), (3, .int p3), (4, .int a3.1)]) (fun a3 => []) (fun a3 => a3.2) (fun ih4 hih4 a3 => ?_) 4000 ((0 : Int32), σ))
  unfold lb_m_laysTold_3
  refine q_iload (pc' := 5) C 4 d_M_laysTold_3 rfl rfl ?_
  refine q_bipush (pc' := 7) C d_M_laysTold_5 kb_14 rfl ?_
  refine q_icmp_ge (tgt := 44) (pc' := 10) C d_M_laysTold_7 rfl rfl ?_ ?_
  · exact Rt.sub [] rfl (hJ2 a3.2)
  · refine q_aload_n (pc' := 11) C 0 d_M_laysTold_10 rfl rfl ?_
    refine gM_7 (pc' := 14) C d_M_laysTold_11 rfl rfl ?_
    refine q_iload_n (pc' := 15) C 2 d_M_laysTold_14 rfl rfl ?_
    refine q_iconst (pc' := 16) C d_M_laysTold_15 ki_3 rfl ?_
    refine q_iadd (pc' := 17) C d_M_laysTold_16 rfl ?_
    refine q_bipush (pc' := 19) C d_M_laysTold_17 kb_14 rfl ?_
    refine q_iload_n (pc' := 20) C 3 d_M_laysTold_19 rfl rfl ?_
    refine q_imul (pc' := 21) C d_M_laysTold_20 rfl ?_
    refine q_iadd (pc' := 22) C d_M_laysTold_21 rfl ?_
    refine q_iload (pc' := 24) C 4 d_M_laysTold_22 rfl rfl ?_
    refine q_iadd (pc' := 25) C d_M_laysTold_24 rfl ?_
    refine q_aload_n (pc' := 26) C 0 d_M_laysTold_25 rfl rfl ?_
    refine gM_153 (pc' := 29) C d_M_laysTold_26 rfl rfl ?_
    refine q_bipush (pc' := 31) C d_M_laysTold_29 kb_14 rfl ?_
    refine q_iload_n (pc' := 32) C 1 d_M_laysTold_31 rfl rfl ?_
    refine q_imul (pc' := 33) C d_M_laysTold_32 rfl ?_
    refine q_iload (pc' := 35) C 4 d_M_laysTold_33 rfl rfl ?_
    refine q_iadd (pc' := 36) C d_M_laysTold_35 rfl ?_
    refine q_iald (pc' := 37) C 43 jM_43 kM_43 d_M_laysTold_36 rfl ?_
    refine q_iast (pc' := 38) C 1 jM_1 kM_1 d_M_laysTold_37 rfl ?_
    refine q_let (fun σ5 e5 => ?_)
    refine q_state e5 ?_
    refine q_let (fun x6 e6 => ?_)
    refine q_iinc (pc' := 41) (lv' := [(4, .int x6), (0, .ref (g.1 0)), (1, .int p1), (2, .int p2), (3, .int p3)]) C 4 d_M_laysTold_38 rfl (by rw [e6, ki_1]) (by decide) rfl rfl ?_
    refine q_goto (tgt := 3) C d_M_laysTold_41 rfl ?_
    exact Rt.sub [1, 2, 3, 4, 0] rfl (hih4 (x6, σ5))
theorem d_M_addFix_0 : decode qM_addFix.1 0 = .ok (.iload_n 1, 1) := by decide +kernel
theorem d_M_addFix_1 : decode qM_addFix.1 1 = .ok (.i2l, 1) := by decide +kernel
theorem d_M_addFix_2 : decode qM_addFix.1 2 = .ok (.ldc2_w 454, 3) := by decide +kernel
theorem d_M_addFix_5 : decode qM_addFix.1 5 = .ok (.ldc2_w 456, 3) := by decide +kernel
theorem d_M_addFix_8 : decode qM_addFix.1 8 = .ok (.invokestatic 232, 3) := by decide +kernel
theorem d_M_addFix_11 : decode qM_addFix.1 11 = .ok (.ifCond .eq 17, 3) := by decide +kernel
theorem d_M_addFix_14 : decode qM_addFix.1 14 = .ok (.iload_n 2, 1) := by decide +kernel
theorem d_M_addFix_15 : decode qM_addFix.1 15 = .ok (.i2l, 1) := by decide +kernel
theorem d_M_addFix_16 : decode qM_addFix.1 16 = .ok (.ldc2_w 454, 3) := by decide +kernel
theorem d_M_addFix_19 : decode qM_addFix.1 19 = .ok (.ldc2_w 456, 3) := by decide +kernel
theorem d_M_addFix_22 : decode qM_addFix.1 22 = .ok (.invokestatic 232, 3) := by decide +kernel
theorem d_M_addFix_25 : decode qM_addFix.1 25 = .ok (.ifCond .ne 7, 3) := by decide +kernel
theorem d_M_addFix_28 : decode qM_addFix.1 28 = .ok (.ldc_w 376, 3) := by decide +kernel
theorem d_M_addFix_31 : decode qM_addFix.1 31 = .ok (.ireturn, 1) := by decide +kernel
theorem d_M_addFix_32 : decode qM_addFix.1 32 = .ok (.aload_n 0, 1) := by decide +kernel
theorem d_M_addFix_33 : decode qM_addFix.1 33 = .ok (.getfield 414, 3) := by decide +kernel
theorem d_M_addFix_36 : decode qM_addFix.1 36 = .ok (.bipush 16, 2) := by decide +kernel
theorem d_M_addFix_38 : decode qM_addFix.1 38 = .ok (.if_icmp .ne 7, 3) := by decide +kernel
theorem d_M_addFix_41 : decode qM_addFix.1 41 = .ok (.ldc_w 380, 3) := by decide +kernel
theorem d_M_addFix_44 : decode qM_addFix.1 44 = .ok (.ireturn, 1) := by decide +kernel
theorem d_M_addFix_45 : decode qM_addFix.1 45 = .ok (.aload_n 0, 1) := by decide +kernel
theorem d_M_addFix_46 : decode qM_addFix.1 46 = .ok (.getfield 17, 3) := by decide +kernel
theorem d_M_addFix_49 : decode qM_addFix.1 49 = .ok (.aload_n 0, 1) := by decide +kernel
theorem d_M_addFix_50 : decode qM_addFix.1 50 = .ok (.getfield 414, 3) := by decide +kernel
theorem d_M_addFix_53 : decode qM_addFix.1 53 = .ok (.iload_n 1, 1) := by decide +kernel
theorem d_M_addFix_54 : decode qM_addFix.1 54 = .ok (.iastore, 1) := by decide +kernel
theorem d_M_addFix_55 : decode qM_addFix.1 55 = .ok (.aload_n 0, 1) := by decide +kernel
theorem d_M_addFix_56 : decode qM_addFix.1 56 = .ok (.getfield 20, 3) := by decide +kernel
theorem d_M_addFix_59 : decode qM_addFix.1 59 = .ok (.aload_n 0, 1) := by decide +kernel
theorem d_M_addFix_60 : decode qM_addFix.1 60 = .ok (.getfield 414, 3) := by decide +kernel
theorem d_M_addFix_63 : decode qM_addFix.1 63 = .ok (.iload_n 2, 1) := by decide +kernel
theorem d_M_addFix_64 : decode qM_addFix.1 64 = .ok (.iastore, 1) := by decide +kernel
theorem d_M_addFix_65 : decode qM_addFix.1 65 = .ok (.aload_n 0, 1) := by decide +kernel
theorem d_M_addFix_66 : decode qM_addFix.1 66 = .ok (.dup, 1) := by decide +kernel
theorem d_M_addFix_67 : decode qM_addFix.1 67 = .ok (.getfield 414, 3) := by decide +kernel
theorem d_M_addFix_70 : decode qM_addFix.1 70 = .ok (.iconst 1, 1) := by decide +kernel
theorem d_M_addFix_71 : decode qM_addFix.1 71 = .ok (.iadd, 1) := by decide +kernel
theorem d_M_addFix_72 : decode qM_addFix.1 72 = .ok (.putfield 414, 3) := by decide +kernel
theorem d_M_addFix_75 : decode qM_addFix.1 75 = .ok (.aload_n 0, 1) := by decide +kernel
theorem d_M_addFix_76 : decode qM_addFix.1 76 = .ok (.getfield 414, 3) := by decide +kernel
theorem d_M_addFix_79 : decode qM_addFix.1 79 = .ok (.iconst 1, 1) := by decide +kernel
theorem d_M_addFix_80 : decode qM_addFix.1 80 = .ok (.isub, 1) := by decide +kernel
theorem d_M_addFix_81 : decode qM_addFix.1 81 = .ok (.ireturn, 1) := by decide +kernel
set_option maxRecDepth 100000 in
def m_addFix (σ : St) (p1 : Int32) (p2 : Int32) : Option (Int32 × St) :=
  Option.bind (m_in (Int32.toInt64 p1) (-9999 : Int64) (9999 : Int64)) fun x1 =>
  Jn (fun (_ : Unit) =>
  some ((-1000002 : Int32), σ)
  ) fun J2 =>
  if (x1 : Int32) = 0 then (
  J2 ()
  ) else (
  Option.bind (m_in (Int32.toInt64 p2) (-9999 : Int64) (9999 : Int64)) fun x3 =>
  if (x3 : Int32) = 0 then (
  J2 ()
  ) else (
  if ((σ 0 7) : Int32) = (16 : Int32) then (
  some ((-1000004 : Int32), σ)
  ) else (
  Gd (Ix (σ 0 7) 16) <|
  Lt (s2 σ 3 (Int32.toNatClampNeg (σ 0 7)) p1) fun σ4 =>
  Gd (Ix (σ4 0 7) 16) <|
  Lt (s2 σ4 4 (Int32.toNatClampNeg (σ4 0 7)) p2) fun σ5 =>
  Lt (s2 σ5 0 7 ((σ5 0 7) + (1 : Int32))) fun σ6 =>
  some (((σ6 0 7) - (1 : Int32)), σ6)
  )
  )
  )
set_option maxHeartbeats 4000000 in
set_option maxRecDepth 100000 in
theorem cM_addFix (l : Launch) (g : Ge) (hi : injB wM.2 g) (σ : St) (p1 : Int32) (p2 : Int32) (x : Int32 × St) (h : m_addFix σ p1 p2 = some x) : Ct l wM g yM_addFix qM_addFix 1 25 [.ref (g.1 0), .int p1, .int p2] σ (some (.int x.1), x.2) := by
  refine Ct.of (out := o_w) FM_addFix rfl hi rfl h (fun z hz C => ?_)
  clear h
  subst hz
  unfold m_addFix
  show Rt z qM_addFix wM g o_w 0 [(0, .ref (g.1 0)), (1, .int p1), (2, .int p2)] [] σ _
  refine q_iload_n (pc' := 1) C 1 d_M_addFix_0 rfl rfl ?_
  refine q_i2l (pc' := 2) C d_M_addFix_1 rfl ?_
  refine q_ldc2 (pc' := 5) C lLM_454 d_M_addFix_2 rfl ?_
  refine q_ldc2 (pc' := 8) C lLM_456 d_M_addFix_5 rfl ?_
  refine q_callSr (fr' := 0) (lo' := 0) (pc' := 11) C FM_in lmM_232 d_M_addFix_8 [.long (Int32.toInt64 p1), .long (-9999 : Int64), .long (9999 : Int64)] [] rfl rfl (Nat.le_of_ble_eq_true rfl) ⟨rfl, rfl⟩ (fun x h => cM_in _ g hi σ (Int32.toInt64 p1) (-9999 : Int64) (9999 : Int64) x h) rfl (fun x1 _ => ?_)
  refine q_join (fun J2 : Unit → Option (Int32 × St) => ∀ (_ : Unit), Rt z qM_addFix wM g o_w 28 [] [] σ (J2 ())) (fun _ => ?_) (fun J2 hJ2 => ?_)
  · refine q_ldcw (pc' := 31) C lcM_376 d_M_addFix_28 rfl ?_
    exact q_iret C rfl d_M_addFix_31 rfl
  refine q_if_eq (tgt := 28) (pc' := 14) C d_M_addFix_11 rfl rfl ?_ ?_
  · exact Rt.sub [] rfl (hJ2 ())
  · refine q_iload_n (pc' := 15) C 2 d_M_addFix_14 rfl rfl ?_
    refine q_i2l (pc' := 16) C d_M_addFix_15 rfl ?_
    refine q_ldc2 (pc' := 19) C lLM_454 d_M_addFix_16 rfl ?_
    refine q_ldc2 (pc' := 22) C lLM_456 d_M_addFix_19 rfl ?_
    refine q_callSr (fr' := 0) (lo' := 0) (pc' := 25) C FM_in lmM_232 d_M_addFix_22 [.long (Int32.toInt64 p2), .long (-9999 : Int64), .long (9999 : Int64)] [] rfl rfl (Nat.le_of_ble_eq_true rfl) ⟨rfl, rfl⟩ (fun x h => cM_in _ g hi σ (Int32.toInt64 p2) (-9999 : Int64) (9999 : Int64) x h) rfl (fun x3 _ => ?_)
    refine q_if_ne (tgt := 32) (pc' := 28) C d_M_addFix_25 rfl rfl ?_ ?_
    · refine q_aload_n (pc' := 33) C 0 d_M_addFix_32 rfl rfl ?_
      refine gM_414 (pc' := 36) C d_M_addFix_33 rfl rfl ?_
      refine q_bipush (pc' := 38) C d_M_addFix_36 kb_16 rfl ?_
      refine q_icmp_ne (tgt := 45) (pc' := 41) C d_M_addFix_38 rfl rfl ?_ ?_
      · refine q_aload_n (pc' := 46) C 0 d_M_addFix_45 rfl rfl ?_
        refine gM_17 (pc' := 49) C d_M_addFix_46 rfl rfl ?_
        refine q_aload_n (pc' := 50) C 0 d_M_addFix_49 rfl rfl ?_
        refine gM_414 (pc' := 53) C d_M_addFix_50 rfl rfl ?_
        refine q_iload_n (pc' := 54) C 1 d_M_addFix_53 rfl rfl ?_
        refine q_iast (pc' := 55) C 3 jM_3 kM_3 d_M_addFix_54 rfl ?_
        refine q_let (fun σ4 e4 => ?_)
        refine q_state e4 ?_
        refine q_aload_n (pc' := 56) C 0 d_M_addFix_55 rfl rfl ?_
        refine gM_20 (pc' := 59) C d_M_addFix_56 rfl rfl ?_
        refine q_aload_n (pc' := 60) C 0 d_M_addFix_59 rfl rfl ?_
        refine gM_414 (pc' := 63) C d_M_addFix_60 rfl rfl ?_
        refine q_iload_n (pc' := 64) C 2 d_M_addFix_63 rfl rfl ?_
        refine q_iast (pc' := 65) C 4 jM_4 kM_4 d_M_addFix_64 rfl ?_
        refine q_let (fun σ5 e5 => ?_)
        refine q_state e5 ?_
        refine q_aload_n (pc' := 66) C 0 d_M_addFix_65 rfl rfl ?_
        refine q_dup (pc' := 67) C d_M_addFix_66 rfl rfl ?_
        refine gM_414 (pc' := 70) C d_M_addFix_67 rfl rfl ?_
        refine q_iconst (pc' := 71) C d_M_addFix_70 ki_1 rfl ?_
        refine q_iadd (pc' := 72) C d_M_addFix_71 rfl ?_
        refine pM_414 (pc' := 75) C d_M_addFix_72 rfl rfl ?_
        refine q_let (fun σ6 e6 => ?_)
        refine q_state e6 ?_
        refine q_aload_n (pc' := 76) C 0 d_M_addFix_75 rfl rfl ?_
        refine gM_414 (pc' := 79) C d_M_addFix_76 rfl rfl ?_
        refine q_iconst (pc' := 80) C d_M_addFix_79 ki_1 rfl ?_
        refine q_isub (pc' := 81) C d_M_addFix_80 rfl ?_
        exact q_iret C rfl d_M_addFix_81 rfl
      · refine q_ldcw (pc' := 44) C lcM_380 d_M_addFix_41 rfl ?_
        exact q_iret C rfl d_M_addFix_44 rfl
    · exact Rt.sub [] rfl (hJ2 ())
theorem d_M_setWind_0 : decode qM_setWind.1 0 = .ok (.iload_n 1, 1) := by decide +kernel
theorem d_M_setWind_1 : decode qM_setWind.1 1 = .ok (.i2l, 1) := by decide +kernel
theorem d_M_setWind_2 : decode qM_setWind.1 2 = .ok (.ldc2_w 458, 3) := by decide +kernel
theorem d_M_setWind_5 : decode qM_setWind.1 5 = .ok (.ldc2_w 460, 3) := by decide +kernel
theorem d_M_setWind_8 : decode qM_setWind.1 8 = .ok (.invokestatic 232, 3) := by decide +kernel
theorem d_M_setWind_11 : decode qM_setWind.1 11 = .ok (.ifCond .eq 17, 3) := by decide +kernel
theorem d_M_setWind_14 : decode qM_setWind.1 14 = .ok (.iload_n 2, 1) := by decide +kernel
theorem d_M_setWind_15 : decode qM_setWind.1 15 = .ok (.i2l, 1) := by decide +kernel
theorem d_M_setWind_16 : decode qM_setWind.1 16 = .ok (.ldc2_w 458, 3) := by decide +kernel
theorem d_M_setWind_19 : decode qM_setWind.1 19 = .ok (.ldc2_w 460, 3) := by decide +kernel
theorem d_M_setWind_22 : decode qM_setWind.1 22 = .ok (.invokestatic 232, 3) := by decide +kernel
theorem d_M_setWind_25 : decode qM_setWind.1 25 = .ok (.ifCond .ne 7, 3) := by decide +kernel
theorem d_M_setWind_28 : decode qM_setWind.1 28 = .ok (.ldc_w 376, 3) := by decide +kernel
theorem d_M_setWind_31 : decode qM_setWind.1 31 = .ok (.ireturn, 1) := by decide +kernel
theorem d_M_setWind_32 : decode qM_setWind.1 32 = .ok (.aload_n 0, 1) := by decide +kernel
theorem d_M_setWind_33 : decode qM_setWind.1 33 = .ok (.iload_n 1, 1) := by decide +kernel
theorem d_M_setWind_34 : decode qM_setWind.1 34 = .ok (.putfield 270, 3) := by decide +kernel
theorem d_M_setWind_37 : decode qM_setWind.1 37 = .ok (.aload_n 0, 1) := by decide +kernel
theorem d_M_setWind_38 : decode qM_setWind.1 38 = .ok (.iload_n 2, 1) := by decide +kernel
theorem d_M_setWind_39 : decode qM_setWind.1 39 = .ok (.putfield 273, 3) := by decide +kernel
theorem d_M_setWind_42 : decode qM_setWind.1 42 = .ok (.aload_n 0, 1) := by decide +kernel
theorem d_M_setWind_43 : decode qM_setWind.1 43 = .ok (.invokevirtual 462, 3) := by decide +kernel
theorem d_M_setWind_46 : decode qM_setWind.1 46 = .ok (.iconst 1, 1) := by decide +kernel
theorem d_M_setWind_47 : decode qM_setWind.1 47 = .ok (.ireturn, 1) := by decide +kernel
set_option maxRecDepth 100000 in
def m_setWind (σ : St) (p1 : Int32) (p2 : Int32) : Option (Int32 × St) :=
  Option.bind (m_in (Int32.toInt64 p1) (-99 : Int64) (99 : Int64)) fun x1 =>
  Jn (fun (_ : Unit) =>
  some ((-1000002 : Int32), σ)
  ) fun J2 =>
  if (x1 : Int32) = 0 then (
  J2 ()
  ) else (
  Option.bind (m_in (Int32.toInt64 p2) (-99 : Int64) (99 : Int64)) fun x3 =>
  if (x3 : Int32) = 0 then (
  J2 ()
  ) else (
  Lt (s2 σ 0 8 p1) fun σ4 =>
  Lt (s2 σ4 0 9 p2) fun σ5 =>
  Option.bind (m_clamps σ5) fun x6 =>
  some ((1 : Int32), x6)
  )
  )
set_option maxHeartbeats 4000000 in
set_option maxRecDepth 100000 in
theorem cM_setWind (l : Launch) (g : Ge) (hi : injB wM.2 g) (σ : St) (p1 : Int32) (p2 : Int32) (x : Int32 × St) (h : m_setWind σ p1 p2 = some x) : Ct l wM g yM_setWind qM_setWind 9 219 [.ref (g.1 0), .int p1, .int p2] σ (some (.int x.1), x.2) := by
  refine Ct.of (out := o_w) FM_setWind rfl hi rfl h (fun z hz C => ?_)
  clear h
  subst hz
  unfold m_setWind
  show Rt z qM_setWind wM g o_w 0 [(0, .ref (g.1 0)), (1, .int p1), (2, .int p2)] [] σ _
  refine q_iload_n (pc' := 1) C 1 d_M_setWind_0 rfl rfl ?_
  refine q_i2l (pc' := 2) C d_M_setWind_1 rfl ?_
  refine q_ldc2 (pc' := 5) C lLM_458 d_M_setWind_2 rfl ?_
  refine q_ldc2 (pc' := 8) C lLM_460 d_M_setWind_5 rfl ?_
  refine q_callSr (fr' := 0) (lo' := 0) (pc' := 11) C FM_in lmM_232 d_M_setWind_8 [.long (Int32.toInt64 p1), .long (-99 : Int64), .long (99 : Int64)] [] rfl rfl (Nat.le_of_ble_eq_true rfl) ⟨rfl, rfl⟩ (fun x h => cM_in _ g hi σ (Int32.toInt64 p1) (-99 : Int64) (99 : Int64) x h) rfl (fun x1 _ => ?_)
  refine q_join (fun J2 : Unit → Option (Int32 × St) => ∀ (_ : Unit), Rt z qM_setWind wM g o_w 28 [] [] σ (J2 ())) (fun _ => ?_) (fun J2 hJ2 => ?_)
  · refine q_ldcw (pc' := 31) C lcM_376 d_M_setWind_28 rfl ?_
    exact q_iret C rfl d_M_setWind_31 rfl
  refine q_if_eq (tgt := 28) (pc' := 14) C d_M_setWind_11 rfl rfl ?_ ?_
  · exact Rt.sub [] rfl (hJ2 ())
  · refine q_iload_n (pc' := 15) C 2 d_M_setWind_14 rfl rfl ?_
    refine q_i2l (pc' := 16) C d_M_setWind_15 rfl ?_
    refine q_ldc2 (pc' := 19) C lLM_458 d_M_setWind_16 rfl ?_
    refine q_ldc2 (pc' := 22) C lLM_460 d_M_setWind_19 rfl ?_
    refine q_callSr (fr' := 0) (lo' := 0) (pc' := 25) C FM_in lmM_232 d_M_setWind_22 [.long (Int32.toInt64 p2), .long (-99 : Int64), .long (99 : Int64)] [] rfl rfl (Nat.le_of_ble_eq_true rfl) ⟨rfl, rfl⟩ (fun x h => cM_in _ g hi σ (Int32.toInt64 p2) (-99 : Int64) (99 : Int64) x h) rfl (fun x3 _ => ?_)
    refine q_if_ne (tgt := 32) (pc' := 28) C d_M_setWind_25 rfl rfl ?_ ?_
    · refine q_aload_n (pc' := 33) C 0 d_M_setWind_32 rfl rfl ?_
      refine q_iload_n (pc' := 34) C 1 d_M_setWind_33 rfl rfl ?_
      refine pM_270 (pc' := 37) C d_M_setWind_34 rfl rfl ?_
      refine q_let (fun σ4 e4 => ?_)
      refine q_state e4 ?_
      refine q_aload_n (pc' := 38) C 0 d_M_setWind_37 rfl rfl ?_
      refine q_iload_n (pc' := 39) C 2 d_M_setWind_38 rfl rfl ?_
      refine pM_273 (pc' := 42) C d_M_setWind_39 rfl rfl ?_
      refine q_let (fun σ5 e5 => ?_)
      refine q_state e5 ?_
      refine q_aload_n (pc' := 43) C 0 d_M_setWind_42 rfl rfl ?_
      refine q_callVv (fr' := 8) (lo' := 199) (pc' := 46) C FM_clamps lmM_462 d_M_setWind_43 0 jM_0 kM_0 cM0 [] [] rfl rfl (Nat.le_of_ble_eq_true rfl) ⟨rfl, rfl⟩ (fun x h => cM_clamps _ g hi σ5 x h) rfl (fun x6 _ => ?_)
      refine q_iconst (pc' := 47) C d_M_setWind_46 ki_1 rfl ?_
      exact q_iret C rfl d_M_setWind_47 rfl
    · exact Rt.sub [] rfl (hJ2 ())
theorem d_M_setCruise_0 : decode qM_setCruise.1 0 = .ok (.iload_n 1, 1) := by decide +kernel
theorem d_M_setCruise_1 : decode qM_setCruise.1 1 = .ok (.i2l, 1) := by decide +kernel
theorem d_M_setCruise_2 : decode qM_setCruise.1 2 = .ok (.ldc2_w 245, 3) := by decide +kernel
theorem d_M_setCruise_5 : decode qM_setCruise.1 5 = .ok (.ldc2_w 465, 3) := by decide +kernel
theorem d_M_setCruise_8 : decode qM_setCruise.1 8 = .ok (.invokestatic 232, 3) := by decide +kernel
theorem d_M_setCruise_11 : decode qM_setCruise.1 11 = .ok (.ifCond .eq 17, 3) := by decide +kernel
theorem d_M_setCruise_14 : decode qM_setCruise.1 14 = .ok (.iload_n 2, 1) := by decide +kernel
theorem d_M_setCruise_15 : decode qM_setCruise.1 15 = .ok (.i2l, 1) := by decide +kernel
theorem d_M_setCruise_16 : decode qM_setCruise.1 16 = .ok (.ldc2_w 467, 3) := by decide +kernel
theorem d_M_setCruise_19 : decode qM_setCruise.1 19 = .ok (.ldc2_w 469, 3) := by decide +kernel
theorem d_M_setCruise_22 : decode qM_setCruise.1 22 = .ok (.invokestatic 232, 3) := by decide +kernel
theorem d_M_setCruise_25 : decode qM_setCruise.1 25 = .ok (.ifCond .ne 7, 3) := by decide +kernel
theorem d_M_setCruise_28 : decode qM_setCruise.1 28 = .ok (.ldc_w 376, 3) := by decide +kernel
theorem d_M_setCruise_31 : decode qM_setCruise.1 31 = .ok (.ireturn, 1) := by decide +kernel
theorem d_M_setCruise_32 : decode qM_setCruise.1 32 = .ok (.aload_n 0, 1) := by decide +kernel
theorem d_M_setCruise_33 : decode qM_setCruise.1 33 = .ok (.getfield 23, 3) := by decide +kernel
theorem d_M_setCruise_36 : decode qM_setCruise.1 36 = .ok (.istore_n 3, 1) := by decide +kernel
theorem d_M_setCruise_37 : decode qM_setCruise.1 37 = .ok (.aload_n 0, 1) := by decide +kernel
theorem d_M_setCruise_38 : decode qM_setCruise.1 38 = .ok (.iload_n 1, 1) := by decide +kernel
theorem d_M_setCruise_39 : decode qM_setCruise.1 39 = .ok (.putfield 23, 3) := by decide +kernel
theorem d_M_setCruise_42 : decode qM_setCruise.1 42 = .ok (.aload_n 0, 1) := by decide +kernel
theorem d_M_setCruise_43 : decode qM_setCruise.1 43 = .ok (.iload_n 2, 1) := by decide +kernel
theorem d_M_setCruise_44 : decode qM_setCruise.1 44 = .ok (.putfield 27, 3) := by decide +kernel
theorem d_M_setCruise_47 : decode qM_setCruise.1 47 = .ok (.aload_n 0, 1) := by decide +kernel
theorem d_M_setCruise_48 : decode qM_setCruise.1 48 = .ok (.invokevirtual 462, 3) := by decide +kernel
theorem d_M_setCruise_51 : decode qM_setCruise.1 51 = .ok (.iload_n 3, 1) := by decide +kernel
theorem d_M_setCruise_52 : decode qM_setCruise.1 52 = .ok (.ireturn, 1) := by decide +kernel
set_option maxRecDepth 100000 in
def m_setCruise (σ : St) (p1 : Int32) (p2 : Int32) : Option (Int32 × St) :=
  Option.bind (m_in (Int32.toInt64 p1) (10 : Int64) (450 : Int64)) fun x1 =>
  Jn (fun (_ : Unit) =>
  some ((-1000002 : Int32), σ)
  ) fun J2 =>
  if (x1 : Int32) = 0 then (
  J2 ()
  ) else (
  Option.bind (m_in (Int32.toInt64 p2) (100 : Int64) (500 : Int64)) fun x3 =>
  if (x3 : Int32) = 0 then (
  J2 ()
  ) else (
  Lt ((σ 0 10) : Int32) fun x4 =>
  Lt (s2 σ 0 10 p1) fun σ5 =>
  Lt (s2 σ5 0 11 p2) fun σ6 =>
  Option.bind (m_clamps σ6) fun x7 =>
  some (x4, x7)
  )
  )
set_option maxHeartbeats 4000000 in
set_option maxRecDepth 100000 in
theorem cM_setCruise (l : Launch) (g : Ge) (hi : injB wM.2 g) (σ : St) (p1 : Int32) (p2 : Int32) (x : Int32 × St) (h : m_setCruise σ p1 p2 = some x) : Ct l wM g yM_setCruise qM_setCruise 9 219 [.ref (g.1 0), .int p1, .int p2] σ (some (.int x.1), x.2) := by
  refine Ct.of (out := o_w) FM_setCruise rfl hi rfl h (fun z hz C => ?_)
  clear h
  subst hz
  unfold m_setCruise
  show Rt z qM_setCruise wM g o_w 0 [(0, .ref (g.1 0)), (1, .int p1), (2, .int p2)] [] σ _
  refine q_iload_n (pc' := 1) C 1 d_M_setCruise_0 rfl rfl ?_
  refine q_i2l (pc' := 2) C d_M_setCruise_1 rfl ?_
  refine q_ldc2 (pc' := 5) C lLM_245 d_M_setCruise_2 rfl ?_
  refine q_ldc2 (pc' := 8) C lLM_465 d_M_setCruise_5 rfl ?_
  refine q_callSr (fr' := 0) (lo' := 0) (pc' := 11) C FM_in lmM_232 d_M_setCruise_8 [.long (Int32.toInt64 p1), .long (10 : Int64), .long (450 : Int64)] [] rfl rfl (Nat.le_of_ble_eq_true rfl) ⟨rfl, rfl⟩ (fun x h => cM_in _ g hi σ (Int32.toInt64 p1) (10 : Int64) (450 : Int64) x h) rfl (fun x1 _ => ?_)
  refine q_join (fun J2 : Unit → Option (Int32 × St) => ∀ (_ : Unit), Rt z qM_setCruise wM g o_w 28 [] [] σ (J2 ())) (fun _ => ?_) (fun J2 hJ2 => ?_)
  · refine q_ldcw (pc' := 31) C lcM_376 d_M_setCruise_28 rfl ?_
    exact q_iret C rfl d_M_setCruise_31 rfl
  refine q_if_eq (tgt := 28) (pc' := 14) C d_M_setCruise_11 rfl rfl ?_ ?_
  · exact Rt.sub [] rfl (hJ2 ())
  · refine q_iload_n (pc' := 15) C 2 d_M_setCruise_14 rfl rfl ?_
    refine q_i2l (pc' := 16) C d_M_setCruise_15 rfl ?_
    refine q_ldc2 (pc' := 19) C lLM_467 d_M_setCruise_16 rfl ?_
    refine q_ldc2 (pc' := 22) C lLM_469 d_M_setCruise_19 rfl ?_
    refine q_callSr (fr' := 0) (lo' := 0) (pc' := 25) C FM_in lmM_232 d_M_setCruise_22 [.long (Int32.toInt64 p2), .long (100 : Int64), .long (500 : Int64)] [] rfl rfl (Nat.le_of_ble_eq_true rfl) ⟨rfl, rfl⟩ (fun x h => cM_in _ g hi σ (Int32.toInt64 p2) (100 : Int64) (500 : Int64) x h) rfl (fun x3 _ => ?_)
    refine q_if_ne (tgt := 32) (pc' := 28) C d_M_setCruise_25 rfl rfl ?_ ?_
    · refine q_aload_n (pc' := 33) C 0 d_M_setCruise_32 rfl rfl ?_
      refine gM_23 (pc' := 36) C d_M_setCruise_33 rfl rfl ?_
      refine q_let (fun x4 e4 => ?_)
      refine q_topi e4 ?_
      refine q_istore_n (pc' := 37) (lv' := [(3, .int x4), (0, .ref (g.1 0)), (1, .int p1), (2, .int p2)]) C d_M_setCruise_36 (by decide) rfl rfl ?_
      refine q_aload_n (pc' := 38) C 1 d_M_setCruise_37 rfl rfl ?_
      refine q_iload_n (pc' := 39) C 2 d_M_setCruise_38 rfl rfl ?_
      refine pM_23 (pc' := 42) C d_M_setCruise_39 rfl rfl ?_
      refine q_let (fun σ5 e5 => ?_)
      refine q_state e5 ?_
      refine q_aload_n (pc' := 43) C 1 d_M_setCruise_42 rfl rfl ?_
      refine q_iload_n (pc' := 44) C 3 d_M_setCruise_43 rfl rfl ?_
      refine pM_27 (pc' := 47) C d_M_setCruise_44 rfl rfl ?_
      refine q_let (fun σ6 e6 => ?_)
      refine q_state e6 ?_
      refine q_aload_n (pc' := 48) C 1 d_M_setCruise_47 rfl rfl ?_
      refine q_callVv (fr' := 8) (lo' := 199) (pc' := 51) C FM_clamps lmM_462 d_M_setCruise_48 0 jM_0 kM_0 cM0 [] [] rfl rfl (Nat.le_of_ble_eq_true rfl) ⟨rfl, rfl⟩ (fun x h => cM_clamps _ g hi σ6 x h) rfl (fun x7 _ => ?_)
      refine q_iload_n (pc' := 52) C 0 d_M_setCruise_51 rfl rfl ?_
      exact q_iret C rfl d_M_setCruise_52 rfl
    · exact Rt.sub [] rfl (hJ2 ())
theorem d_M_setGradients_0 : decode qM_setGradients.1 0 = .ok (.iload_n 1, 1) := by decide +kernel
theorem d_M_setGradients_1 : decode qM_setGradients.1 1 = .ok (.i2l, 1) := by decide +kernel
theorem d_M_setGradients_2 : decode qM_setGradients.1 2 = .ok (.ldc2_w 467, 3) := by decide +kernel
theorem d_M_setGradients_5 : decode qM_setGradients.1 5 = .ok (.ldc2_w 471, 3) := by decide +kernel
theorem d_M_setGradients_8 : decode qM_setGradients.1 8 = .ok (.invokestatic 232, 3) := by decide +kernel
theorem d_M_setGradients_11 : decode qM_setGradients.1 11 = .ok (.ifCond .eq 31, 3) := by decide +kernel
theorem d_M_setGradients_14 : decode qM_setGradients.1 14 = .ok (.iload_n 2, 1) := by decide +kernel
theorem d_M_setGradients_15 : decode qM_setGradients.1 15 = .ok (.i2l, 1) := by decide +kernel
theorem d_M_setGradients_16 : decode qM_setGradients.1 16 = .ok (.ldc2_w 467, 3) := by decide +kernel
theorem d_M_setGradients_19 : decode qM_setGradients.1 19 = .ok (.ldc2_w 471, 3) := by decide +kernel
theorem d_M_setGradients_22 : decode qM_setGradients.1 22 = .ok (.invokestatic 232, 3) := by decide +kernel
theorem d_M_setGradients_25 : decode qM_setGradients.1 25 = .ok (.ifCond .eq 17, 3) := by decide +kernel
theorem d_M_setGradients_28 : decode qM_setGradients.1 28 = .ok (.iload_n 3, 1) := by decide +kernel
theorem d_M_setGradients_29 : decode qM_setGradients.1 29 = .ok (.i2l, 1) := by decide +kernel
theorem d_M_setGradients_30 : decode qM_setGradients.1 30 = .ok (.ldc2_w 467, 3) := by decide +kernel
theorem d_M_setGradients_33 : decode qM_setGradients.1 33 = .ok (.ldc2_w 471, 3) := by decide +kernel
theorem d_M_setGradients_36 : decode qM_setGradients.1 36 = .ok (.invokestatic 232, 3) := by decide +kernel
theorem d_M_setGradients_39 : decode qM_setGradients.1 39 = .ok (.ifCond .ne 7, 3) := by decide +kernel
theorem d_M_setGradients_42 : decode qM_setGradients.1 42 = .ok (.ldc_w 376, 3) := by decide +kernel
theorem d_M_setGradients_45 : decode qM_setGradients.1 45 = .ok (.ireturn, 1) := by decide +kernel
theorem d_M_setGradients_46 : decode qM_setGradients.1 46 = .ok (.aload_n 0, 1) := by decide +kernel
theorem d_M_setGradients_47 : decode qM_setGradients.1 47 = .ok (.getfield 30, 3) := by decide +kernel
theorem d_M_setGradients_50 : decode qM_setGradients.1 50 = .ok (.istore 4, 2) := by decide +kernel
theorem d_M_setGradients_52 : decode qM_setGradients.1 52 = .ok (.aload_n 0, 1) := by decide +kernel
theorem d_M_setGradients_53 : decode qM_setGradients.1 53 = .ok (.iload_n 1, 1) := by decide +kernel
theorem d_M_setGradients_54 : decode qM_setGradients.1 54 = .ok (.putfield 30, 3) := by decide +kernel
theorem d_M_setGradients_57 : decode qM_setGradients.1 57 = .ok (.aload_n 0, 1) := by decide +kernel
theorem d_M_setGradients_58 : decode qM_setGradients.1 58 = .ok (.iload_n 2, 1) := by decide +kernel
theorem d_M_setGradients_59 : decode qM_setGradients.1 59 = .ok (.putfield 33, 3) := by decide +kernel
theorem d_M_setGradients_62 : decode qM_setGradients.1 62 = .ok (.aload_n 0, 1) := by decide +kernel
theorem d_M_setGradients_63 : decode qM_setGradients.1 63 = .ok (.iload_n 3, 1) := by decide +kernel
theorem d_M_setGradients_64 : decode qM_setGradients.1 64 = .ok (.putfield 36, 3) := by decide +kernel
theorem d_M_setGradients_67 : decode qM_setGradients.1 67 = .ok (.aload_n 0, 1) := by decide +kernel
theorem d_M_setGradients_68 : decode qM_setGradients.1 68 = .ok (.invokevirtual 462, 3) := by decide +kernel
theorem d_M_setGradients_71 : decode qM_setGradients.1 71 = .ok (.iload 4, 2) := by decide +kernel
theorem d_M_setGradients_73 : decode qM_setGradients.1 73 = .ok (.ireturn, 1) := by decide +kernel
set_option maxRecDepth 100000 in
def m_setGradients (σ : St) (p1 : Int32) (p2 : Int32) (p3 : Int32) : Option (Int32 × St) :=
  Option.bind (m_in (Int32.toInt64 p1) (100 : Int64) (900 : Int64)) fun x1 =>
  Jn (fun (_ : Unit) =>
  some ((-1000002 : Int32), σ)
  ) fun J2 =>
  if (x1 : Int32) = 0 then (
  J2 ()
  ) else (
  Option.bind (m_in (Int32.toInt64 p2) (100 : Int64) (900 : Int64)) fun x3 =>
  if (x3 : Int32) = 0 then (
  J2 ()
  ) else (
  Option.bind (m_in (Int32.toInt64 p3) (100 : Int64) (900 : Int64)) fun x4 =>
  if (x4 : Int32) = 0 then (
  J2 ()
  ) else (
  Lt ((σ 0 12) : Int32) fun x5 =>
  Lt (s2 σ 0 12 p1) fun σ6 =>
  Lt (s2 σ6 0 13 p2) fun σ7 =>
  Lt (s2 σ7 0 14 p3) fun σ8 =>
  Option.bind (m_clamps σ8) fun x9 =>
  some (x5, x9)
  )
  )
  )
set_option maxHeartbeats 4000000 in
set_option maxRecDepth 100000 in
theorem cM_setGradients (l : Launch) (g : Ge) (hi : injB wM.2 g) (σ : St) (p1 : Int32) (p2 : Int32) (p3 : Int32) (x : Int32 × St) (h : m_setGradients σ p1 p2 p3 = some x) : Ct l wM g yM_setGradients qM_setGradients 9 219 [.ref (g.1 0), .int p1, .int p2, .int p3] σ (some (.int x.1), x.2) := by
  refine Ct.of (out := o_w) FM_setGradients rfl hi rfl h (fun z hz C => ?_)
  clear h
  subst hz
  unfold m_setGradients
  show Rt z qM_setGradients wM g o_w 0 [(0, .ref (g.1 0)), (1, .int p1), (2, .int p2), (3, .int p3)] [] σ _
  refine q_iload_n (pc' := 1) C 1 d_M_setGradients_0 rfl rfl ?_
  refine q_i2l (pc' := 2) C d_M_setGradients_1 rfl ?_
  refine q_ldc2 (pc' := 5) C lLM_467 d_M_setGradients_2 rfl ?_
  refine q_ldc2 (pc' := 8) C lLM_471 d_M_setGradients_5 rfl ?_
  refine q_callSr (fr' := 0) (lo' := 0) (pc' := 11) C FM_in lmM_232 d_M_setGradients_8 [.long (Int32.toInt64 p1), .long (100 : Int64), .long (900 : Int64)] [] rfl rfl (Nat.le_of_ble_eq_true rfl) ⟨rfl, rfl⟩ (fun x h => cM_in _ g hi σ (Int32.toInt64 p1) (100 : Int64) (900 : Int64) x h) rfl (fun x1 _ => ?_)
  refine q_join (fun J2 : Unit → Option (Int32 × St) => ∀ (_ : Unit), Rt z qM_setGradients wM g o_w 42 [] [] σ (J2 ())) (fun _ => ?_) (fun J2 hJ2 => ?_)
  · refine q_ldcw (pc' := 45) C lcM_376 d_M_setGradients_42 rfl ?_
    exact q_iret C rfl d_M_setGradients_45 rfl
  refine q_if_eq (tgt := 42) (pc' := 14) C d_M_setGradients_11 rfl rfl ?_ ?_
  · exact Rt.sub [] rfl (hJ2 ())
  · refine q_iload_n (pc' := 15) C 2 d_M_setGradients_14 rfl rfl ?_
    refine q_i2l (pc' := 16) C d_M_setGradients_15 rfl ?_
    refine q_ldc2 (pc' := 19) C lLM_467 d_M_setGradients_16 rfl ?_
    refine q_ldc2 (pc' := 22) C lLM_471 d_M_setGradients_19 rfl ?_
    refine q_callSr (fr' := 0) (lo' := 0) (pc' := 25) C FM_in lmM_232 d_M_setGradients_22 [.long (Int32.toInt64 p2), .long (100 : Int64), .long (900 : Int64)] [] rfl rfl (Nat.le_of_ble_eq_true rfl) ⟨rfl, rfl⟩ (fun x h => cM_in _ g hi σ (Int32.toInt64 p2) (100 : Int64) (900 : Int64) x h) rfl (fun x3 _ => ?_)
    refine q_if_eq (tgt := 42) (pc' := 28) C d_M_setGradients_25 rfl rfl ?_ ?_
    · exact Rt.sub [] rfl (hJ2 ())
    · refine q_iload_n (pc' := 29) C 3 d_M_setGradients_28 rfl rfl ?_
      refine q_i2l (pc' := 30) C d_M_setGradients_29 rfl ?_
      refine q_ldc2 (pc' := 33) C lLM_467 d_M_setGradients_30 rfl ?_
      refine q_ldc2 (pc' := 36) C lLM_471 d_M_setGradients_33 rfl ?_
      refine q_callSr (fr' := 0) (lo' := 0) (pc' := 39) C FM_in lmM_232 d_M_setGradients_36 [.long (Int32.toInt64 p3), .long (100 : Int64), .long (900 : Int64)] [] rfl rfl (Nat.le_of_ble_eq_true rfl) ⟨rfl, rfl⟩ (fun x h => cM_in _ g hi σ (Int32.toInt64 p3) (100 : Int64) (900 : Int64) x h) rfl (fun x4 _ => ?_)
      refine q_if_ne (tgt := 46) (pc' := 42) C d_M_setGradients_39 rfl rfl ?_ ?_
      · refine q_aload_n (pc' := 47) C 0 d_M_setGradients_46 rfl rfl ?_
        refine gM_30 (pc' := 50) C d_M_setGradients_47 rfl rfl ?_
        refine q_let (fun x5 e5 => ?_)
        refine q_topi e5 ?_
        refine q_istore (pc' := 52) (lv' := [(4, .int x5), (0, .ref (g.1 0)), (1, .int p1), (2, .int p2), (3, .int p3)]) C d_M_setGradients_50 (by decide) rfl rfl ?_
        refine q_aload_n (pc' := 53) C 1 d_M_setGradients_52 rfl rfl ?_
        refine q_iload_n (pc' := 54) C 2 d_M_setGradients_53 rfl rfl ?_
        refine pM_30 (pc' := 57) C d_M_setGradients_54 rfl rfl ?_
        refine q_let (fun σ6 e6 => ?_)
        refine q_state e6 ?_
        refine q_aload_n (pc' := 58) C 1 d_M_setGradients_57 rfl rfl ?_
        refine q_iload_n (pc' := 59) C 3 d_M_setGradients_58 rfl rfl ?_
        refine pM_33 (pc' := 62) C d_M_setGradients_59 rfl rfl ?_
        refine q_let (fun σ7 e7 => ?_)
        refine q_state e7 ?_
        refine q_aload_n (pc' := 63) C 1 d_M_setGradients_62 rfl rfl ?_
        refine q_iload_n (pc' := 64) C 4 d_M_setGradients_63 rfl rfl ?_
        refine pM_36 (pc' := 67) C d_M_setGradients_64 rfl rfl ?_
        refine q_let (fun σ8 e8 => ?_)
        refine q_state e8 ?_
        refine q_aload_n (pc' := 68) C 1 d_M_setGradients_67 rfl rfl ?_
        refine q_callVv (fr' := 8) (lo' := 199) (pc' := 71) C FM_clamps lmM_462 d_M_setGradients_68 0 jM_0 kM_0 cM0 [] [] rfl rfl (Nat.le_of_ble_eq_true rfl) ⟨rfl, rfl⟩ (fun x h => cM_clamps _ g hi σ8 x h) rfl (fun x9 _ => ?_)
        refine q_iload (pc' := 73) C 0 d_M_setGradients_71 rfl rfl ?_
        exact q_iret C rfl d_M_setGradients_73 rfl
      · exact Rt.sub [] rfl (hJ2 ())
theorem d_M_setEnds_0 : decode qM_setEnds.1 0 = .ok (.iload_n 1, 1) := by decide +kernel
theorem d_M_setEnds_1 : decode qM_setEnds.1 1 = .ok (.i2l, 1) := by decide +kernel
theorem d_M_setEnds_2 : decode qM_setEnds.1 2 = .ok (.lconst 0, 1) := by decide +kernel
theorem d_M_setEnds_3 : decode qM_setEnds.1 3 = .ok (.ldc2_w 465, 3) := by decide +kernel
theorem d_M_setEnds_6 : decode qM_setEnds.1 6 = .ok (.invokestatic 232, 3) := by decide +kernel
theorem d_M_setEnds_9 : decode qM_setEnds.1 9 = .ok (.ifCond .eq 15, 3) := by decide +kernel
theorem d_M_setEnds_12 : decode qM_setEnds.1 12 = .ok (.iload_n 2, 1) := by decide +kernel
theorem d_M_setEnds_13 : decode qM_setEnds.1 13 = .ok (.i2l, 1) := by decide +kernel
theorem d_M_setEnds_14 : decode qM_setEnds.1 14 = .ok (.lconst 0, 1) := by decide +kernel
theorem d_M_setEnds_15 : decode qM_setEnds.1 15 = .ok (.ldc2_w 465, 3) := by decide +kernel
theorem d_M_setEnds_18 : decode qM_setEnds.1 18 = .ok (.invokestatic 232, 3) := by decide +kernel
theorem d_M_setEnds_21 : decode qM_setEnds.1 21 = .ok (.ifCond .ne 7, 3) := by decide +kernel
theorem d_M_setEnds_24 : decode qM_setEnds.1 24 = .ok (.ldc_w 376, 3) := by decide +kernel
theorem d_M_setEnds_27 : decode qM_setEnds.1 27 = .ok (.ireturn, 1) := by decide +kernel
theorem d_M_setEnds_28 : decode qM_setEnds.1 28 = .ok (.aload_n 0, 1) := by decide +kernel
theorem d_M_setEnds_29 : decode qM_setEnds.1 29 = .ok (.getfield 257, 3) := by decide +kernel
theorem d_M_setEnds_32 : decode qM_setEnds.1 32 = .ok (.istore_n 3, 1) := by decide +kernel
theorem d_M_setEnds_33 : decode qM_setEnds.1 33 = .ok (.aload_n 0, 1) := by decide +kernel
theorem d_M_setEnds_34 : decode qM_setEnds.1 34 = .ok (.iload_n 1, 1) := by decide +kernel
theorem d_M_setEnds_35 : decode qM_setEnds.1 35 = .ok (.putfield 257, 3) := by decide +kernel
theorem d_M_setEnds_38 : decode qM_setEnds.1 38 = .ok (.aload_n 0, 1) := by decide +kernel
theorem d_M_setEnds_39 : decode qM_setEnds.1 39 = .ok (.iload_n 2, 1) := by decide +kernel
theorem d_M_setEnds_40 : decode qM_setEnds.1 40 = .ok (.putfield 347, 3) := by decide +kernel
theorem d_M_setEnds_43 : decode qM_setEnds.1 43 = .ok (.aload_n 0, 1) := by decide +kernel
theorem d_M_setEnds_44 : decode qM_setEnds.1 44 = .ok (.invokevirtual 462, 3) := by decide +kernel
theorem d_M_setEnds_47 : decode qM_setEnds.1 47 = .ok (.iload_n 3, 1) := by decide +kernel
theorem d_M_setEnds_48 : decode qM_setEnds.1 48 = .ok (.ireturn, 1) := by decide +kernel
set_option maxRecDepth 100000 in
def m_setEnds (σ : St) (p1 : Int32) (p2 : Int32) : Option (Int32 × St) :=
  Option.bind (m_in (Int32.toInt64 p1) (0 : Int64) (450 : Int64)) fun x1 =>
  Jn (fun (_ : Unit) =>
  some ((-1000002 : Int32), σ)
  ) fun J2 =>
  if (x1 : Int32) = 0 then (
  J2 ()
  ) else (
  Option.bind (m_in (Int32.toInt64 p2) (0 : Int64) (450 : Int64)) fun x3 =>
  if (x3 : Int32) = 0 then (
  J2 ()
  ) else (
  Lt ((σ 0 15) : Int32) fun x4 =>
  Lt (s2 σ 0 15 p1) fun σ5 =>
  Lt (s2 σ5 0 16 p2) fun σ6 =>
  Option.bind (m_clamps σ6) fun x7 =>
  some (x4, x7)
  )
  )
set_option maxHeartbeats 4000000 in
set_option maxRecDepth 100000 in
theorem cM_setEnds (l : Launch) (g : Ge) (hi : injB wM.2 g) (σ : St) (p1 : Int32) (p2 : Int32) (x : Int32 × St) (h : m_setEnds σ p1 p2 = some x) : Ct l wM g yM_setEnds qM_setEnds 9 219 [.ref (g.1 0), .int p1, .int p2] σ (some (.int x.1), x.2) := by
  refine Ct.of (out := o_w) FM_setEnds rfl hi rfl h (fun z hz C => ?_)
  clear h
  subst hz
  unfold m_setEnds
  show Rt z qM_setEnds wM g o_w 0 [(0, .ref (g.1 0)), (1, .int p1), (2, .int p2)] [] σ _
  refine q_iload_n (pc' := 1) C 1 d_M_setEnds_0 rfl rfl ?_
  refine q_i2l (pc' := 2) C d_M_setEnds_1 rfl ?_
  refine q_lconst (pc' := 3) C d_M_setEnds_2 kl_0 rfl ?_
  refine q_ldc2 (pc' := 6) C lLM_465 d_M_setEnds_3 rfl ?_
  refine q_callSr (fr' := 0) (lo' := 0) (pc' := 9) C FM_in lmM_232 d_M_setEnds_6 [.long (Int32.toInt64 p1), .long (0 : Int64), .long (450 : Int64)] [] rfl rfl (Nat.le_of_ble_eq_true rfl) ⟨rfl, rfl⟩ (fun x h => cM_in _ g hi σ (Int32.toInt64 p1) (0 : Int64) (450 : Int64) x h) rfl (fun x1 _ => ?_)
  refine q_join (fun J2 : Unit → Option (Int32 × St) => ∀ (_ : Unit), Rt z qM_setEnds wM g o_w 24 [] [] σ (J2 ())) (fun _ => ?_) (fun J2 hJ2 => ?_)
  · refine q_ldcw (pc' := 27) C lcM_376 d_M_setEnds_24 rfl ?_
    exact q_iret C rfl d_M_setEnds_27 rfl
  refine q_if_eq (tgt := 24) (pc' := 12) C d_M_setEnds_9 rfl rfl ?_ ?_
  · exact Rt.sub [] rfl (hJ2 ())
  · refine q_iload_n (pc' := 13) C 2 d_M_setEnds_12 rfl rfl ?_
    refine q_i2l (pc' := 14) C d_M_setEnds_13 rfl ?_
    refine q_lconst (pc' := 15) C d_M_setEnds_14 kl_0 rfl ?_
    refine q_ldc2 (pc' := 18) C lLM_465 d_M_setEnds_15 rfl ?_
    refine q_callSr (fr' := 0) (lo' := 0) (pc' := 21) C FM_in lmM_232 d_M_setEnds_18 [.long (Int32.toInt64 p2), .long (0 : Int64), .long (450 : Int64)] [] rfl rfl (Nat.le_of_ble_eq_true rfl) ⟨rfl, rfl⟩ (fun x h => cM_in _ g hi σ (Int32.toInt64 p2) (0 : Int64) (450 : Int64) x h) rfl (fun x3 _ => ?_)
    refine q_if_ne (tgt := 28) (pc' := 24) C d_M_setEnds_21 rfl rfl ?_ ?_
    · refine q_aload_n (pc' := 29) C 0 d_M_setEnds_28 rfl rfl ?_
      refine gM_257 (pc' := 32) C d_M_setEnds_29 rfl rfl ?_
      refine q_let (fun x4 e4 => ?_)
      refine q_topi e4 ?_
      refine q_istore_n (pc' := 33) (lv' := [(3, .int x4), (0, .ref (g.1 0)), (1, .int p1), (2, .int p2)]) C d_M_setEnds_32 (by decide) rfl rfl ?_
      refine q_aload_n (pc' := 34) C 1 d_M_setEnds_33 rfl rfl ?_
      refine q_iload_n (pc' := 35) C 2 d_M_setEnds_34 rfl rfl ?_
      refine pM_257 (pc' := 38) C d_M_setEnds_35 rfl rfl ?_
      refine q_let (fun σ5 e5 => ?_)
      refine q_state e5 ?_
      refine q_aload_n (pc' := 39) C 1 d_M_setEnds_38 rfl rfl ?_
      refine q_iload_n (pc' := 40) C 3 d_M_setEnds_39 rfl rfl ?_
      refine pM_347 (pc' := 43) C d_M_setEnds_40 rfl rfl ?_
      refine q_let (fun σ6 e6 => ?_)
      refine q_state e6 ?_
      refine q_aload_n (pc' := 44) C 1 d_M_setEnds_43 rfl rfl ?_
      refine q_callVv (fr' := 8) (lo' := 199) (pc' := 47) C FM_clamps lmM_462 d_M_setEnds_44 0 jM_0 kM_0 cM0 [] [] rfl rfl (Nat.le_of_ble_eq_true rfl) ⟨rfl, rfl⟩ (fun x h => cM_clamps _ g hi σ6 x h) rfl (fun x7 _ => ?_)
      refine q_iload_n (pc' := 48) C 0 d_M_setEnds_47 rfl rfl ?_
      exact q_iret C rfl d_M_setEnds_48 rfl
    · exact Rt.sub [] rfl (hJ2 ())
theorem d_M_edited_0 : decode qM_edited.1 0 = .ok (.aload_n 0, 1) := by decide +kernel
theorem d_M_edited_1 : decode qM_edited.1 1 = .ok (.getfield 473, 3) := by decide +kernel
theorem d_M_edited_4 : decode qM_edited.1 4 = .ok (.ifCond .eq 9, 3) := by decide +kernel
theorem d_M_edited_7 : decode qM_edited.1 7 = .ok (.sipush 297, 3) := by decide +kernel
theorem d_M_edited_10 : decode qM_edited.1 10 = .ok (.goto 4, 3) := by decide +kernel
theorem d_M_edited_13 : decode qM_edited.1 13 = .ok (.iconst 0, 1) := by decide +kernel
theorem d_M_edited_14 : decode qM_edited.1 14 = .ok (.ireturn, 1) := by decide +kernel
set_option maxRecDepth 100000 in
def m_edited (σ : St) : Option (Int32) :=
  Jn (fun (x1 : Int32) =>
  some x1
  ) fun J2 =>
  if ((σ 0 1) : Int32) = 0 then (
  J2 (0 : Int32)
  ) else (
  J2 (297 : Int32)
  )
set_option maxHeartbeats 4000000 in
set_option maxRecDepth 100000 in
theorem cM_edited (l : Launch) (g : Ge) (hi : injB wM.2 g) (σ : St) (x : Int32) (h : m_edited σ = some x) : Ct l wM g yM_edited qM_edited 0 0 [.ref (g.1 0)] σ (some (.int x), σ) := by
  refine Ct.of (out := (o_r σ)) FM_edited rfl hi rfl h (fun z hz C => ?_)
  clear h
  subst hz
  unfold m_edited
  show Rt z qM_edited wM g (o_r σ) 0 [(0, .ref (g.1 0))] [] σ _
  refine q_aload_n (pc' := 1) C 0 d_M_edited_0 rfl rfl ?_
  refine gM_473 (pc' := 4) C d_M_edited_1 rfl rfl ?_
  refine q_join (fun J2 : Int32 → Option (Int32) => ∀ (x1 : Int32), Rt z qM_edited wM g (o_r σ) 14 [] [.int x1] σ (J2 x1)) (fun x1 => ?_) (fun J2 hJ2 => ?_)
  · exact q_iret C rfl d_M_edited_14 rfl
  refine q_if_eq (tgt := 13) (pc' := 7) C d_M_edited_4 rfl rfl ?_ ?_
  · refine q_iconst (pc' := 14) C d_M_edited_13 ki_0 rfl ?_
    exact Rt.sub [] rfl (hJ2 (0 : Int32))
  · refine q_sipush (pc' := 10) C d_M_edited_7 ks_297 rfl ?_
    refine q_goto (tgt := 14) C d_M_edited_10 rfl ?_
    exact Rt.sub [] rfl (hJ2 (297 : Int32))
theorem d_M_begins_0 : decode qM_begins.1 0 = .ok (.aload_n 0, 1) := by decide +kernel
theorem d_M_begins_1 : decode qM_begins.1 1 = .ok (.getfield 477, 3) := by decide +kernel
theorem d_M_begins_4 : decode qM_begins.1 4 = .ok (.bipush 6, 2) := by decide +kernel
theorem d_M_begins_6 : decode qM_begins.1 6 = .ok (.if_icmp .ne 73, 3) := by decide +kernel
theorem d_M_begins_9 : decode qM_begins.1 9 = .ok (.sipush 891, 3) := by decide +kernel
theorem d_M_begins_12 : decode qM_begins.1 12 = .ok (.istore_n 1, 1) := by decide +kernel
theorem d_M_begins_13 : decode qM_begins.1 13 = .ok (.iload_n 1, 1) := by decide +kernel
theorem d_M_begins_14 : decode qM_begins.1 14 = .ok (.sipush 2376, 3) := by decide +kernel
theorem d_M_begins_17 : decode qM_begins.1 17 = .ok (.if_icmp .ge 25, 3) := by decide +kernel
theorem d_M_begins_20 : decode qM_begins.1 20 = .ok (.aload_n 0, 1) := by decide +kernel
theorem d_M_begins_21 : decode qM_begins.1 21 = .ok (.getfield 7, 3) := by decide +kernel
theorem d_M_begins_24 : decode qM_begins.1 24 = .ok (.iload_n 1, 1) := by decide +kernel
theorem d_M_begins_25 : decode qM_begins.1 25 = .ok (.aload_n 0, 1) := by decide +kernel
theorem d_M_begins_26 : decode qM_begins.1 26 = .ok (.getfield 7, 3) := by decide +kernel
theorem d_M_begins_29 : decode qM_begins.1 29 = .ok (.iload_n 1, 1) := by decide +kernel
theorem d_M_begins_30 : decode qM_begins.1 30 = .ok (.sipush 297, 3) := by decide +kernel
theorem d_M_begins_33 : decode qM_begins.1 33 = .ok (.iadd, 1) := by decide +kernel
theorem d_M_begins_34 : decode qM_begins.1 34 = .ok (.iaload, 1) := by decide +kernel
theorem d_M_begins_35 : decode qM_begins.1 35 = .ok (.iastore, 1) := by decide +kernel
theorem d_M_begins_36 : decode qM_begins.1 36 = .ok (.iinc 1 1, 3) := by decide +kernel
theorem d_M_begins_39 : decode qM_begins.1 39 = .ok (.goto (-26), 3) := by decide +kernel
theorem d_M_begins_42 : decode qM_begins.1 42 = .ok (.iconst 0, 1) := by decide +kernel
theorem d_M_begins_43 : decode qM_begins.1 43 = .ok (.istore_n 1, 1) := by decide +kernel
theorem d_M_begins_44 : decode qM_begins.1 44 = .ok (.iload_n 1, 1) := by decide +kernel
theorem d_M_begins_45 : decode qM_begins.1 45 = .ok (.iconst 5, 1) := by decide +kernel
theorem d_M_begins_46 : decode qM_begins.1 46 = .ok (.if_icmp .ge 23, 3) := by decide +kernel
theorem d_M_begins_49 : decode qM_begins.1 49 = .ok (.aload_n 0, 1) := by decide +kernel
theorem d_M_begins_50 : decode qM_begins.1 50 = .ok (.getfield 13, 3) := by decide +kernel
theorem d_M_begins_53 : decode qM_begins.1 53 = .ok (.iload_n 1, 1) := by decide +kernel
theorem d_M_begins_54 : decode qM_begins.1 54 = .ok (.aload_n 0, 1) := by decide +kernel
theorem d_M_begins_55 : decode qM_begins.1 55 = .ok (.getfield 13, 3) := by decide +kernel
theorem d_M_begins_58 : decode qM_begins.1 58 = .ok (.iload_n 1, 1) := by decide +kernel
theorem d_M_begins_59 : decode qM_begins.1 59 = .ok (.iconst 1, 1) := by decide +kernel
theorem d_M_begins_60 : decode qM_begins.1 60 = .ok (.iadd, 1) := by decide +kernel
theorem d_M_begins_61 : decode qM_begins.1 61 = .ok (.baload, 1) := by decide +kernel
theorem d_M_begins_62 : decode qM_begins.1 62 = .ok (.bastore, 1) := by decide +kernel
theorem d_M_begins_63 : decode qM_begins.1 63 = .ok (.iinc 1 1, 3) := by decide +kernel
theorem d_M_begins_66 : decode qM_begins.1 66 = .ok (.goto (-22), 3) := by decide +kernel
theorem d_M_begins_69 : decode qM_begins.1 69 = .ok (.aload_n 0, 1) := by decide +kernel
theorem d_M_begins_70 : decode qM_begins.1 70 = .ok (.dup, 1) := by decide +kernel
theorem d_M_begins_71 : decode qM_begins.1 71 = .ok (.getfield 477, 3) := by decide +kernel
theorem d_M_begins_74 : decode qM_begins.1 74 = .ok (.iconst 1, 1) := by decide +kernel
theorem d_M_begins_75 : decode qM_begins.1 75 = .ok (.isub, 1) := by decide +kernel
theorem d_M_begins_76 : decode qM_begins.1 76 = .ok (.putfield 477, 3) := by decide +kernel
theorem d_M_begins_79 : decode qM_begins.1 79 = .ok (.aload_n 0, 1) := by decide +kernel
theorem d_M_begins_80 : decode qM_begins.1 80 = .ok (.sipush 297, 3) := by decide +kernel
theorem d_M_begins_83 : decode qM_begins.1 83 = .ok (.sipush 891, 3) := by decide +kernel
theorem d_M_begins_86 : decode qM_begins.1 86 = .ok (.sipush 297, 3) := by decide +kernel
theorem d_M_begins_89 : decode qM_begins.1 89 = .ok (.aload_n 0, 1) := by decide +kernel
theorem d_M_begins_90 : decode qM_begins.1 90 = .ok (.getfield 477, 3) := by decide +kernel
theorem d_M_begins_93 : decode qM_begins.1 93 = .ok (.imul, 1) := by decide +kernel
theorem d_M_begins_94 : decode qM_begins.1 94 = .ok (.iadd, 1) := by decide +kernel
theorem d_M_begins_95 : decode qM_begins.1 95 = .ok (.invokevirtual 480, 3) := by decide +kernel
theorem d_M_begins_98 : decode qM_begins.1 98 = .ok (.aload_n 0, 1) := by decide +kernel
theorem d_M_begins_99 : decode qM_begins.1 99 = .ok (.getfield 13, 3) := by decide +kernel
theorem d_M_begins_102 : decode qM_begins.1 102 = .ok (.aload_n 0, 1) := by decide +kernel
theorem d_M_begins_103 : decode qM_begins.1 103 = .ok (.getfield 477, 3) := by decide +kernel
theorem d_M_begins_106 : decode qM_begins.1 106 = .ok (.aload_n 0, 1) := by decide +kernel
theorem d_M_begins_107 : decode qM_begins.1 107 = .ok (.getfield 473, 3) := by decide +kernel
theorem d_M_begins_110 : decode qM_begins.1 110 = .ok (.bastore, 1) := by decide +kernel
theorem d_M_begins_111 : decode qM_begins.1 111 = .ok (.aload_n 0, 1) := by decide +kernel
theorem d_M_begins_112 : decode qM_begins.1 112 = .ok (.dup, 1) := by decide +kernel
theorem d_M_begins_113 : decode qM_begins.1 113 = .ok (.getfield 477, 3) := by decide +kernel
theorem d_M_begins_116 : decode qM_begins.1 116 = .ok (.iconst 1, 1) := by decide +kernel
theorem d_M_begins_117 : decode qM_begins.1 117 = .ok (.iadd, 1) := by decide +kernel
theorem d_M_begins_118 : decode qM_begins.1 118 = .ok (.putfield 477, 3) := by decide +kernel
theorem d_M_begins_121 : decode qM_begins.1 121 = .ok (.aload_n 0, 1) := by decide +kernel
theorem d_M_begins_122 : decode qM_begins.1 122 = .ok (.getfield 473, 3) := by decide +kernel
theorem d_M_begins_125 : decode qM_begins.1 125 = .ok (.ifCond .ne 25, 3) := by decide +kernel
theorem d_M_begins_128 : decode qM_begins.1 128 = .ok (.aload_n 0, 1) := by decide +kernel
theorem d_M_begins_129 : decode qM_begins.1 129 = .ok (.iconst 0, 1) := by decide +kernel
theorem d_M_begins_130 : decode qM_begins.1 130 = .ok (.sipush 297, 3) := by decide +kernel
theorem d_M_begins_133 : decode qM_begins.1 133 = .ok (.invokevirtual 480, 3) := by decide +kernel
theorem d_M_begins_136 : decode qM_begins.1 136 = .ok (.aload_n 0, 1) := by decide +kernel
theorem d_M_begins_137 : decode qM_begins.1 137 = .ok (.getfield 7, 3) := by decide +kernel
theorem d_M_begins_140 : decode qM_begins.1 140 = .ok (.sipush 299, 3) := by decide +kernel
theorem d_M_begins_143 : decode qM_begins.1 143 = .ok (.iconst 0, 1) := by decide +kernel
theorem d_M_begins_144 : decode qM_begins.1 144 = .ok (.iastore, 1) := by decide +kernel
theorem d_M_begins_145 : decode qM_begins.1 145 = .ok (.aload_n 0, 1) := by decide +kernel
theorem d_M_begins_146 : decode qM_begins.1 146 = .ok (.iconst 1, 1) := by decide +kernel
theorem d_M_begins_147 : decode qM_begins.1 147 = .ok (.putfield 473, 3) := by decide +kernel
theorem d_M_begins_150 : decode qM_begins.1 150 = .ok (.return_, 1) := by decide +kernel
set_option maxRecDepth 100000 in
def lb_m_begins_44 (J14 : St → Option (St)) (ih17 : Int32 × St → Option (St)) (a16 : Int32 × St) : Option (St) :=
  if ((5 : Int32) : Int32) ≤ a16.1 then (
  J14 a16.2
  ) else (
  Gd (Ix (a16.1 + (1 : Int32)) 6) <|
  Gd (Ix a16.1 6) <|
  Lt (s2 a16.2 2 (Int32.toNatClampNeg a16.1) ((a16.2 2 (Int32.toNatClampNeg (a16.1 + (1 : Int32)))) &&& 1)) fun σ18 =>
  Lt (a16.1 + (1 : Int32) : Int32) fun x19 =>
  ih17 (x19, σ18)
  )
set_option maxRecDepth 100000 in
def lb_m_begins_13 (J12 : St → Option (St)) (ih21 : Int32 × St → Option (St)) (a20 : Int32 × St) : Option (St) :=
  if ((2376 : Int32) : Int32) ≤ a20.1 then (
  J12 a20.2
  ) else (
  Gd (Ix (a20.1 + (297 : Int32)) 2673) <|
  Gd (Ix a20.1 2673) <|
  Lt (s2 a20.2 1 (Int32.toNatClampNeg a20.1) (a20.2 1 (Int32.toNatClampNeg (a20.1 + (297 : Int32))))) fun σ22 =>
  Lt (a20.1 + (1 : Int32) : Int32) fun x23 =>
  ih21 (x23, σ22)
  )
set_option maxRecDepth 100000 in
def m_begins (σ : St) : Option (St) :=
  Jn (fun (σ1 : St) =>
  Option.bind (m_copyPlan σ1 (297 : Int32) ((891 : Int32) + ((297 : Int32) * (σ1 0 2)))) fun x3 =>
  Gd (Ix (x3 0 2) 6) <|
  Lt (s2 x3 2 (Int32.toNatClampNeg (x3 0 2)) ((x3 0 1) &&& 1)) fun σ4 =>
  Lt (s2 σ4 0 2 ((σ4 0 2) + (1 : Int32))) fun σ5 =>
  Jn (fun (σ6 : St) =>
  some σ6
  ) fun J7 =>
  if ((σ5 0 1) : Int32) = 0 then (
  Option.bind (m_copyPlan σ5 (0 : Int32) (297 : Int32)) fun x8 =>
  Gd (Ix (299 : Int32) 2673) <|
  Lt (s2 x8 1 (Int32.toNatClampNeg (299 : Int32)) (0 : Int32)) fun σ9 =>
  Lt (s2 σ9 0 1 (1 : Int32)) fun σ10 =>
  J7 σ10
  ) else (
  J7 σ5
  )
  ) fun J2 =>
  if ((σ 0 2) : Int32) = (6 : Int32) then (
  Jn (fun (σ11 : St) =>
  Jn (fun (σ13 : St) =>
  Lt (s2 σ13 0 2 ((σ13 0 2) - (1 : Int32))) fun σ15 =>
  J2 σ15
  ) fun J14 =>
  lp (lb_m_begins_44 J14) 4000 ((0 : Int32), σ11)
  ) fun J12 =>
  lp (lb_m_begins_13 J12) 4000 ((891 : Int32), σ)
  ) else (
  J2 σ
  )
set_option maxHeartbeats 4000000 in
set_option maxRecDepth 100000 in
theorem cM_begins (l : Launch) (g : Ge) (hi : injB wM.2 g) (σ : St) (x : St) (h : m_begins σ = some x) : Ct l wM g yM_begins qM_begins 1 23 [.ref (g.1 0)] σ (none, x) := by
  refine Ct.of (out := o_v) FM_begins rfl hi rfl h (fun z hz C => ?_)
  clear h
  subst hz
  unfold m_begins
  show Rt z qM_begins wM g o_v 0 [(0, .ref (g.1 0))] [] σ _
  refine q_aload_n (pc' := 1) C 0 d_M_begins_0 rfl rfl ?_
  refine gM_477 (pc' := 4) C d_M_begins_1 rfl rfl ?_
  refine q_bipush (pc' := 6) C d_M_begins_4 kb_6 rfl ?_
  refine q_join (fun J2 : St → Option (St) => ∀ (σ1 : St), Rt z qM_begins wM g o_v 79 [(0, .ref (g.1 0))] [] σ1 (J2 σ1)) (fun σ1 => ?_) (fun J2 hJ2 => ?_)
  · refine q_aload_n (pc' := 80) C 0 d_M_begins_79 rfl rfl ?_
    refine q_sipush (pc' := 83) C d_M_begins_80 ks_297 rfl ?_
    refine q_sipush (pc' := 86) C d_M_begins_83 ks_891 rfl ?_
    refine q_sipush (pc' := 89) C d_M_begins_86 ks_297 rfl ?_
    refine q_aload_n (pc' := 90) C 0 d_M_begins_89 rfl rfl ?_
    refine gM_477 (pc' := 93) C d_M_begins_90 rfl rfl ?_
    refine q_imul (pc' := 94) C d_M_begins_93 rfl ?_
    refine q_iadd (pc' := 95) C d_M_begins_94 rfl ?_
    refine q_callVv (fr' := 0) (lo' := 0) (pc' := 98) C FM_copyPlan lmM_480 d_M_begins_95 0 jM_0 kM_0 cM0 [.int (297 : Int32), .int ((891 : Int32) + ((297 : Int32) * (σ1 0 2)))] [] rfl rfl (Nat.le_of_ble_eq_true rfl) ⟨rfl, rfl⟩ (fun x h => cM_copyPlan _ g hi σ1 (297 : Int32) ((891 : Int32) + ((297 : Int32) * (σ1 0 2))) x h) rfl (fun x3 _ => ?_)
    refine q_aload_n (pc' := 99) C 0 d_M_begins_98 rfl rfl ?_
    refine gM_13 (pc' := 102) C d_M_begins_99 rfl rfl ?_
    refine q_aload_n (pc' := 103) C 0 d_M_begins_102 rfl rfl ?_
    refine gM_477 (pc' := 106) C d_M_begins_103 rfl rfl ?_
    refine q_aload_n (pc' := 107) C 0 d_M_begins_106 rfl rfl ?_
    refine gM_473 (pc' := 110) C d_M_begins_107 rfl rfl ?_
    refine q_zast (pc' := 111) C 2 jM_2 kM_2 d_M_begins_110 rfl ?_
    refine q_let (fun σ4 e4 => ?_)
    refine q_state e4 ?_
    refine q_aload_n (pc' := 112) C 0 d_M_begins_111 rfl rfl ?_
    refine q_dup (pc' := 113) C d_M_begins_112 rfl rfl ?_
    refine gM_477 (pc' := 116) C d_M_begins_113 rfl rfl ?_
    refine q_iconst (pc' := 117) C d_M_begins_116 ki_1 rfl ?_
    refine q_iadd (pc' := 118) C d_M_begins_117 rfl ?_
    refine pM_477 (pc' := 121) C d_M_begins_118 rfl rfl ?_
    refine q_let (fun σ5 e5 => ?_)
    refine q_state e5 ?_
    refine q_aload_n (pc' := 122) C 0 d_M_begins_121 rfl rfl ?_
    refine gM_473 (pc' := 125) C d_M_begins_122 rfl rfl ?_
    refine q_join (fun J7 : St → Option (St) => ∀ (σ6 : St), Rt z qM_begins wM g o_v 150 [] [] σ6 (J7 σ6)) (fun σ6 => ?_) (fun J7 hJ7 => ?_)
    · exact q_vret C rfl d_M_begins_150 rfl
    refine q_if_ne (tgt := 150) (pc' := 128) C d_M_begins_125 rfl rfl ?_ ?_
    · exact Rt.sub [] rfl (hJ7 σ5)
    · refine q_aload_n (pc' := 129) C 0 d_M_begins_128 rfl rfl ?_
      refine q_iconst (pc' := 130) C d_M_begins_129 ki_0 rfl ?_
      refine q_sipush (pc' := 133) C d_M_begins_130 ks_297 rfl ?_
      refine q_callVv (fr' := 0) (lo' := 0) (pc' := 136) C FM_copyPlan lmM_480 d_M_begins_133 0 jM_0 kM_0 cM0 [.int (0 : Int32), .int (297 : Int32)] [] rfl rfl (Nat.le_of_ble_eq_true rfl) ⟨rfl, rfl⟩ (fun x h => cM_copyPlan _ g hi σ5 (0 : Int32) (297 : Int32) x h) rfl (fun x8 _ => ?_)
      refine q_aload_n (pc' := 137) C 0 d_M_begins_136 rfl rfl ?_
      refine gM_7 (pc' := 140) C d_M_begins_137 rfl rfl ?_
      refine q_sipush (pc' := 143) C d_M_begins_140 ks_299 rfl ?_
      refine q_iconst (pc' := 144) C d_M_begins_143 ki_0 rfl ?_
      refine q_iast (pc' := 145) C 1 jM_1 kM_1 d_M_begins_144 rfl ?_
      refine q_let (fun σ9 e9 => ?_)
      refine q_state e9 ?_
      refine q_aload_n (pc' := 146) C 0 d_M_begins_145 rfl rfl ?_
      refine q_iconst (pc' := 147) C d_M_begins_146 ki_1 rfl ?_
      refine pM_473 (pc' := 150) C d_M_begins_147 (by decide) rfl rfl ?_
      refine q_let (fun σ10 e10 => ?_)
      refine q_state e10 ?_
      exact Rt.sub [] rfl (hJ7 σ10)
  refine q_icmp_ne (tgt := 79) (pc' := 9) C d_M_begins_6 rfl rfl ?_ ?_
  · exact Rt.sub [0] rfl (hJ2 σ)
  · refine q_sipush (pc' := 12) C d_M_begins_9 ks_891 rfl ?_
    refine q_istore_n (pc' := 13) (lv' := [(1, .int (891 : Int32)), (0, .ref (g.1 0))]) C d_M_begins_12 (by decide) rfl rfl ?_
    refine q_join (fun J12 : St → Option (St) => ∀ (σ11 : St), Rt z qM_begins wM g o_v 42 [(0, .ref (g.1 0))] [] σ11 (J12 σ11)) (fun σ11 => ?_) (fun J12 hJ12 => ?_)
    · refine q_iconst (pc' := 43) C d_M_begins_42 ki_0 rfl ?_
      refine q_istore_n (pc' := 44) (lv' := [(1, .int (0 : Int32)), (0, .ref (g.1 0))]) C d_M_begins_43 (by decide) rfl rfl ?_
      refine q_join (fun J14 : St → Option (St) => ∀ (σ13 : St), Rt z qM_begins wM g o_v 69 [(0, .ref (g.1 0))] [] σ13 (J14 σ13)) (fun σ13 => ?_) (fun J14 hJ14 => ?_)
      · refine q_aload_n (pc' := 70) C 0 d_M_begins_69 rfl rfl ?_
        refine q_dup (pc' := 71) C d_M_begins_70 rfl rfl ?_
        refine gM_477 (pc' := 74) C d_M_begins_71 rfl rfl ?_
        refine q_iconst (pc' := 75) C d_M_begins_74 ki_1 rfl ?_
        refine q_isub (pc' := 76) C d_M_begins_75 rfl ?_
        refine pM_477 (pc' := 79) C d_M_begins_76 rfl rfl ?_
        refine q_let (fun σ15 e15 => ?_)
        refine q_state e15 ?_
        exact Rt.sub [0] rfl (hJ2 σ15)
      refine Rt.sub [1, 0] rfl (q_lp (fun a16 : Int32 × St => [(0, .ref (g.1 0)), (1, .int a16.1)]) (fun a16 => []) (fun a16 => a16.2) (fun ih17 hih17 a16 => ?_) 4000 ((0 : Int32), σ11))
      unfold lb_m_begins_44
      refine q_iload_n (pc' := 45) C 1 d_M_begins_44 rfl rfl ?_
      refine q_iconst (pc' := 46) C d_M_begins_45 ki_5 rfl ?_
      refine q_icmp_ge (tgt := 69) (pc' := 49) C d_M_begins_46 rfl rfl ?_ ?_
      · exact Rt.sub [0] rfl (hJ14 a16.2)
      · refine q_aload_n (pc' := 50) C 0 d_M_begins_49 rfl rfl ?_
        refine gM_13 (pc' := 53) C d_M_begins_50 rfl rfl ?_
        refine q_iload_n (pc' := 54) C 1 d_M_begins_53 rfl rfl ?_
        refine q_aload_n (pc' := 55) C 0 d_M_begins_54 rfl rfl ?_
        refine gM_13 (pc' := 58) C d_M_begins_55 rfl rfl ?_
        refine q_iload_n (pc' := 59) C 1 d_M_begins_58 rfl rfl ?_
        refine q_iconst (pc' := 60) C d_M_begins_59 ki_1 rfl ?_
        refine q_iadd (pc' := 61) C d_M_begins_60 rfl ?_
        refine q_zald (pc' := 62) C 2 jM_2 kM_2 d_M_begins_61 rfl ?_
        refine q_zast (pc' := 63) C 2 jM_2 kM_2 d_M_begins_62 rfl ?_
        refine q_let (fun σ18 e18 => ?_)
        refine q_state e18 ?_
        refine q_let (fun x19 e19 => ?_)
        refine q_iinc (pc' := 66) (lv' := [(1, .int x19), (0, .ref (g.1 0))]) C 1 d_M_begins_63 rfl (by rw [e19, ki_1]) (by decide) rfl rfl ?_
        refine q_goto (tgt := 44) C d_M_begins_66 rfl ?_
        exact Rt.sub [1, 0] rfl (hih17 (x19, σ18))
    refine Rt.sub [1, 0] rfl (q_lp (fun a20 : Int32 × St => [(0, .ref (g.1 0)), (1, .int a20.1)]) (fun a20 => []) (fun a20 => a20.2) (fun ih21 hih21 a20 => ?_) 4000 ((891 : Int32), σ))
    unfold lb_m_begins_13
    refine q_iload_n (pc' := 14) C 1 d_M_begins_13 rfl rfl ?_
    refine q_sipush (pc' := 17) C d_M_begins_14 ks_2376 rfl ?_
    refine q_icmp_ge (tgt := 42) (pc' := 20) C d_M_begins_17 rfl rfl ?_ ?_
    · exact Rt.sub [0] rfl (hJ12 a20.2)
    · refine q_aload_n (pc' := 21) C 0 d_M_begins_20 rfl rfl ?_
      refine gM_7 (pc' := 24) C d_M_begins_21 rfl rfl ?_
      refine q_iload_n (pc' := 25) C 1 d_M_begins_24 rfl rfl ?_
      refine q_aload_n (pc' := 26) C 0 d_M_begins_25 rfl rfl ?_
      refine gM_7 (pc' := 29) C d_M_begins_26 rfl rfl ?_
      refine q_iload_n (pc' := 30) C 1 d_M_begins_29 rfl rfl ?_
      refine q_sipush (pc' := 33) C d_M_begins_30 ks_297 rfl ?_
      refine q_iadd (pc' := 34) C d_M_begins_33 rfl ?_
      refine q_iald (pc' := 35) C 1 jM_1 kM_1 d_M_begins_34 rfl ?_
      refine q_iast (pc' := 36) C 1 jM_1 kM_1 d_M_begins_35 rfl ?_
      refine q_let (fun σ22 e22 => ?_)
      refine q_state e22 ?_
      refine q_let (fun x23 e23 => ?_)
      refine q_iinc (pc' := 39) (lv' := [(1, .int x23), (0, .ref (g.1 0))]) C 1 d_M_begins_36 rfl (by rw [e23, ki_1]) (by decide) rfl rfl ?_
      refine q_goto (tgt := 13) C d_M_begins_39 rfl ?_
      exact Rt.sub [1, 0] rfl (hih21 (x23, σ22))
theorem d_M_load_0 : decode qM_load.1 0 = .ok (.aload_n 0, 1) := by decide +kernel
theorem d_M_load_1 : decode qM_load.1 1 = .ok (.invokevirtual 450, 3) := by decide +kernel
theorem d_M_load_4 : decode qM_load.1 4 = .ok (.ifCond .ne 7, 3) := by decide +kernel
theorem d_M_load_7 : decode qM_load.1 7 = .ok (.ldc_w 483, 3) := by decide +kernel
theorem d_M_load_10 : decode qM_load.1 10 = .ok (.ireturn, 1) := by decide +kernel
theorem d_M_load_11 : decode qM_load.1 11 = .ok (.aload_n 0, 1) := by decide +kernel
theorem d_M_load_12 : decode qM_load.1 12 = .ok (.invokevirtual 484, 3) := by decide +kernel
theorem d_M_load_15 : decode qM_load.1 15 = .ok (.iconst 0, 1) := by decide +kernel
theorem d_M_load_16 : decode qM_load.1 16 = .ok (.istore_n 1, 1) := by decide +kernel
theorem d_M_load_17 : decode qM_load.1 17 = .ok (.iload_n 1, 1) := by decide +kernel
theorem d_M_load_18 : decode qM_load.1 18 = .ok (.aload_n 0, 1) := by decide +kernel
theorem d_M_load_19 : decode qM_load.1 19 = .ok (.getfield 411, 3) := by decide +kernel
theorem d_M_load_22 : decode qM_load.1 22 = .ok (.if_icmp .ge 18, 3) := by decide +kernel
theorem d_M_load_25 : decode qM_load.1 25 = .ok (.aload_n 0, 1) := by decide +kernel
theorem d_M_load_26 : decode qM_load.1 26 = .ok (.iload_n 1, 1) := by decide +kernel
theorem d_M_load_27 : decode qM_load.1 27 = .ok (.sipush 297, 3) := by decide +kernel
theorem d_M_load_30 : decode qM_load.1 30 = .ok (.iload_n 1, 1) := by decide +kernel
theorem d_M_load_31 : decode qM_load.1 31 = .ok (.invokevirtual 487, 3) := by decide +kernel
theorem d_M_load_34 : decode qM_load.1 34 = .ok (.iinc 1 1, 3) := by decide +kernel
theorem d_M_load_37 : decode qM_load.1 37 = .ok (.goto (-20), 3) := by decide +kernel
theorem d_M_load_40 : decode qM_load.1 40 = .ok (.aload_n 0, 1) := by decide +kernel
theorem d_M_load_41 : decode qM_load.1 41 = .ok (.getfield 7, 3) := by decide +kernel
theorem d_M_load_44 : decode qM_load.1 44 = .ok (.sipush 297, 3) := by decide +kernel
theorem d_M_load_47 : decode qM_load.1 47 = .ok (.aload_n 0, 1) := by decide +kernel
theorem d_M_load_48 : decode qM_load.1 48 = .ok (.getfield 411, 3) := by decide +kernel
theorem d_M_load_51 : decode qM_load.1 51 = .ok (.iastore, 1) := by decide +kernel
theorem d_M_load_52 : decode qM_load.1 52 = .ok (.aload_n 0, 1) := by decide +kernel
theorem d_M_load_53 : decode qM_load.1 53 = .ok (.getfield 7, 3) := by decide +kernel
theorem d_M_load_56 : decode qM_load.1 56 = .ok (.sipush 298, 3) := by decide +kernel
theorem d_M_load_59 : decode qM_load.1 59 = .ok (.iconst 0, 1) := by decide +kernel
theorem d_M_load_60 : decode qM_load.1 60 = .ok (.iastore, 1) := by decide +kernel
theorem d_M_load_61 : decode qM_load.1 61 = .ok (.aload_n 0, 1) := by decide +kernel
theorem d_M_load_62 : decode qM_load.1 62 = .ok (.getfield 7, 3) := by decide +kernel
theorem d_M_load_65 : decode qM_load.1 65 = .ok (.sipush 299, 3) := by decide +kernel
theorem d_M_load_68 : decode qM_load.1 68 = .ok (.iconst 1, 1) := by decide +kernel
theorem d_M_load_69 : decode qM_load.1 69 = .ok (.iastore, 1) := by decide +kernel
theorem d_M_load_70 : decode qM_load.1 70 = .ok (.aload_n 0, 1) := by decide +kernel
theorem d_M_load_71 : decode qM_load.1 71 = .ok (.getfield 411, 3) := by decide +kernel
theorem d_M_load_74 : decode qM_load.1 74 = .ok (.ireturn, 1) := by decide +kernel
set_option maxRecDepth 100000 in
def lb_m_load_17 (J4 : St → Option (Int32 × St)) (ih9 : Int32 × St → Option (Int32 × St)) (a8 : Int32 × St) : Option (Int32 × St) :=
  if ((a8.2 0 73) : Int32) ≤ a8.1 then (
  J4 a8.2
  ) else (
  Option.bind (m_laysTold a8.2 a8.1 (297 : Int32) a8.1) fun x10 =>
  Lt (a8.1 + (1 : Int32) : Int32) fun x11 =>
  ih9 (x11, x10)
  )
set_option maxRecDepth 100000 in
def m_load (σ : St) : Option (Int32 × St) :=
  Option.bind (m_reads σ) fun x1 =>
  if (x1.1 : Int32) = 0 then (
  some ((-1000003 : Int32), x1.2)
  ) else (
  Option.bind (m_begins x1.2) fun x2 =>
  Jn (fun (σ3 : St) =>
  Gd (Ix (297 : Int32) 2673) <|
  Lt (s2 σ3 1 (Int32.toNatClampNeg (297 : Int32)) (σ3 0 73)) fun σ5 =>
  Gd (Ix (298 : Int32) 2673) <|
  Lt (s2 σ5 1 (Int32.toNatClampNeg (298 : Int32)) (0 : Int32)) fun σ6 =>
  Gd (Ix (299 : Int32) 2673) <|
  Lt (s2 σ6 1 (Int32.toNatClampNeg (299 : Int32)) (1 : Int32)) fun σ7 =>
  some ((σ7 0 73), σ7)
  ) fun J4 =>
  lp (lb_m_load_17 J4) 4000 ((0 : Int32), x2)
  )
set_option maxHeartbeats 4000000 in
set_option maxRecDepth 100000 in
theorem cM_load (l : Launch) (g : Ge) (hi : injB wM.2 g) (σ : St) (x : Int32 × St) (h : m_load σ = some x) : Ct l wM g yM_load qM_load 8 179 [.ref (g.1 0)] σ (some (.int x.1), x.2) := by
  refine Ct.of (out := o_w) FM_load rfl hi rfl h (fun z hz C => ?_)
  clear h
  subst hz
  unfold m_load
  show Rt z qM_load wM g o_w 0 [(0, .ref (g.1 0))] [] σ _
  refine q_aload_n (pc' := 1) C 0 d_M_load_0 rfl rfl ?_
  refine q_callVw (fr' := 7) (lo' := 158) (pc' := 4) C FM_reads lmM_450 d_M_load_1 0 jM_0 kM_0 cM0 [] [] rfl rfl (Nat.le_of_ble_eq_true rfl) ⟨rfl, rfl⟩ (fun x h => cM_reads _ g hi σ x h) rfl (fun x1 _ => ?_)
  refine q_if_ne (tgt := 11) (pc' := 7) C d_M_load_4 rfl rfl ?_ ?_
  · refine q_aload_n (pc' := 12) C 0 d_M_load_11 rfl rfl ?_
    refine q_callVv (fr' := 1) (lo' := 23) (pc' := 15) C FM_begins lmM_484 d_M_load_12 0 jM_0 kM_0 cM0 [] [] rfl rfl (Nat.le_of_ble_eq_true rfl) ⟨rfl, rfl⟩ (fun x h => cM_begins _ g hi x1.2 x h) rfl (fun x2 _ => ?_)
    refine q_iconst (pc' := 16) C d_M_load_15 ki_0 rfl ?_
    refine q_istore_n (pc' := 17) (lv' := [(1, .int (0 : Int32)), (0, .ref (g.1 0))]) C d_M_load_16 (by decide) rfl rfl ?_
    refine q_join (fun J4 : St → Option (Int32 × St) => ∀ (σ3 : St), Rt z qM_load wM g o_w 40 [(0, .ref (g.1 0))] [] σ3 (J4 σ3)) (fun σ3 => ?_) (fun J4 hJ4 => ?_)
    · refine q_aload_n (pc' := 41) C 0 d_M_load_40 rfl rfl ?_
      refine gM_7 (pc' := 44) C d_M_load_41 rfl rfl ?_
      refine q_sipush (pc' := 47) C d_M_load_44 ks_297 rfl ?_
      refine q_aload_n (pc' := 48) C 0 d_M_load_47 rfl rfl ?_
      refine gM_411 (pc' := 51) C d_M_load_48 rfl rfl ?_
      refine q_iast (pc' := 52) C 1 jM_1 kM_1 d_M_load_51 rfl ?_
      refine q_let (fun σ5 e5 => ?_)
      refine q_state e5 ?_
      refine q_aload_n (pc' := 53) C 0 d_M_load_52 rfl rfl ?_
      refine gM_7 (pc' := 56) C d_M_load_53 rfl rfl ?_
      refine q_sipush (pc' := 59) C d_M_load_56 ks_298 rfl ?_
      refine q_iconst (pc' := 60) C d_M_load_59 ki_0 rfl ?_
      refine q_iast (pc' := 61) C 1 jM_1 kM_1 d_M_load_60 rfl ?_
      refine q_let (fun σ6 e6 => ?_)
      refine q_state e6 ?_
      refine q_aload_n (pc' := 62) C 0 d_M_load_61 rfl rfl ?_
      refine gM_7 (pc' := 65) C d_M_load_62 rfl rfl ?_
      refine q_sipush (pc' := 68) C d_M_load_65 ks_299 rfl ?_
      refine q_iconst (pc' := 69) C d_M_load_68 ki_1 rfl ?_
      refine q_iast (pc' := 70) C 1 jM_1 kM_1 d_M_load_69 rfl ?_
      refine q_let (fun σ7 e7 => ?_)
      refine q_state e7 ?_
      refine q_aload_n (pc' := 71) C 0 d_M_load_70 rfl rfl ?_
      refine gM_411 (pc' := 74) C d_M_load_71 rfl rfl ?_
      exact q_iret C rfl d_M_load_74 rfl
    refine Rt.sub [1, 0] rfl (q_lp (fun a8 : Int32 × St => [(0, .ref (g.1 0)), (1, .int a8.1)]) (fun a8 => []) (fun a8 => a8.2) (fun ih9 hih9 a8 => ?_) 4000 ((0 : Int32), x2))
    unfold lb_m_load_17
    refine q_iload_n (pc' := 18) C 1 d_M_load_17 rfl rfl ?_
    refine q_aload_n (pc' := 19) C 0 d_M_load_18 rfl rfl ?_
    refine gM_411 (pc' := 22) C d_M_load_19 rfl rfl ?_
    refine q_icmp_ge (tgt := 40) (pc' := 25) C d_M_load_22 rfl rfl ?_ ?_
    · exact Rt.sub [0] rfl (hJ4 a8.2)
    · refine q_aload_n (pc' := 26) C 0 d_M_load_25 rfl rfl ?_
      refine q_iload_n (pc' := 27) C 1 d_M_load_26 rfl rfl ?_
      refine q_sipush (pc' := 30) C d_M_load_27 ks_297 rfl ?_
      refine q_iload_n (pc' := 31) C 1 d_M_load_30 rfl rfl ?_
      refine q_callVv (fr' := 0) (lo' := 0) (pc' := 34) C FM_laysTold lmM_487 d_M_load_31 0 jM_0 kM_0 cM0 [.int a8.1, .int (297 : Int32), .int a8.1] [] rfl rfl (Nat.le_of_ble_eq_true rfl) ⟨rfl, rfl⟩ (fun x h => cM_laysTold _ g hi a8.2 a8.1 (297 : Int32) a8.1 x h) rfl (fun x10 _ => ?_)
      refine q_let (fun x11 e11 => ?_)
      refine q_iinc (pc' := 37) (lv' := [(1, .int x11), (0, .ref (g.1 0))]) C 1 d_M_load_34 rfl (by rw [e11, ki_1]) (by decide) rfl rfl ?_
      refine q_goto (tgt := 17) C d_M_load_37 rfl ?_
      exact Rt.sub [1, 0] rfl (hih9 (x11, x10))
  · refine q_ldcw (pc' := 10) C lcM_483 d_M_load_7 rfl ?_
    exact q_iret C rfl d_M_load_10 rfl
theorem d_M_joined_0 : decode qM_joined.1 0 = .ok (.bipush 14, 2) := by decide +kernel
theorem d_M_joined_2 : decode qM_joined.1 2 = .ok (.aload_n 0, 1) := by decide +kernel
theorem d_M_joined_3 : decode qM_joined.1 3 = .ok (.getfield 411, 3) := by decide +kernel
theorem d_M_joined_6 : decode qM_joined.1 6 = .ok (.iconst 1, 1) := by decide +kernel
theorem d_M_joined_7 : decode qM_joined.1 7 = .ok (.isub, 1) := by decide +kernel
theorem d_M_joined_8 : decode qM_joined.1 8 = .ok (.imul, 1) := by decide +kernel
theorem d_M_joined_9 : decode qM_joined.1 9 = .ok (.istore_n 3, 1) := by decide +kernel
theorem d_M_joined_10 : decode qM_joined.1 10 = .ok (.aload_n 0, 1) := by decide +kernel
theorem d_M_joined_11 : decode qM_joined.1 11 = .ok (.getfield 153, 3) := by decide +kernel
theorem d_M_joined_14 : decode qM_joined.1 14 = .ok (.iload_n 3, 1) := by decide +kernel
theorem d_M_joined_15 : decode qM_joined.1 15 = .ok (.iconst 0, 1) := by decide +kernel
theorem d_M_joined_16 : decode qM_joined.1 16 = .ok (.iadd, 1) := by decide +kernel
theorem d_M_joined_17 : decode qM_joined.1 17 = .ok (.iaload, 1) := by decide +kernel
theorem d_M_joined_18 : decode qM_joined.1 18 = .ok (.invokestatic 263, 3) := by decide +kernel
theorem d_M_joined_21 : decode qM_joined.1 21 = .ok (.ifCond .ne 5, 3) := by decide +kernel
theorem d_M_joined_24 : decode qM_joined.1 24 = .ok (.iconst (-1), 1) := by decide +kernel
theorem d_M_joined_25 : decode qM_joined.1 25 = .ok (.ireturn, 1) := by decide +kernel
theorem d_M_joined_26 : decode qM_joined.1 26 = .ok (.iload_n 2, 1) := by decide +kernel
theorem d_M_joined_27 : decode qM_joined.1 27 = .ok (.istore 4, 2) := by decide +kernel
theorem d_M_joined_29 : decode qM_joined.1 29 = .ok (.iload 4, 2) := by decide +kernel
theorem d_M_joined_31 : decode qM_joined.1 31 = .ok (.aload_n 0, 1) := by decide +kernel
theorem d_M_joined_32 : decode qM_joined.1 32 = .ok (.iload_n 1, 1) := by decide +kernel
theorem d_M_joined_33 : decode qM_joined.1 33 = .ok (.invokevirtual 218, 3) := by decide +kernel
theorem d_M_joined_36 : decode qM_joined.1 36 = .ok (.if_icmp .ge 45, 3) := by decide +kernel
theorem d_M_joined_39 : decode qM_joined.1 39 = .ok (.aload_n 0, 1) := by decide +kernel
theorem d_M_joined_40 : decode qM_joined.1 40 = .ok (.iload_n 1, 1) := by decide +kernel
theorem d_M_joined_41 : decode qM_joined.1 41 = .ok (.iload 4, 2) := by decide +kernel
theorem d_M_joined_43 : decode qM_joined.1 43 = .ok (.iconst 0, 1) := by decide +kernel
theorem d_M_joined_44 : decode qM_joined.1 44 = .ok (.invokevirtual 168, 3) := by decide +kernel
theorem d_M_joined_47 : decode qM_joined.1 47 = .ok (.invokestatic 263, 3) := by decide +kernel
theorem d_M_joined_50 : decode qM_joined.1 50 = .ok (.ifCond .eq 25, 3) := by decide +kernel
theorem d_M_joined_53 : decode qM_joined.1 53 = .ok (.aload_n 0, 1) := by decide +kernel
theorem d_M_joined_54 : decode qM_joined.1 54 = .ok (.iload_n 1, 1) := by decide +kernel
theorem d_M_joined_55 : decode qM_joined.1 55 = .ok (.iload 4, 2) := by decide +kernel
theorem d_M_joined_57 : decode qM_joined.1 57 = .ok (.iconst 1, 1) := by decide +kernel
theorem d_M_joined_58 : decode qM_joined.1 58 = .ok (.invokevirtual 168, 3) := by decide +kernel
theorem d_M_joined_61 : decode qM_joined.1 61 = .ok (.aload_n 0, 1) := by decide +kernel
theorem d_M_joined_62 : decode qM_joined.1 62 = .ok (.getfield 153, 3) := by decide +kernel
theorem d_M_joined_65 : decode qM_joined.1 65 = .ok (.iload_n 3, 1) := by decide +kernel
theorem d_M_joined_66 : decode qM_joined.1 66 = .ok (.iconst 1, 1) := by decide +kernel
theorem d_M_joined_67 : decode qM_joined.1 67 = .ok (.iadd, 1) := by decide +kernel
theorem d_M_joined_68 : decode qM_joined.1 68 = .ok (.iaload, 1) := by decide +kernel
theorem d_M_joined_69 : decode qM_joined.1 69 = .ok (.if_icmp .ne 6, 3) := by decide +kernel
theorem d_M_joined_72 : decode qM_joined.1 72 = .ok (.iload 4, 2) := by decide +kernel
theorem d_M_joined_74 : decode qM_joined.1 74 = .ok (.ireturn, 1) := by decide +kernel
theorem d_M_joined_75 : decode qM_joined.1 75 = .ok (.iinc 4 1, 3) := by decide +kernel
theorem d_M_joined_78 : decode qM_joined.1 78 = .ok (.goto (-49), 3) := by decide +kernel
theorem d_M_joined_81 : decode qM_joined.1 81 = .ok (.iconst (-1), 1) := by decide +kernel
theorem d_M_joined_82 : decode qM_joined.1 82 = .ok (.ireturn, 1) := by decide +kernel
set_option maxRecDepth 100000 in
def lb_m_joined_29 (σ : St) (p1 : Int32) (x1 : Int32) (J4 : Int32 → Option (Int32)) (J5 : Unit → Option (Int32)) (ih7 : Int32 → Option (Int32)) (a6 : Int32) : Option (Int32) :=
  Option.bind (m_count σ p1) fun x8 =>
  if (x8 : Int32) ≤ a6 then (
  J5 ()
  ) else (
  Option.bind (m_of σ p1 a6 (0 : Int32)) fun x9 =>
  Option.bind (m_hasFix x9) fun x10 =>
  Jn (fun (_ : Unit) =>
  Lt (a6 + (1 : Int32) : Int32) fun x12 =>
  ih7 x12
  ) fun J11 =>
  if (x10 : Int32) = 0 then (
  J11 ()
  ) else (
  Option.bind (m_of σ p1 a6 (1 : Int32)) fun x13 =>
  Gd (Ix (x1 + (1 : Int32)) 168) <|
  if (x13 : Int32) = (σ 43 (Int32.toNatClampNeg (x1 + (1 : Int32)))) then (
  J4 a6
  ) else (
  J11 ()
  )
  )
  )
set_option maxRecDepth 100000 in
def m_joined (σ : St) (p1 : Int32) (p2 : Int32) : Option (Int32) :=
  Lt (((14 : Int32) * ((σ 0 73) - (1 : Int32))) : Int32) fun x1 =>
  Gd (Ix (x1 + (0 : Int32)) 168) <|
  Option.bind (m_hasFix (σ 43 (Int32.toNatClampNeg (x1 + (0 : Int32))))) fun x2 =>
  if (x2 : Int32) = 0 then (
  some (-1 : Int32)
  ) else (
  Jn (fun (x3 : Int32) =>
  some x3
  ) fun J4 =>
  Jn (fun (_ : Unit) =>
  some (-1 : Int32)
  ) fun J5 =>
  lp (lb_m_joined_29 σ p1 x1 J4 J5) 4000 p2
  )
set_option maxHeartbeats 4000000 in
set_option maxRecDepth 100000 in
theorem cM_joined (l : Launch) (g : Ge) (hi : injB wM.2 g) (σ : St) (p1 : Int32) (p2 : Int32) (x : Int32) (h : m_joined σ p1 p2 = some x) : Ct l wM g yM_joined qM_joined 1 23 [.ref (g.1 0), .int p1, .int p2] σ (some (.int x), σ) := by
  refine Ct.of (out := (o_r σ)) FM_joined rfl hi rfl h (fun z hz C => ?_)
  clear h
  subst hz
  unfold m_joined
  show Rt z qM_joined wM g (o_r σ) 0 [(0, .ref (g.1 0)), (1, .int p1), (2, .int p2)] [] σ _
  refine q_bipush (pc' := 2) C d_M_joined_0 kb_14 rfl ?_
  refine q_aload_n (pc' := 3) C 0 d_M_joined_2 rfl rfl ?_
  refine gM_411 (pc' := 6) C d_M_joined_3 rfl rfl ?_
  refine q_iconst (pc' := 7) C d_M_joined_6 ki_1 rfl ?_
  refine q_isub (pc' := 8) C d_M_joined_7 rfl ?_
  refine q_imul (pc' := 9) C d_M_joined_8 rfl ?_
  refine q_let (fun x1 e1 => ?_)
  refine q_topi e1 ?_
  refine q_istore_n (pc' := 10) (lv' := [(3, .int x1), (0, .ref (g.1 0)), (1, .int p1), (2, .int p2)]) C d_M_joined_9 (by decide) rfl rfl ?_
  refine q_aload_n (pc' := 11) C 1 d_M_joined_10 rfl rfl ?_
  refine gM_153 (pc' := 14) C d_M_joined_11 rfl rfl ?_
  refine q_iload_n (pc' := 15) C 0 d_M_joined_14 rfl rfl ?_
  refine q_iconst (pc' := 16) C d_M_joined_15 ki_0 rfl ?_
  refine q_iadd (pc' := 17) C d_M_joined_16 rfl ?_
  refine q_iald (pc' := 18) C 43 jM_43 kM_43 d_M_joined_17 rfl ?_
  refine q_callSr (fr' := 0) (lo' := 0) (pc' := 21) C FM_hasFix lmM_263 d_M_joined_18 [.int (σ 43 (Int32.toNatClampNeg (x1 + (0 : Int32))))] [] rfl rfl (Nat.le_of_ble_eq_true rfl) ⟨rfl, rfl⟩ (fun x h => cM_hasFix _ g hi σ (σ 43 (Int32.toNatClampNeg (x1 + (0 : Int32)))) x h) rfl (fun x2 _ => ?_)
  refine q_if_ne (tgt := 26) (pc' := 24) C d_M_joined_21 rfl rfl ?_ ?_
  · refine q_iload_n (pc' := 27) C 3 d_M_joined_26 rfl rfl ?_
    refine q_istore (pc' := 29) (lv' := [(4, .int p2), (3, .int x1), (0, .ref (g.1 0)), (1, .int p1), (2, .int p2)]) C d_M_joined_27 (by decide) rfl rfl ?_
    refine q_join (fun J4 : Int32 → Option (Int32) => ∀ (x3 : Int32), Rt z qM_joined wM g (o_r σ) 72 [(4, .int x3)] [] σ (J4 x3)) (fun x3 => ?_) (fun J4 hJ4 => ?_)
    · refine q_iload (pc' := 74) C 0 d_M_joined_72 rfl rfl ?_
      exact q_iret C rfl d_M_joined_74 rfl
    refine q_join (fun J5 : Unit → Option (Int32) => ∀ (_ : Unit), Rt z qM_joined wM g (o_r σ) 81 [] [] σ (J5 ())) (fun _ => ?_) (fun J5 hJ5 => ?_)
    · refine q_iconst (pc' := 82) C d_M_joined_81 ki_m1 rfl ?_
      exact q_iret C rfl d_M_joined_82 rfl
    refine Rt.sub [2, 3, 1, 0] rfl (q_lp (fun a6 : Int32 => [(0, .ref (g.1 0)), (1, .int p1), (3, .int x1), (4, .int a6)]) (fun a6 => []) (fun a6 => σ) (fun ih7 hih7 a6 => ?_) 4000 p2)
    unfold lb_m_joined_29
    refine q_iload (pc' := 31) C 3 d_M_joined_29 rfl rfl ?_
    refine q_aload_n (pc' := 32) C 0 d_M_joined_31 rfl rfl ?_
    refine q_iload_n (pc' := 33) C 1 d_M_joined_32 rfl rfl ?_
    refine q_callVr (fr' := 0) (lo' := 0) (pc' := 36) C FM_count lmM_218 d_M_joined_33 0 jM_0 kM_0 cM0 [.int p1] [.int a6] rfl rfl (Nat.le_of_ble_eq_true rfl) ⟨rfl, rfl⟩ (fun x h => cM_count _ g hi σ p1 x h) rfl (fun x8 _ => ?_)
    refine q_icmp_ge (tgt := 81) (pc' := 39) C d_M_joined_36 rfl rfl ?_ ?_
    · exact Rt.sub [] rfl (hJ5 ())
    · refine q_aload_n (pc' := 40) C 0 d_M_joined_39 rfl rfl ?_
      refine q_iload_n (pc' := 41) C 1 d_M_joined_40 rfl rfl ?_
      refine q_iload (pc' := 43) C 3 d_M_joined_41 rfl rfl ?_
      refine q_iconst (pc' := 44) C d_M_joined_43 ki_0 rfl ?_
      refine q_callVr (fr' := 0) (lo' := 0) (pc' := 47) C FM_of lmM_168 d_M_joined_44 0 jM_0 kM_0 cM0 [.int p1, .int a6, .int (0 : Int32)] [] rfl rfl (Nat.le_of_ble_eq_true rfl) ⟨rfl, rfl⟩ (fun x h => cM_of _ g hi σ p1 a6 (0 : Int32) x h) rfl (fun x9 _ => ?_)
      refine q_callSr (fr' := 0) (lo' := 0) (pc' := 50) C FM_hasFix lmM_263 d_M_joined_47 [.int x9] [] rfl rfl (Nat.le_of_ble_eq_true rfl) ⟨rfl, rfl⟩ (fun x h => cM_hasFix _ g hi σ x9 x h) rfl (fun x10 _ => ?_)
      refine q_join (fun J11 : Unit → Option (Int32) => ∀ (_ : Unit), Rt z qM_joined wM g (o_r σ) 75 [(0, .ref (g.1 0)), (1, .int p1), (3, .int x1), (4, .int a6)] [] σ (J11 ())) (fun _ => ?_) (fun J11 hJ11 => ?_)
      · refine q_let (fun x12 e12 => ?_)
        refine q_iinc (pc' := 78) (lv' := [(4, .int x12), (0, .ref (g.1 0)), (1, .int p1), (3, .int x1)]) C 3 d_M_joined_75 rfl (by rw [e12, ki_1]) (by decide) rfl rfl ?_
        refine q_goto (tgt := 29) C d_M_joined_78 rfl ?_
        exact Rt.sub [1, 2, 3, 0] rfl (hih7 x12)
      refine q_if_eq (tgt := 75) (pc' := 53) C d_M_joined_50 rfl rfl ?_ ?_
      · exact Rt.sub [0, 1, 2, 3] rfl (hJ11 ())
      · refine q_aload_n (pc' := 54) C 0 d_M_joined_53 rfl rfl ?_
        refine q_iload_n (pc' := 55) C 1 d_M_joined_54 rfl rfl ?_
        refine q_iload (pc' := 57) C 3 d_M_joined_55 rfl rfl ?_
        refine q_iconst (pc' := 58) C d_M_joined_57 ki_1 rfl ?_
        refine q_callVr (fr' := 0) (lo' := 0) (pc' := 61) C FM_of lmM_168 d_M_joined_58 0 jM_0 kM_0 cM0 [.int p1, .int a6, .int (1 : Int32)] [] rfl rfl (Nat.le_of_ble_eq_true rfl) ⟨rfl, rfl⟩ (fun x h => cM_of _ g hi σ p1 a6 (1 : Int32) x h) rfl (fun x13 _ => ?_)
        refine q_aload_n (pc' := 62) C 0 d_M_joined_61 rfl rfl ?_
        refine gM_153 (pc' := 65) C d_M_joined_62 rfl rfl ?_
        refine q_iload_n (pc' := 66) C 2 d_M_joined_65 rfl rfl ?_
        refine q_iconst (pc' := 67) C d_M_joined_66 ki_1 rfl ?_
        refine q_iadd (pc' := 68) C d_M_joined_67 rfl ?_
        refine q_iald (pc' := 69) C 43 jM_43 kM_43 d_M_joined_68 rfl ?_
        refine q_icmp_ne (tgt := 75) (pc' := 72) C d_M_joined_69 rfl rfl ?_ ?_
        · exact Rt.sub [0, 1, 2, 3] rfl (hJ11 ())
        · exact Rt.sub [3] rfl (hJ4 a6)
  · refine q_iconst (pc' := 25) C d_M_joined_24 ki_m1 rfl ?_
    exact q_iret C rfl d_M_joined_25 rfl
theorem d_M_insert_0 : decode qM_insert.1 0 = .ok (.aload_n 0, 1) := by decide +kernel
theorem d_M_insert_1 : decode qM_insert.1 1 = .ok (.invokevirtual 490, 3) := by decide +kernel
theorem d_M_insert_4 : decode qM_insert.1 4 = .ok (.istore_n 2, 1) := by decide +kernel
theorem d_M_insert_5 : decode qM_insert.1 5 = .ok (.aload_n 0, 1) := by decide +kernel
theorem d_M_insert_6 : decode qM_insert.1 6 = .ok (.iload_n 2, 1) := by decide +kernel
theorem d_M_insert_7 : decode qM_insert.1 7 = .ok (.invokevirtual 218, 3) := by decide +kernel
theorem d_M_insert_10 : decode qM_insert.1 10 = .ok (.istore_n 3, 1) := by decide +kernel
theorem d_M_insert_11 : decode qM_insert.1 11 = .ok (.iload_n 1, 1) := by decide +kernel
theorem d_M_insert_12 : decode qM_insert.1 12 = .ok (.i2l, 1) := by decide +kernel
theorem d_M_insert_13 : decode qM_insert.1 13 = .ok (.lconst 0, 1) := by decide +kernel
theorem d_M_insert_14 : decode qM_insert.1 14 = .ok (.iload_n 3, 1) := by decide +kernel
theorem d_M_insert_15 : decode qM_insert.1 15 = .ok (.i2l, 1) := by decide +kernel
theorem d_M_insert_16 : decode qM_insert.1 16 = .ok (.invokestatic 232, 3) := by decide +kernel
theorem d_M_insert_19 : decode qM_insert.1 19 = .ok (.ifCond .ne 7, 3) := by decide +kernel
theorem d_M_insert_22 : decode qM_insert.1 22 = .ok (.ldc_w 493, 3) := by decide +kernel
theorem d_M_insert_25 : decode qM_insert.1 25 = .ok (.ireturn, 1) := by decide +kernel
theorem d_M_insert_26 : decode qM_insert.1 26 = .ok (.aload_n 0, 1) := by decide +kernel
theorem d_M_insert_27 : decode qM_insert.1 27 = .ok (.invokevirtual 450, 3) := by decide +kernel
theorem d_M_insert_30 : decode qM_insert.1 30 = .ok (.ifCond .eq 19, 3) := by decide +kernel
theorem d_M_insert_33 : decode qM_insert.1 33 = .ok (.iload_n 3, 1) := by decide +kernel
theorem d_M_insert_34 : decode qM_insert.1 34 = .ok (.ifCond .le 19, 3) := by decide +kernel
theorem d_M_insert_37 : decode qM_insert.1 37 = .ok (.iload_n 1, 1) := by decide +kernel
theorem d_M_insert_38 : decode qM_insert.1 38 = .ok (.aload_n 0, 1) := by decide +kernel
theorem d_M_insert_39 : decode qM_insert.1 39 = .ok (.getfield 7, 3) := by decide +kernel
theorem d_M_insert_42 : decode qM_insert.1 42 = .ok (.iload_n 2, 1) := by decide +kernel
theorem d_M_insert_43 : decode qM_insert.1 43 = .ok (.iconst 1, 1) := by decide +kernel
theorem d_M_insert_44 : decode qM_insert.1 44 = .ok (.iadd, 1) := by decide +kernel
theorem d_M_insert_45 : decode qM_insert.1 45 = .ok (.iaload, 1) := by decide +kernel
theorem d_M_insert_46 : decode qM_insert.1 46 = .ok (.if_icmp .gt 7, 3) := by decide +kernel
theorem d_M_insert_49 : decode qM_insert.1 49 = .ok (.ldc_w 483, 3) := by decide +kernel
theorem d_M_insert_52 : decode qM_insert.1 52 = .ok (.ireturn, 1) := by decide +kernel
theorem d_M_insert_53 : decode qM_insert.1 53 = .ok (.aload_n 0, 1) := by decide +kernel
theorem d_M_insert_54 : decode qM_insert.1 54 = .ok (.iload_n 2, 1) := by decide +kernel
theorem d_M_insert_55 : decode qM_insert.1 55 = .ok (.iload_n 1, 1) := by decide +kernel
theorem d_M_insert_56 : decode qM_insert.1 56 = .ok (.invokevirtual 494, 3) := by decide +kernel
theorem d_M_insert_59 : decode qM_insert.1 59 = .ok (.istore 4, 2) := by decide +kernel
theorem d_M_insert_61 : decode qM_insert.1 61 = .ok (.iload 4, 2) := by decide +kernel
theorem d_M_insert_63 : decode qM_insert.1 63 = .ok (.ifCond .ge 7, 3) := by decide +kernel
theorem d_M_insert_66 : decode qM_insert.1 66 = .ok (.iload_n 1, 1) := by decide +kernel
theorem d_M_insert_67 : decode qM_insert.1 67 = .ok (.goto 7, 3) := by decide +kernel
theorem d_M_insert_70 : decode qM_insert.1 70 = .ok (.iload 4, 2) := by decide +kernel
theorem d_M_insert_72 : decode qM_insert.1 72 = .ok (.iconst 1, 1) := by decide +kernel
theorem d_M_insert_73 : decode qM_insert.1 73 = .ok (.iadd, 1) := by decide +kernel
theorem d_M_insert_74 : decode qM_insert.1 74 = .ok (.istore 5, 2) := by decide +kernel
theorem d_M_insert_76 : decode qM_insert.1 76 = .ok (.iload_n 1, 1) := by decide +kernel
theorem d_M_insert_77 : decode qM_insert.1 77 = .ok (.aload_n 0, 1) := by decide +kernel
theorem d_M_insert_78 : decode qM_insert.1 78 = .ok (.getfield 411, 3) := by decide +kernel
theorem d_M_insert_81 : decode qM_insert.1 81 = .ok (.iadd, 1) := by decide +kernel
theorem d_M_insert_82 : decode qM_insert.1 82 = .ok (.iload_n 3, 1) := by decide +kernel
theorem d_M_insert_83 : decode qM_insert.1 83 = .ok (.iadd, 1) := by decide +kernel
theorem d_M_insert_84 : decode qM_insert.1 84 = .ok (.iload 5, 2) := by decide +kernel
theorem d_M_insert_86 : decode qM_insert.1 86 = .ok (.isub, 1) := by decide +kernel
theorem d_M_insert_87 : decode qM_insert.1 87 = .ok (.istore 6, 2) := by decide +kernel
theorem d_M_insert_89 : decode qM_insert.1 89 = .ok (.iload 6, 2) := by decide +kernel
theorem d_M_insert_91 : decode qM_insert.1 91 = .ok (.bipush 20, 2) := by decide +kernel
theorem d_M_insert_93 : decode qM_insert.1 93 = .ok (.if_icmp .le 7, 3) := by decide +kernel
theorem d_M_insert_96 : decode qM_insert.1 96 = .ok (.ldc_w 380, 3) := by decide +kernel
theorem d_M_insert_99 : decode qM_insert.1 99 = .ok (.ireturn, 1) := by decide +kernel
theorem d_M_insert_100 : decode qM_insert.1 100 = .ok (.aload_n 0, 1) := by decide +kernel
theorem d_M_insert_101 : decode qM_insert.1 101 = .ok (.invokevirtual 484, 3) := by decide +kernel
theorem d_M_insert_104 : decode qM_insert.1 104 = .ok (.aload_n 0, 1) := by decide +kernel
theorem d_M_insert_105 : decode qM_insert.1 105 = .ok (.sipush 297, 3) := by decide +kernel
theorem d_M_insert_108 : decode qM_insert.1 108 = .ok (.sipush 594, 3) := by decide +kernel
theorem d_M_insert_111 : decode qM_insert.1 111 = .ok (.invokevirtual 480, 3) := by decide +kernel
theorem d_M_insert_114 : decode qM_insert.1 114 = .ok (.iconst 0, 1) := by decide +kernel
theorem d_M_insert_115 : decode qM_insert.1 115 = .ok (.istore 7, 2) := by decide +kernel
theorem d_M_insert_117 : decode qM_insert.1 117 = .ok (.iload 7, 2) := by decide +kernel
theorem d_M_insert_119 : decode qM_insert.1 119 = .ok (.aload_n 0, 1) := by decide +kernel
theorem d_M_insert_120 : decode qM_insert.1 120 = .ok (.getfield 411, 3) := by decide +kernel
theorem d_M_insert_123 : decode qM_insert.1 123 = .ok (.if_icmp .ge 22, 3) := by decide +kernel
theorem d_M_insert_126 : decode qM_insert.1 126 = .ok (.aload_n 0, 1) := by decide +kernel
theorem d_M_insert_127 : decode qM_insert.1 127 = .ok (.iload 7, 2) := by decide +kernel
theorem d_M_insert_129 : decode qM_insert.1 129 = .ok (.sipush 297, 3) := by decide +kernel
theorem d_M_insert_132 : decode qM_insert.1 132 = .ok (.iload_n 1, 1) := by decide +kernel
theorem d_M_insert_133 : decode qM_insert.1 133 = .ok (.iload 7, 2) := by decide +kernel
theorem d_M_insert_135 : decode qM_insert.1 135 = .ok (.iadd, 1) := by decide +kernel
theorem d_M_insert_136 : decode qM_insert.1 136 = .ok (.invokevirtual 487, 3) := by decide +kernel
theorem d_M_insert_139 : decode qM_insert.1 139 = .ok (.iinc 7 1, 3) := by decide +kernel
theorem d_M_insert_142 : decode qM_insert.1 142 = .ok (.goto (-25), 3) := by decide +kernel
theorem d_M_insert_145 : decode qM_insert.1 145 = .ok (.iload 5, 2) := by decide +kernel
theorem d_M_insert_147 : decode qM_insert.1 147 = .ok (.istore 7, 2) := by decide +kernel
theorem d_M_insert_149 : decode qM_insert.1 149 = .ok (.iload 7, 2) := by decide +kernel
theorem d_M_insert_151 : decode qM_insert.1 151 = .ok (.iload_n 3, 1) := by decide +kernel
theorem d_M_insert_152 : decode qM_insert.1 152 = .ok (.if_icmp .ge 33, 3) := by decide +kernel
theorem d_M_insert_155 : decode qM_insert.1 155 = .ok (.aload_n 0, 1) := by decide +kernel
theorem d_M_insert_156 : decode qM_insert.1 156 = .ok (.sipush 594, 3) := by decide +kernel
theorem d_M_insert_159 : decode qM_insert.1 159 = .ok (.iload 7, 2) := by decide +kernel
theorem d_M_insert_161 : decode qM_insert.1 161 = .ok (.sipush 297, 3) := by decide +kernel
theorem d_M_insert_164 : decode qM_insert.1 164 = .ok (.iload_n 1, 1) := by decide +kernel
theorem d_M_insert_165 : decode qM_insert.1 165 = .ok (.aload_n 0, 1) := by decide +kernel
theorem d_M_insert_166 : decode qM_insert.1 166 = .ok (.getfield 411, 3) := by decide +kernel
theorem d_M_insert_169 : decode qM_insert.1 169 = .ok (.iadd, 1) := by decide +kernel
theorem d_M_insert_170 : decode qM_insert.1 170 = .ok (.iload 7, 2) := by decide +kernel
theorem d_M_insert_172 : decode qM_insert.1 172 = .ok (.iadd, 1) := by decide +kernel
theorem d_M_insert_173 : decode qM_insert.1 173 = .ok (.iload 5, 2) := by decide +kernel
theorem d_M_insert_175 : decode qM_insert.1 175 = .ok (.isub, 1) := by decide +kernel
theorem d_M_insert_176 : decode qM_insert.1 176 = .ok (.invokevirtual 497, 3) := by decide +kernel
theorem d_M_insert_179 : decode qM_insert.1 179 = .ok (.iinc 7 1, 3) := by decide +kernel
theorem d_M_insert_182 : decode qM_insert.1 182 = .ok (.goto (-33), 3) := by decide +kernel
theorem d_M_insert_185 : decode qM_insert.1 185 = .ok (.aload_n 0, 1) := by decide +kernel
theorem d_M_insert_186 : decode qM_insert.1 186 = .ok (.getfield 7, 3) := by decide +kernel
theorem d_M_insert_189 : decode qM_insert.1 189 = .ok (.sipush 297, 3) := by decide +kernel
theorem d_M_insert_192 : decode qM_insert.1 192 = .ok (.iload 6, 2) := by decide +kernel
theorem d_M_insert_194 : decode qM_insert.1 194 = .ok (.iastore, 1) := by decide +kernel
theorem d_M_insert_195 : decode qM_insert.1 195 = .ok (.iload 4, 2) := by decide +kernel
theorem d_M_insert_197 : decode qM_insert.1 197 = .ok (.ifCond .ge 24, 3) := by decide +kernel
theorem d_M_insert_200 : decode qM_insert.1 200 = .ok (.iload_n 1, 1) := by decide +kernel
theorem d_M_insert_201 : decode qM_insert.1 201 = .ok (.iload_n 3, 1) := by decide +kernel
theorem d_M_insert_202 : decode qM_insert.1 202 = .ok (.if_icmp .ge 19, 3) := by decide +kernel
theorem d_M_insert_205 : decode qM_insert.1 205 = .ok (.aload_n 0, 1) := by decide +kernel
theorem d_M_insert_206 : decode qM_insert.1 206 = .ok (.sipush 297, 3) := by decide +kernel
theorem d_M_insert_209 : decode qM_insert.1 209 = .ok (.iload_n 1, 1) := by decide +kernel
theorem d_M_insert_210 : decode qM_insert.1 210 = .ok (.aload_n 0, 1) := by decide +kernel
theorem d_M_insert_211 : decode qM_insert.1 211 = .ok (.getfield 411, 3) := by decide +kernel
theorem d_M_insert_214 : decode qM_insert.1 214 = .ok (.iadd, 1) := by decide +kernel
theorem d_M_insert_215 : decode qM_insert.1 215 = .ok (.bipush 13, 2) := by decide +kernel
theorem d_M_insert_217 : decode qM_insert.1 217 = .ok (.iconst 1, 1) := by decide +kernel
theorem d_M_insert_218 : decode qM_insert.1 218 = .ok (.invokevirtual 500, 3) := by decide +kernel
theorem d_M_insert_221 : decode qM_insert.1 221 = .ok (.iload 6, 2) := by decide +kernel
theorem d_M_insert_223 : decode qM_insert.1 223 = .ok (.ireturn, 1) := by decide +kernel
set_option maxRecDepth 100000 in
def lb_m_insert_149 (p1 : Int32) (x2 : Int32) (x8 : Int32) (J16 : St → Option (Int32 × St)) (ih22 : Int32 × St → Option (Int32 × St)) (a21 : Int32 × St) : Option (Int32 × St) :=
  if (x2 : Int32) ≤ a21.1 then (
  J16 a21.2
  ) else (
  Option.bind (m_copyLeg a21.2 (594 : Int32) a21.1 (297 : Int32) (((p1 + (a21.2 0 73)) + a21.1) - x8)) fun x23 =>
  Lt (a21.1 + (1 : Int32) : Int32) fun x24 =>
  ih22 (x24, x23)
  )
set_option maxRecDepth 100000 in
def lb_m_insert_117 (p1 : Int32) (J14 : St → Option (Int32 × St)) (ih26 : Int32 × St → Option (Int32 × St)) (a25 : Int32 × St) : Option (Int32 × St) :=
  if ((a25.2 0 73) : Int32) ≤ a25.1 then (
  J14 a25.2
  ) else (
  Option.bind (m_laysTold a25.2 a25.1 (297 : Int32) (p1 + a25.1)) fun x27 =>
  Lt (a25.1 + (1 : Int32) : Int32) fun x28 =>
  ih26 (x28, x27)
  )
set_option maxRecDepth 100000 in
def m_insert (σ : St) (p1 : Int32) : Option (Int32 × St) :=
  Option.bind (m_edited σ) fun x1 =>
  Option.bind (m_count σ x1) fun x2 =>
  Option.bind (m_in (Int32.toInt64 p1) (0 : Int64) (Int32.toInt64 x2)) fun x3 =>
  if (x3 : Int32) = 0 then (
  some ((-1000001 : Int32), σ)
  ) else (
  Option.bind (m_reads σ) fun x4 =>
  Jn (fun (_ : Unit) =>
  some ((-1000003 : Int32), x4.2)
  ) fun J5 =>
  if (x4.1 : Int32) = 0 then (
  J5 ()
  ) else (
  Jn (fun (_ : Unit) =>
  Option.bind (m_joined x4.2 x1 p1) fun x7 =>
  Jn (fun (x8 : Int32) =>
  Lt ((((p1 + (x4.2 0 73)) + x2) - x8) : Int32) fun x10 =>
  if (x10 : Int32) ≤ (20 : Int32) then (
  Option.bind (m_begins x4.2) fun x11 =>
  Option.bind (m_copyPlan x11 (297 : Int32) (594 : Int32)) fun x12 =>
  Jn (fun (σ13 : St) =>
  Jn (fun (σ15 : St) =>
  Gd (Ix (297 : Int32) 2673) <|
  Lt (s2 σ15 1 (Int32.toNatClampNeg (297 : Int32)) x10) fun σ17 =>
  Jn (fun (σ18 : St) =>
  some (x10, σ18)
  ) fun J19 =>
  if (0 : Int32) ≤ x7 then (
  J19 σ17
  ) else (
  if (x2 : Int32) ≤ p1 then (
  J19 σ17
  ) else (
  Option.bind (m_sets σ17 (297 : Int32) (p1 + (σ17 0 73)) (13 : Int32) (1 : Int32)) fun x20 =>
  J19 x20
  )
  )
  ) fun J16 =>
  lp (lb_m_insert_149 p1 x2 x8 J16) 4000 (x8, σ13)
  ) fun J14 =>
  lp (lb_m_insert_117 p1 J14) 4000 ((0 : Int32), x12)
  ) else (
  some ((-1000004 : Int32), x4.2)
  )
  ) fun J9 =>
  if (0 : Int32) ≤ x7 then (
  J9 (x7 + (1 : Int32))
  ) else (
  J9 p1
  )
  ) fun J6 =>
  if (x2 : Int32) ≤ 0 then (
  J6 ()
  ) else (
  Gd (Ix (x1 + (1 : Int32)) 2673) <|
  if ((x4.2 1 (Int32.toNatClampNeg (x1 + (1 : Int32)))) : Int32) < p1 then (
  J6 ()
  ) else (
  J5 ()
  )
  )
  )
  )
set_option maxHeartbeats 4000000 in
set_option maxRecDepth 100000 in
theorem cM_insert (l : Launch) (g : Ge) (hi : injB wM.2 g) (σ : St) (p1 : Int32) (x : Int32 × St) (h : m_insert σ p1 = some x) : Ct l wM g yM_insert qM_insert 8 179 [.ref (g.1 0), .int p1] σ (some (.int x.1), x.2) := by
  refine Ct.of (out := o_w) FM_insert rfl hi rfl h (fun z hz C => ?_)
  clear h
  subst hz
  unfold m_insert
  show Rt z qM_insert wM g o_w 0 [(0, .ref (g.1 0)), (1, .int p1)] [] σ _
  refine q_aload_n (pc' := 1) C 0 d_M_insert_0 rfl rfl ?_
  refine q_callVr (fr' := 0) (lo' := 0) (pc' := 4) C FM_edited lmM_490 d_M_insert_1 0 jM_0 kM_0 cM0 [] [] rfl rfl (Nat.le_of_ble_eq_true rfl) ⟨rfl, rfl⟩ (fun x h => cM_edited _ g hi σ x h) rfl (fun x1 _ => ?_)
  refine q_istore_n (pc' := 5) (lv' := [(2, .int x1), (0, .ref (g.1 0)), (1, .int p1)]) C d_M_insert_4 (by decide) rfl rfl ?_
  refine q_aload_n (pc' := 6) C 1 d_M_insert_5 rfl rfl ?_
  refine q_iload_n (pc' := 7) C 0 d_M_insert_6 rfl rfl ?_
  refine q_callVr (fr' := 0) (lo' := 0) (pc' := 10) C FM_count lmM_218 d_M_insert_7 0 jM_0 kM_0 cM0 [.int x1] [] rfl rfl (Nat.le_of_ble_eq_true rfl) ⟨rfl, rfl⟩ (fun x h => cM_count _ g hi σ x1 x h) rfl (fun x2 _ => ?_)
  refine q_istore_n (pc' := 11) (lv' := [(3, .int x2), (2, .int x1), (0, .ref (g.1 0)), (1, .int p1)]) C d_M_insert_10 (by decide) rfl rfl ?_
  refine q_iload_n (pc' := 12) C 3 d_M_insert_11 rfl rfl ?_
  refine q_i2l (pc' := 13) C d_M_insert_12 rfl ?_
  refine q_lconst (pc' := 14) C d_M_insert_13 kl_0 rfl ?_
  refine q_iload_n (pc' := 15) C 0 d_M_insert_14 rfl rfl ?_
  refine q_i2l (pc' := 16) C d_M_insert_15 rfl ?_
  refine q_callSr (fr' := 0) (lo' := 0) (pc' := 19) C FM_in lmM_232 d_M_insert_16 [.long (Int32.toInt64 p1), .long (0 : Int64), .long (Int32.toInt64 x2)] [] rfl rfl (Nat.le_of_ble_eq_true rfl) ⟨rfl, rfl⟩ (fun x h => cM_in _ g hi σ (Int32.toInt64 p1) (0 : Int64) (Int32.toInt64 x2) x h) rfl (fun x3 _ => ?_)
  refine q_if_ne (tgt := 26) (pc' := 22) C d_M_insert_19 rfl rfl ?_ ?_
  · refine q_aload_n (pc' := 27) C 2 d_M_insert_26 rfl rfl ?_
    refine q_callVw (fr' := 7) (lo' := 158) (pc' := 30) C FM_reads lmM_450 d_M_insert_27 0 jM_0 kM_0 cM0 [] [] rfl rfl (Nat.le_of_ble_eq_true rfl) ⟨rfl, rfl⟩ (fun x h => cM_reads _ g hi σ x h) rfl (fun x4 _ => ?_)
    refine q_join (fun J5 : Unit → Option (Int32 × St) => ∀ (_ : Unit), Rt z qM_insert wM g o_w 49 [] [] x4.2 (J5 ())) (fun _ => ?_) (fun J5 hJ5 => ?_)
    · refine q_ldcw (pc' := 52) C lcM_483 d_M_insert_49 rfl ?_
      exact q_iret C rfl d_M_insert_52 rfl
    refine q_if_eq (tgt := 49) (pc' := 33) C d_M_insert_30 rfl rfl ?_ ?_
    · exact Rt.sub [] rfl (hJ5 ())
    · refine q_iload_n (pc' := 34) C 0 d_M_insert_33 rfl rfl ?_
      refine q_join (fun J6 : Unit → Option (Int32 × St) => ∀ (_ : Unit), Rt z qM_insert wM g o_w 53 [(0, .ref (g.1 0)), (1, .int p1), (2, .int x1), (3, .int x2)] [] x4.2 (J6 ())) (fun _ => ?_) (fun J6 hJ6 => ?_)
      · refine q_aload_n (pc' := 54) C 0 d_M_insert_53 rfl rfl ?_
        refine q_iload_n (pc' := 55) C 2 d_M_insert_54 rfl rfl ?_
        refine q_iload_n (pc' := 56) C 1 d_M_insert_55 rfl rfl ?_
        refine q_callVr (fr' := 1) (lo' := 23) (pc' := 59) C FM_joined lmM_494 d_M_insert_56 0 jM_0 kM_0 cM0 [.int x1, .int p1] [] rfl rfl (Nat.le_of_ble_eq_true rfl) ⟨rfl, rfl⟩ (fun x h => cM_joined _ g hi x4.2 x1 p1 x h) rfl (fun x7 _ => ?_)
        refine q_istore (pc' := 61) (lv' := [(4, .int x7), (0, .ref (g.1 0)), (1, .int p1), (2, .int x1), (3, .int x2)]) C d_M_insert_59 (by decide) rfl rfl ?_
        refine q_iload (pc' := 63) C 0 d_M_insert_61 rfl rfl ?_
        refine q_join (fun J9 : Int32 → Option (Int32 × St) => ∀ (x8 : Int32), Rt z qM_insert wM g o_w 74 [(0, .ref (g.1 0)), (1, .int p1), (3, .int x2), (4, .int x7)] [.int x8] x4.2 (J9 x8)) (fun x8 => ?_) (fun J9 hJ9 => ?_)
        · refine q_istore (pc' := 76) (lv' := [(5, .int x8), (0, .ref (g.1 0)), (1, .int p1), (3, .int x2), (4, .int x7)]) C d_M_insert_74 (by decide) rfl rfl ?_
          refine q_iload_n (pc' := 77) C 2 d_M_insert_76 rfl rfl ?_
          refine q_aload_n (pc' := 78) C 1 d_M_insert_77 rfl rfl ?_
          refine gM_411 (pc' := 81) C d_M_insert_78 rfl rfl ?_
          refine q_iadd (pc' := 82) C d_M_insert_81 rfl ?_
          refine q_iload_n (pc' := 83) C 3 d_M_insert_82 rfl rfl ?_
          refine q_iadd (pc' := 84) C d_M_insert_83 rfl ?_
          refine q_iload (pc' := 86) C 0 d_M_insert_84 rfl rfl ?_
          refine q_isub (pc' := 87) C d_M_insert_86 rfl ?_
          refine q_let (fun x10 e10 => ?_)
          refine q_topi e10 ?_
          refine q_istore (pc' := 89) (lv' := [(6, .int x10), (5, .int x8), (0, .ref (g.1 0)), (1, .int p1), (3, .int x2), (4, .int x7)]) C d_M_insert_87 (by decide) rfl rfl ?_
          refine q_iload (pc' := 91) C 0 d_M_insert_89 rfl rfl ?_
          refine q_bipush (pc' := 93) C d_M_insert_91 kb_20 rfl ?_
          refine q_icmp_le (tgt := 100) (pc' := 96) C d_M_insert_93 rfl rfl ?_ ?_
          · refine q_aload_n (pc' := 101) C 2 d_M_insert_100 rfl rfl ?_
            refine q_callVv (fr' := 1) (lo' := 23) (pc' := 104) C FM_begins lmM_484 d_M_insert_101 0 jM_0 kM_0 cM0 [] [] rfl rfl (Nat.le_of_ble_eq_true rfl) ⟨rfl, rfl⟩ (fun x h => cM_begins _ g hi x4.2 x h) rfl (fun x11 _ => ?_)
            refine q_aload_n (pc' := 105) C 2 d_M_insert_104 rfl rfl ?_
            refine q_sipush (pc' := 108) C d_M_insert_105 ks_297 rfl ?_
            refine q_sipush (pc' := 111) C d_M_insert_108 ks_594 rfl ?_
            refine q_callVv (fr' := 0) (lo' := 0) (pc' := 114) C FM_copyPlan lmM_480 d_M_insert_111 0 jM_0 kM_0 cM0 [.int (297 : Int32), .int (594 : Int32)] [] rfl rfl (Nat.le_of_ble_eq_true rfl) ⟨rfl, rfl⟩ (fun x h => cM_copyPlan _ g hi x11 (297 : Int32) (594 : Int32) x h) rfl (fun x12 _ => ?_)
            refine q_iconst (pc' := 115) C d_M_insert_114 ki_0 rfl ?_
            refine q_istore (pc' := 117) (lv' := [(7, .int (0 : Int32)), (6, .int x10), (5, .int x8), (0, .ref (g.1 0)), (1, .int p1), (3, .int x2), (4, .int x7)]) C d_M_insert_115 (by decide) rfl rfl ?_
            refine q_join (fun J14 : St → Option (Int32 × St) => ∀ (σ13 : St), Rt z qM_insert wM g o_w 145 [(0, .ref (g.1 0)), (1, .int p1), (3, .int x2), (4, .int x7), (5, .int x8), (6, .int x10)] [] σ13 (J14 σ13)) (fun σ13 => ?_) (fun J14 hJ14 => ?_)
            · refine q_iload (pc' := 147) C 4 d_M_insert_145 rfl rfl ?_
              refine q_istore (pc' := 149) (lv' := [(7, .int x8), (0, .ref (g.1 0)), (1, .int p1), (3, .int x2), (4, .int x7), (5, .int x8), (6, .int x10)]) C d_M_insert_147 (by decide) rfl rfl ?_
              refine q_join (fun J16 : St → Option (Int32 × St) => ∀ (σ15 : St), Rt z qM_insert wM g o_w 185 [(0, .ref (g.1 0)), (1, .int p1), (3, .int x2), (4, .int x7), (6, .int x10)] [] σ15 (J16 σ15)) (fun σ15 => ?_) (fun J16 hJ16 => ?_)
              · refine q_aload_n (pc' := 186) C 0 d_M_insert_185 rfl rfl ?_
                refine gM_7 (pc' := 189) C d_M_insert_186 rfl rfl ?_
                refine q_sipush (pc' := 192) C d_M_insert_189 ks_297 rfl ?_
                refine q_iload (pc' := 194) C 4 d_M_insert_192 rfl rfl ?_
                refine q_iast (pc' := 195) C 1 jM_1 kM_1 d_M_insert_194 rfl ?_
                refine q_let (fun σ17 e17 => ?_)
                refine q_state e17 ?_
                refine q_iload (pc' := 197) C 3 d_M_insert_195 rfl rfl ?_
                refine q_join (fun J19 : St → Option (Int32 × St) => ∀ (σ18 : St), Rt z qM_insert wM g o_w 221 [(6, .int x10)] [] σ18 (J19 σ18)) (fun σ18 => ?_) (fun J19 hJ19 => ?_)
                · refine q_iload (pc' := 223) C 0 d_M_insert_221 rfl rfl ?_
                  exact q_iret C rfl d_M_insert_223 rfl
                refine q_if_ge (tgt := 221) (pc' := 200) C d_M_insert_197 rfl rfl ?_ ?_
                · exact Rt.sub [4] rfl (hJ19 σ17)
                · refine q_iload_n (pc' := 201) C 1 d_M_insert_200 rfl rfl ?_
                  refine q_iload_n (pc' := 202) C 2 d_M_insert_201 rfl rfl ?_
                  refine q_icmp_ge (tgt := 221) (pc' := 205) C d_M_insert_202 rfl rfl ?_ ?_
                  · exact Rt.sub [4] rfl (hJ19 σ17)
                  · refine q_aload_n (pc' := 206) C 0 d_M_insert_205 rfl rfl ?_
                    refine q_sipush (pc' := 209) C d_M_insert_206 ks_297 rfl ?_
                    refine q_iload_n (pc' := 210) C 1 d_M_insert_209 rfl rfl ?_
                    refine q_aload_n (pc' := 211) C 0 d_M_insert_210 rfl rfl ?_
                    refine gM_411 (pc' := 214) C d_M_insert_211 rfl rfl ?_
                    refine q_iadd (pc' := 215) C d_M_insert_214 rfl ?_
                    refine q_bipush (pc' := 217) C d_M_insert_215 kb_13 rfl ?_
                    refine q_iconst (pc' := 218) C d_M_insert_217 ki_1 rfl ?_
                    refine q_callVv (fr' := 0) (lo' := 0) (pc' := 221) C FM_sets lmM_500 d_M_insert_218 0 jM_0 kM_0 cM0 [.int (297 : Int32), .int (p1 + (σ17 0 73)), .int (13 : Int32), .int (1 : Int32)] [] rfl rfl (Nat.le_of_ble_eq_true rfl) ⟨rfl, rfl⟩ (fun x h => cM_sets _ g hi σ17 (297 : Int32) (p1 + (σ17 0 73)) (13 : Int32) (1 : Int32) x h) rfl (fun x20 _ => ?_)
                    exact Rt.sub [4] rfl (hJ19 x20)
              refine Rt.sub [1, 2, 3, 4, 5, 6, 0] rfl (q_lp (fun a21 : Int32 × St => [(0, .ref (g.1 0)), (1, .int p1), (3, .int x2), (4, .int x7), (5, .int x8), (6, .int x10), (7, .int a21.1)]) (fun a21 => []) (fun a21 => a21.2) (fun ih22 hih22 a21 => ?_) 4000 (x8, σ13))
              unfold lb_m_insert_149
              refine q_iload (pc' := 151) C 6 d_M_insert_149 rfl rfl ?_
              refine q_iload_n (pc' := 152) C 2 d_M_insert_151 rfl rfl ?_
              refine q_icmp_ge (tgt := 185) (pc' := 155) C d_M_insert_152 rfl rfl ?_ ?_
              · exact Rt.sub [0, 1, 2, 3, 5] rfl (hJ16 a21.2)
              · refine q_aload_n (pc' := 156) C 0 d_M_insert_155 rfl rfl ?_
                refine q_sipush (pc' := 159) C d_M_insert_156 ks_594 rfl ?_
                refine q_iload (pc' := 161) C 6 d_M_insert_159 rfl rfl ?_
                refine q_sipush (pc' := 164) C d_M_insert_161 ks_297 rfl ?_
                refine q_iload_n (pc' := 165) C 1 d_M_insert_164 rfl rfl ?_
                refine q_aload_n (pc' := 166) C 0 d_M_insert_165 rfl rfl ?_
                refine gM_411 (pc' := 169) C d_M_insert_166 rfl rfl ?_
                refine q_iadd (pc' := 170) C d_M_insert_169 rfl ?_
                refine q_iload (pc' := 172) C 6 d_M_insert_170 rfl rfl ?_
                refine q_iadd (pc' := 173) C d_M_insert_172 rfl ?_
                refine q_iload (pc' := 175) C 4 d_M_insert_173 rfl rfl ?_
                refine q_isub (pc' := 176) C d_M_insert_175 rfl ?_
                refine q_callVv (fr' := 0) (lo' := 0) (pc' := 179) C FM_copyLeg lmM_497 d_M_insert_176 0 jM_0 kM_0 cM0 [.int (594 : Int32), .int a21.1, .int (297 : Int32), .int (((p1 + (a21.2 0 73)) + a21.1) - x8)] [] rfl rfl (Nat.le_of_ble_eq_true rfl) ⟨rfl, rfl⟩ (fun x h => cM_copyLeg _ g hi a21.2 (594 : Int32) a21.1 (297 : Int32) (((p1 + (a21.2 0 73)) + a21.1) - x8) x h) rfl (fun x23 _ => ?_)
                refine q_let (fun x24 e24 => ?_)
                refine q_iinc (pc' := 182) (lv' := [(7, .int x24), (0, .ref (g.1 0)), (1, .int p1), (3, .int x2), (4, .int x7), (5, .int x8), (6, .int x10)]) C 6 d_M_insert_179 rfl (by rw [e24, ki_1]) (by decide) rfl rfl ?_
                refine q_goto (tgt := 149) C d_M_insert_182 rfl ?_
                exact Rt.sub [1, 2, 3, 4, 5, 6, 0] rfl (hih22 (x24, x23))
            refine Rt.sub [3, 4, 5, 6, 2, 1, 0] rfl (q_lp (fun a25 : Int32 × St => [(0, .ref (g.1 0)), (1, .int p1), (3, .int x2), (4, .int x7), (5, .int x8), (6, .int x10), (7, .int a25.1)]) (fun a25 => []) (fun a25 => a25.2) (fun ih26 hih26 a25 => ?_) 4000 ((0 : Int32), x12))
            unfold lb_m_insert_117
            refine q_iload (pc' := 119) C 6 d_M_insert_117 rfl rfl ?_
            refine q_aload_n (pc' := 120) C 0 d_M_insert_119 rfl rfl ?_
            refine gM_411 (pc' := 123) C d_M_insert_120 rfl rfl ?_
            refine q_icmp_ge (tgt := 145) (pc' := 126) C d_M_insert_123 rfl rfl ?_ ?_
            · exact Rt.sub [0, 1, 2, 3, 4, 5] rfl (hJ14 a25.2)
            · refine q_aload_n (pc' := 127) C 0 d_M_insert_126 rfl rfl ?_
              refine q_iload (pc' := 129) C 6 d_M_insert_127 rfl rfl ?_
              refine q_sipush (pc' := 132) C d_M_insert_129 ks_297 rfl ?_
              refine q_iload_n (pc' := 133) C 1 d_M_insert_132 rfl rfl ?_
              refine q_iload (pc' := 135) C 6 d_M_insert_133 rfl rfl ?_
              refine q_iadd (pc' := 136) C d_M_insert_135 rfl ?_
              refine q_callVv (fr' := 0) (lo' := 0) (pc' := 139) C FM_laysTold lmM_487 d_M_insert_136 0 jM_0 kM_0 cM0 [.int a25.1, .int (297 : Int32), .int (p1 + a25.1)] [] rfl rfl (Nat.le_of_ble_eq_true rfl) ⟨rfl, rfl⟩ (fun x h => cM_laysTold _ g hi a25.2 a25.1 (297 : Int32) (p1 + a25.1) x h) rfl (fun x27 _ => ?_)
              refine q_let (fun x28 e28 => ?_)
              refine q_iinc (pc' := 142) (lv' := [(7, .int x28), (0, .ref (g.1 0)), (1, .int p1), (3, .int x2), (4, .int x7), (5, .int x8), (6, .int x10)]) C 6 d_M_insert_139 rfl (by rw [e28, ki_1]) (by decide) rfl rfl ?_
              refine q_goto (tgt := 117) C d_M_insert_142 rfl ?_
              exact Rt.sub [1, 2, 3, 4, 5, 6, 0] rfl (hih26 (x28, x27))
          · refine q_ldcw (pc' := 99) C lcM_380 d_M_insert_96 rfl ?_
            exact q_iret C rfl d_M_insert_99 rfl
        refine q_if_ge (tgt := 70) (pc' := 66) C d_M_insert_63 rfl rfl ?_ ?_
        · refine q_iload (pc' := 72) C 0 d_M_insert_70 rfl rfl ?_
          refine q_iconst (pc' := 73) C d_M_insert_72 ki_1 rfl ?_
          refine q_iadd (pc' := 74) C d_M_insert_73 rfl ?_
          exact Rt.sub [1, 2, 4, 0] rfl (hJ9 (x7 + (1 : Int32)))
        · refine q_iload_n (pc' := 67) C 2 d_M_insert_66 rfl rfl ?_
          refine q_goto (tgt := 74) C d_M_insert_67 rfl ?_
          exact Rt.sub [1, 2, 4, 0] rfl (hJ9 p1)
      refine q_if_le (tgt := 53) (pc' := 37) C d_M_insert_34 rfl rfl ?_ ?_
      · exact Rt.sub [2, 3, 1, 0] rfl (hJ6 ())
      · refine q_iload_n (pc' := 38) C 3 d_M_insert_37 rfl rfl ?_
        refine q_aload_n (pc' := 39) C 2 d_M_insert_38 rfl rfl ?_
        refine gM_7 (pc' := 42) C d_M_insert_39 rfl rfl ?_
        refine q_iload_n (pc' := 43) C 1 d_M_insert_42 rfl rfl ?_
        refine q_iconst (pc' := 44) C d_M_insert_43 ki_1 rfl ?_
        refine q_iadd (pc' := 45) C d_M_insert_44 rfl ?_
        refine q_iald (pc' := 46) C 1 jM_1 kM_1 d_M_insert_45 rfl ?_
        refine q_icmp_gt (tgt := 53) (pc' := 49) C d_M_insert_46 rfl rfl ?_ ?_
        · exact Rt.sub [2, 3, 1, 0] rfl (hJ6 ())
        · exact Rt.sub [] rfl (hJ5 ())
  · refine q_ldcw (pc' := 25) C lcM_493 d_M_insert_22 rfl ?_
    exact q_iret C rfl d_M_insert_25 rfl
theorem d_M_isLeg_0 : decode qM_isLeg.1 0 = .ok (.iload_n 2, 1) := by decide +kernel
theorem d_M_isLeg_1 : decode qM_isLeg.1 1 = .ok (.i2l, 1) := by decide +kernel
theorem d_M_isLeg_2 : decode qM_isLeg.1 2 = .ok (.lconst 0, 1) := by decide +kernel
theorem d_M_isLeg_3 : decode qM_isLeg.1 3 = .ok (.aload_n 0, 1) := by decide +kernel
theorem d_M_isLeg_4 : decode qM_isLeg.1 4 = .ok (.iload_n 1, 1) := by decide +kernel
theorem d_M_isLeg_5 : decode qM_isLeg.1 5 = .ok (.invokevirtual 218, 3) := by decide +kernel
theorem d_M_isLeg_8 : decode qM_isLeg.1 8 = .ok (.iconst 1, 1) := by decide +kernel
theorem d_M_isLeg_9 : decode qM_isLeg.1 9 = .ok (.isub, 1) := by decide +kernel
theorem d_M_isLeg_10 : decode qM_isLeg.1 10 = .ok (.i2l, 1) := by decide +kernel
theorem d_M_isLeg_11 : decode qM_isLeg.1 11 = .ok (.invokestatic 232, 3) := by decide +kernel
theorem d_M_isLeg_14 : decode qM_isLeg.1 14 = .ok (.ireturn, 1) := by decide +kernel
set_option maxRecDepth 100000 in
def m_isLeg (σ : St) (p1 : Int32) (p2 : Int32) : Option (Int32) :=
  Option.bind (m_count σ p1) fun x1 =>
  Option.bind (m_in (Int32.toInt64 p2) (0 : Int64) (Int32.toInt64 (x1 - (1 : Int32)))) fun x2 =>
  Gd ((x2 : Int32) &&& 1 = x2) <|
  some x2
set_option maxHeartbeats 4000000 in
set_option maxRecDepth 100000 in
theorem cM_isLeg (l : Launch) (g : Ge) (hi : injB wM.2 g) (σ : St) (p1 : Int32) (p2 : Int32) (x : Int32) (h : m_isLeg σ p1 p2 = some x) : Ct l wM g yM_isLeg qM_isLeg 1 25 [.ref (g.1 0), .int p1, .int p2] σ (some (.int x), σ) := by
  refine Ct.of (out := (o_r σ)) FM_isLeg rfl hi rfl h (fun z hz C => ?_)
  clear h
  subst hz
  unfold m_isLeg
  show Rt z qM_isLeg wM g (o_r σ) 0 [(0, .ref (g.1 0)), (1, .int p1), (2, .int p2)] [] σ _
  refine q_iload_n (pc' := 1) C 2 d_M_isLeg_0 rfl rfl ?_
  refine q_i2l (pc' := 2) C d_M_isLeg_1 rfl ?_
  refine q_lconst (pc' := 3) C d_M_isLeg_2 kl_0 rfl ?_
  refine q_aload_n (pc' := 4) C 0 d_M_isLeg_3 rfl rfl ?_
  refine q_iload_n (pc' := 5) C 1 d_M_isLeg_4 rfl rfl ?_
  refine q_callVr (fr' := 0) (lo' := 0) (pc' := 8) C FM_count lmM_218 d_M_isLeg_5 0 jM_0 kM_0 cM0 [.int p1] [.long (0 : Int64), .long (Int32.toInt64 p2)] rfl rfl (Nat.le_of_ble_eq_true rfl) ⟨rfl, rfl⟩ (fun x h => cM_count _ g hi σ p1 x h) rfl (fun x1 _ => ?_)
  refine q_iconst (pc' := 9) C d_M_isLeg_8 ki_1 rfl ?_
  refine q_isub (pc' := 10) C d_M_isLeg_9 rfl ?_
  refine q_i2l (pc' := 11) C d_M_isLeg_10 rfl ?_
  refine q_callSr (fr' := 0) (lo' := 0) (pc' := 14) C FM_in lmM_232 d_M_isLeg_11 [.long (Int32.toInt64 p2), .long (0 : Int64), .long (Int32.toInt64 (x1 - (1 : Int32)))] [] rfl rfl (Nat.le_of_ble_eq_true rfl) ⟨rfl, rfl⟩ (fun x h => cM_in _ g hi σ (Int32.toInt64 p2) (0 : Int64) (Int32.toInt64 (x1 - (1 : Int32))) x h) rfl (fun x2 _ => ?_)
  refine q_guard (fun gx3 => ?_)
  exact q_zret C rfl gx3 d_M_isLeg_14 rfl
theorem d_M_delete_0 : decode qM_delete.1 0 = .ok (.aload_n 0, 1) := by decide +kernel
theorem d_M_delete_1 : decode qM_delete.1 1 = .ok (.invokevirtual 490, 3) := by decide +kernel
theorem d_M_delete_4 : decode qM_delete.1 4 = .ok (.istore_n 2, 1) := by decide +kernel
theorem d_M_delete_5 : decode qM_delete.1 5 = .ok (.aload_n 0, 1) := by decide +kernel
theorem d_M_delete_6 : decode qM_delete.1 6 = .ok (.iload_n 2, 1) := by decide +kernel
theorem d_M_delete_7 : decode qM_delete.1 7 = .ok (.iload_n 1, 1) := by decide +kernel
theorem d_M_delete_8 : decode qM_delete.1 8 = .ok (.invokevirtual 503, 3) := by decide +kernel
theorem d_M_delete_11 : decode qM_delete.1 11 = .ok (.ifCond .ne 7, 3) := by decide +kernel
theorem d_M_delete_14 : decode qM_delete.1 14 = .ok (.ldc_w 493, 3) := by decide +kernel
theorem d_M_delete_17 : decode qM_delete.1 17 = .ok (.ireturn, 1) := by decide +kernel
theorem d_M_delete_18 : decode qM_delete.1 18 = .ok (.iload_n 1, 1) := by decide +kernel
theorem d_M_delete_19 : decode qM_delete.1 19 = .ok (.aload_n 0, 1) := by decide +kernel
theorem d_M_delete_20 : decode qM_delete.1 20 = .ok (.getfield 7, 3) := by decide +kernel
theorem d_M_delete_23 : decode qM_delete.1 23 = .ok (.iload_n 2, 1) := by decide +kernel
theorem d_M_delete_24 : decode qM_delete.1 24 = .ok (.iconst 1, 1) := by decide +kernel
theorem d_M_delete_25 : decode qM_delete.1 25 = .ok (.iadd, 1) := by decide +kernel
theorem d_M_delete_26 : decode qM_delete.1 26 = .ok (.iaload, 1) := by decide +kernel
theorem d_M_delete_27 : decode qM_delete.1 27 = .ok (.if_icmp .gt 7, 3) := by decide +kernel
theorem d_M_delete_30 : decode qM_delete.1 30 = .ok (.ldc_w 483, 3) := by decide +kernel
theorem d_M_delete_33 : decode qM_delete.1 33 = .ok (.ireturn, 1) := by decide +kernel
theorem d_M_delete_34 : decode qM_delete.1 34 = .ok (.aload_n 0, 1) := by decide +kernel
theorem d_M_delete_35 : decode qM_delete.1 35 = .ok (.invokevirtual 484, 3) := by decide +kernel
theorem d_M_delete_38 : decode qM_delete.1 38 = .ok (.aload_n 0, 1) := by decide +kernel
theorem d_M_delete_39 : decode qM_delete.1 39 = .ok (.sipush 297, 3) := by decide +kernel
theorem d_M_delete_42 : decode qM_delete.1 42 = .ok (.invokevirtual 218, 3) := by decide +kernel
theorem d_M_delete_45 : decode qM_delete.1 45 = .ok (.iconst 1, 1) := by decide +kernel
theorem d_M_delete_46 : decode qM_delete.1 46 = .ok (.isub, 1) := by decide +kernel
theorem d_M_delete_47 : decode qM_delete.1 47 = .ok (.istore_n 3, 1) := by decide +kernel
theorem d_M_delete_48 : decode qM_delete.1 48 = .ok (.iload_n 1, 1) := by decide +kernel
theorem d_M_delete_49 : decode qM_delete.1 49 = .ok (.istore 4, 2) := by decide +kernel
theorem d_M_delete_51 : decode qM_delete.1 51 = .ok (.iload 4, 2) := by decide +kernel
theorem d_M_delete_53 : decode qM_delete.1 53 = .ok (.iload_n 3, 1) := by decide +kernel
theorem d_M_delete_54 : decode qM_delete.1 54 = .ok (.if_icmp .ge 25, 3) := by decide +kernel
theorem d_M_delete_57 : decode qM_delete.1 57 = .ok (.aload_n 0, 1) := by decide +kernel
theorem d_M_delete_58 : decode qM_delete.1 58 = .ok (.sipush 297, 3) := by decide +kernel
theorem d_M_delete_61 : decode qM_delete.1 61 = .ok (.iload 4, 2) := by decide +kernel
theorem d_M_delete_63 : decode qM_delete.1 63 = .ok (.iconst 1, 1) := by decide +kernel
theorem d_M_delete_64 : decode qM_delete.1 64 = .ok (.iadd, 1) := by decide +kernel
theorem d_M_delete_65 : decode qM_delete.1 65 = .ok (.sipush 297, 3) := by decide +kernel
theorem d_M_delete_68 : decode qM_delete.1 68 = .ok (.iload 4, 2) := by decide +kernel
theorem d_M_delete_70 : decode qM_delete.1 70 = .ok (.invokevirtual 497, 3) := by decide +kernel
theorem d_M_delete_73 : decode qM_delete.1 73 = .ok (.iinc 4 1, 3) := by decide +kernel
theorem d_M_delete_76 : decode qM_delete.1 76 = .ok (.goto (-25), 3) := by decide +kernel
theorem d_M_delete_79 : decode qM_delete.1 79 = .ok (.aload_n 0, 1) := by decide +kernel
theorem d_M_delete_80 : decode qM_delete.1 80 = .ok (.getfield 7, 3) := by decide +kernel
theorem d_M_delete_83 : decode qM_delete.1 83 = .ok (.sipush 297, 3) := by decide +kernel
theorem d_M_delete_86 : decode qM_delete.1 86 = .ok (.iload_n 3, 1) := by decide +kernel
theorem d_M_delete_87 : decode qM_delete.1 87 = .ok (.iastore, 1) := by decide +kernel
theorem d_M_delete_88 : decode qM_delete.1 88 = .ok (.iload_n 1, 1) := by decide +kernel
theorem d_M_delete_89 : decode qM_delete.1 89 = .ok (.iload_n 3, 1) := by decide +kernel
theorem d_M_delete_90 : decode qM_delete.1 90 = .ok (.if_icmp .ge 14, 3) := by decide +kernel
theorem d_M_delete_93 : decode qM_delete.1 93 = .ok (.aload_n 0, 1) := by decide +kernel
theorem d_M_delete_94 : decode qM_delete.1 94 = .ok (.sipush 297, 3) := by decide +kernel
theorem d_M_delete_97 : decode qM_delete.1 97 = .ok (.iload_n 1, 1) := by decide +kernel
theorem d_M_delete_98 : decode qM_delete.1 98 = .ok (.bipush 13, 2) := by decide +kernel
theorem d_M_delete_100 : decode qM_delete.1 100 = .ok (.iconst 1, 1) := by decide +kernel
theorem d_M_delete_101 : decode qM_delete.1 101 = .ok (.invokevirtual 500, 3) := by decide +kernel
theorem d_M_delete_104 : decode qM_delete.1 104 = .ok (.iload_n 3, 1) := by decide +kernel
theorem d_M_delete_105 : decode qM_delete.1 105 = .ok (.ireturn, 1) := by decide +kernel
set_option maxRecDepth 100000 in
def lb_m_delete_51 (x5 : Int32) (J7 : St → Option (Int32 × St)) (ih13 : Int32 × St → Option (Int32 × St)) (a12 : Int32 × St) : Option (Int32 × St) :=
  if (x5 : Int32) ≤ a12.1 then (
  J7 a12.2
  ) else (
  Option.bind (m_copyLeg a12.2 (297 : Int32) (a12.1 + (1 : Int32)) (297 : Int32) a12.1) fun x14 =>
  Lt (a12.1 + (1 : Int32) : Int32) fun x15 =>
  ih13 (x15, x14)
  )
set_option maxRecDepth 100000 in
def m_delete (σ : St) (p1 : Int32) : Option (Int32 × St) :=
  Option.bind (m_edited σ) fun x1 =>
  Option.bind (m_isLeg σ x1 p1) fun x2 =>
  if (x2 : Int32) = 0 then (
  some ((-1000001 : Int32), σ)
  ) else (
  Gd (Ix (x1 + (1 : Int32)) 2673) <|
  if ((σ 1 (Int32.toNatClampNeg (x1 + (1 : Int32)))) : Int32) < p1 then (
  Option.bind (m_begins σ) fun x3 =>
  Option.bind (m_count x3 (297 : Int32)) fun x4 =>
  Lt ((x4 - (1 : Int32)) : Int32) fun x5 =>
  Jn (fun (σ6 : St) =>
  Gd (Ix (297 : Int32) 2673) <|
  Lt (s2 σ6 1 (Int32.toNatClampNeg (297 : Int32)) x5) fun σ8 =>
  Jn (fun (σ9 : St) =>
  some (x5, σ9)
  ) fun J10 =>
  if (x5 : Int32) ≤ p1 then (
  J10 σ8
  ) else (
  Option.bind (m_sets σ8 (297 : Int32) p1 (13 : Int32) (1 : Int32)) fun x11 =>
  J10 x11
  )
  ) fun J7 =>
  lp (lb_m_delete_51 x5 J7) 4000 (p1, x3)
  ) else (
  some ((-1000003 : Int32), σ)
  )
  )
set_option maxHeartbeats 4000000 in
set_option maxRecDepth 100000 in
theorem cM_delete (l : Launch) (g : Ge) (hi : injB wM.2 g) (σ : St) (p1 : Int32) (x : Int32 × St) (h : m_delete σ p1 = some x) : Ct l wM g yM_delete qM_delete 2 47 [.ref (g.1 0), .int p1] σ (some (.int x.1), x.2) := by
  refine Ct.of (out := o_w) FM_delete rfl hi rfl h (fun z hz C => ?_)
  clear h
  subst hz
  unfold m_delete
  show Rt z qM_delete wM g o_w 0 [(0, .ref (g.1 0)), (1, .int p1)] [] σ _
  refine q_aload_n (pc' := 1) C 0 d_M_delete_0 rfl rfl ?_
  refine q_callVr (fr' := 0) (lo' := 0) (pc' := 4) C FM_edited lmM_490 d_M_delete_1 0 jM_0 kM_0 cM0 [] [] rfl rfl (Nat.le_of_ble_eq_true rfl) ⟨rfl, rfl⟩ (fun x h => cM_edited _ g hi σ x h) rfl (fun x1 _ => ?_)
  refine q_istore_n (pc' := 5) (lv' := [(2, .int x1), (0, .ref (g.1 0)), (1, .int p1)]) C d_M_delete_4 (by decide) rfl rfl ?_
  refine q_aload_n (pc' := 6) C 1 d_M_delete_5 rfl rfl ?_
  refine q_iload_n (pc' := 7) C 0 d_M_delete_6 rfl rfl ?_
  refine q_iload_n (pc' := 8) C 2 d_M_delete_7 rfl rfl ?_
  refine q_callVr (fr' := 1) (lo' := 25) (pc' := 11) C FM_isLeg lmM_503 d_M_delete_8 0 jM_0 kM_0 cM0 [.int x1, .int p1] [] rfl rfl (Nat.le_of_ble_eq_true rfl) ⟨rfl, rfl⟩ (fun x h => cM_isLeg _ g hi σ x1 p1 x h) rfl (fun x2 _ => ?_)
  refine q_if_ne (tgt := 18) (pc' := 14) C d_M_delete_11 rfl rfl ?_ ?_
  · refine q_iload_n (pc' := 19) C 2 d_M_delete_18 rfl rfl ?_
    refine q_aload_n (pc' := 20) C 1 d_M_delete_19 rfl rfl ?_
    refine gM_7 (pc' := 23) C d_M_delete_20 rfl rfl ?_
    refine q_iload_n (pc' := 24) C 0 d_M_delete_23 rfl rfl ?_
    refine q_iconst (pc' := 25) C d_M_delete_24 ki_1 rfl ?_
    refine q_iadd (pc' := 26) C d_M_delete_25 rfl ?_
    refine q_iald (pc' := 27) C 1 jM_1 kM_1 d_M_delete_26 rfl ?_
    refine q_icmp_gt (tgt := 34) (pc' := 30) C d_M_delete_27 rfl rfl ?_ ?_
    · refine q_aload_n (pc' := 35) C 1 d_M_delete_34 rfl rfl ?_
      refine q_callVv (fr' := 1) (lo' := 23) (pc' := 38) C FM_begins lmM_484 d_M_delete_35 0 jM_0 kM_0 cM0 [] [] rfl rfl (Nat.le_of_ble_eq_true rfl) ⟨rfl, rfl⟩ (fun x h => cM_begins _ g hi σ x h) rfl (fun x3 _ => ?_)
      refine q_aload_n (pc' := 39) C 1 d_M_delete_38 rfl rfl ?_
      refine q_sipush (pc' := 42) C d_M_delete_39 ks_297 rfl ?_
      refine q_callVr (fr' := 0) (lo' := 0) (pc' := 45) C FM_count lmM_218 d_M_delete_42 0 jM_0 kM_0 cM0 [.int (297 : Int32)] [] rfl rfl (Nat.le_of_ble_eq_true rfl) ⟨rfl, rfl⟩ (fun x h => cM_count _ g hi x3 (297 : Int32) x h) rfl (fun x4 _ => ?_)
      refine q_iconst (pc' := 46) C d_M_delete_45 ki_1 rfl ?_
      refine q_isub (pc' := 47) C d_M_delete_46 rfl ?_
      refine q_let (fun x5 e5 => ?_)
      refine q_topi e5 ?_
      refine q_istore_n (pc' := 48) (lv' := [(3, .int x5), (2, .int x1), (0, .ref (g.1 0)), (1, .int p1)]) C d_M_delete_47 (by decide) rfl rfl ?_
      refine q_iload_n (pc' := 49) C 3 d_M_delete_48 rfl rfl ?_
      refine q_istore (pc' := 51) (lv' := [(4, .int p1), (3, .int x5), (2, .int x1), (0, .ref (g.1 0)), (1, .int p1)]) C d_M_delete_49 (by decide) rfl rfl ?_
      refine q_join (fun J7 : St → Option (Int32 × St) => ∀ (σ6 : St), Rt z qM_delete wM g o_w 79 [(0, .ref (g.1 0)), (1, .int p1), (3, .int x5)] [] σ6 (J7 σ6)) (fun σ6 => ?_) (fun J7 hJ7 => ?_)
      · refine q_aload_n (pc' := 80) C 0 d_M_delete_79 rfl rfl ?_
        refine gM_7 (pc' := 83) C d_M_delete_80 rfl rfl ?_
        refine q_sipush (pc' := 86) C d_M_delete_83 ks_297 rfl ?_
        refine q_iload_n (pc' := 87) C 2 d_M_delete_86 rfl rfl ?_
        refine q_iast (pc' := 88) C 1 jM_1 kM_1 d_M_delete_87 rfl ?_
        refine q_let (fun σ8 e8 => ?_)
        refine q_state e8 ?_
        refine q_iload_n (pc' := 89) C 1 d_M_delete_88 rfl rfl ?_
        refine q_iload_n (pc' := 90) C 2 d_M_delete_89 rfl rfl ?_
        refine q_join (fun J10 : St → Option (Int32 × St) => ∀ (σ9 : St), Rt z qM_delete wM g o_w 104 [(3, .int x5)] [] σ9 (J10 σ9)) (fun σ9 => ?_) (fun J10 hJ10 => ?_)
        · refine q_iload_n (pc' := 105) C 0 d_M_delete_104 rfl rfl ?_
          exact q_iret C rfl d_M_delete_105 rfl
        refine q_icmp_ge (tgt := 104) (pc' := 93) C d_M_delete_90 rfl rfl ?_ ?_
        · exact Rt.sub [2] rfl (hJ10 σ8)
        · refine q_aload_n (pc' := 94) C 0 d_M_delete_93 rfl rfl ?_
          refine q_sipush (pc' := 97) C d_M_delete_94 ks_297 rfl ?_
          refine q_iload_n (pc' := 98) C 1 d_M_delete_97 rfl rfl ?_
          refine q_bipush (pc' := 100) C d_M_delete_98 kb_13 rfl ?_
          refine q_iconst (pc' := 101) C d_M_delete_100 ki_1 rfl ?_
          refine q_callVv (fr' := 0) (lo' := 0) (pc' := 104) C FM_sets lmM_500 d_M_delete_101 0 jM_0 kM_0 cM0 [.int (297 : Int32), .int p1, .int (13 : Int32), .int (1 : Int32)] [] rfl rfl (Nat.le_of_ble_eq_true rfl) ⟨rfl, rfl⟩ (fun x h => cM_sets _ g hi σ8 (297 : Int32) p1 (13 : Int32) (1 : Int32) x h) rfl (fun x11 _ => ?_)
          exact Rt.sub [2] rfl (hJ10 x11)
      refine Rt.sub [3, 4, 1, 0] rfl (q_lp (fun a12 : Int32 × St => [(0, .ref (g.1 0)), (1, .int p1), (3, .int x5), (4, .int a12.1)]) (fun a12 => []) (fun a12 => a12.2) (fun ih13 hih13 a12 => ?_) 4000 (p1, x3))
      unfold lb_m_delete_51
      refine q_iload (pc' := 53) C 3 d_M_delete_51 rfl rfl ?_
      refine q_iload_n (pc' := 54) C 2 d_M_delete_53 rfl rfl ?_
      refine q_icmp_ge (tgt := 79) (pc' := 57) C d_M_delete_54 rfl rfl ?_ ?_
      · exact Rt.sub [0, 1, 2] rfl (hJ7 a12.2)
      · refine q_aload_n (pc' := 58) C 0 d_M_delete_57 rfl rfl ?_
        refine q_sipush (pc' := 61) C d_M_delete_58 ks_297 rfl ?_
        refine q_iload (pc' := 63) C 3 d_M_delete_61 rfl rfl ?_
        refine q_iconst (pc' := 64) C d_M_delete_63 ki_1 rfl ?_
        refine q_iadd (pc' := 65) C d_M_delete_64 rfl ?_
        refine q_sipush (pc' := 68) C d_M_delete_65 ks_297 rfl ?_
        refine q_iload (pc' := 70) C 3 d_M_delete_68 rfl rfl ?_
        refine q_callVv (fr' := 0) (lo' := 0) (pc' := 73) C FM_copyLeg lmM_497 d_M_delete_70 0 jM_0 kM_0 cM0 [.int (297 : Int32), .int (a12.1 + (1 : Int32)), .int (297 : Int32), .int a12.1] [] rfl rfl (Nat.le_of_ble_eq_true rfl) ⟨rfl, rfl⟩ (fun x h => cM_copyLeg _ g hi a12.2 (297 : Int32) (a12.1 + (1 : Int32)) (297 : Int32) a12.1 x h) rfl (fun x14 _ => ?_)
        refine q_let (fun x15 e15 => ?_)
        refine q_iinc (pc' := 76) (lv' := [(4, .int x15), (0, .ref (g.1 0)), (1, .int p1), (3, .int x5)]) C 3 d_M_delete_73 rfl (by rw [e15, ki_1]) (by decide) rfl rfl ?_
        refine q_goto (tgt := 51) C d_M_delete_76 rfl ?_
        exact Rt.sub [1, 2, 3, 0] rfl (hih13 (x15, x14))
    · refine q_ldcw (pc' := 33) C lcM_483 d_M_delete_30 rfl ?_
      exact q_iret C rfl d_M_delete_33 rfl
  · refine q_ldcw (pc' := 17) C lcM_493 d_M_delete_14 rfl ?_
    exact q_iret C rfl d_M_delete_17 rfl
