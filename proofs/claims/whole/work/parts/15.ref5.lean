/-! the reference, methods 5 -/
theorem d_M_type_0 : decode qM_type.1 0 = .ok (.iload_n 1, 1) := by decide +kernel
theorem d_M_type_1 : decode qM_type.1 1 = .ok (.i2l, 1) := by decide +kernel
theorem d_M_type_2 : decode qM_type.1 2 = .ok (.lconst 0, 1) := by decide +kernel
theorem d_M_type_3 : decode qM_type.1 3 = .ok (.ldc2_w 374, 3) := by decide +kernel
theorem d_M_type_6 : decode qM_type.1 6 = .ok (.invokestatic 232, 3) := by decide +kernel
theorem d_M_type_9 : decode qM_type.1 9 = .ok (.ifCond .ne 7, 3) := by decide +kernel
theorem d_M_type_12 : decode qM_type.1 12 = .ok (.ldc_w 376, 3) := by decide +kernel
theorem d_M_type_15 : decode qM_type.1 15 = .ok (.ireturn, 1) := by decide +kernel
theorem d_M_type_16 : decode qM_type.1 16 = .ok (.aload_n 0, 1) := by decide +kernel
theorem d_M_type_17 : decode qM_type.1 17 = .ok (.getfield 377, 3) := by decide +kernel
theorem d_M_type_20 : decode qM_type.1 20 = .ok (.sipush 200, 3) := by decide +kernel
theorem d_M_type_23 : decode qM_type.1 23 = .ok (.if_icmp .ne 7, 3) := by decide +kernel
theorem d_M_type_26 : decode qM_type.1 26 = .ok (.ldc_w 380, 3) := by decide +kernel
theorem d_M_type_29 : decode qM_type.1 29 = .ok (.ireturn, 1) := by decide +kernel
theorem d_M_type_30 : decode qM_type.1 30 = .ok (.aload_n 0, 1) := by decide +kernel
theorem d_M_type_31 : decode qM_type.1 31 = .ok (.getfield 147, 3) := by decide +kernel
theorem d_M_type_34 : decode qM_type.1 34 = .ok (.aload_n 0, 1) := by decide +kernel
theorem d_M_type_35 : decode qM_type.1 35 = .ok (.getfield 377, 3) := by decide +kernel
theorem d_M_type_38 : decode qM_type.1 38 = .ok (.iload_n 1, 1) := by decide +kernel
theorem d_M_type_39 : decode qM_type.1 39 = .ok (.iastore, 1) := by decide +kernel
theorem d_M_type_40 : decode qM_type.1 40 = .ok (.aload_n 0, 1) := by decide +kernel
theorem d_M_type_41 : decode qM_type.1 41 = .ok (.dup, 1) := by decide +kernel
theorem d_M_type_42 : decode qM_type.1 42 = .ok (.getfield 377, 3) := by decide +kernel
theorem d_M_type_45 : decode qM_type.1 45 = .ok (.iconst 1, 1) := by decide +kernel
theorem d_M_type_46 : decode qM_type.1 46 = .ok (.iadd, 1) := by decide +kernel
theorem d_M_type_47 : decode qM_type.1 47 = .ok (.putfield 377, 3) := by decide +kernel
theorem d_M_type_50 : decode qM_type.1 50 = .ok (.aload_n 0, 1) := by decide +kernel
theorem d_M_type_51 : decode qM_type.1 51 = .ok (.getfield 377, 3) := by decide +kernel
theorem d_M_type_54 : decode qM_type.1 54 = .ok (.ireturn, 1) := by decide +kernel
set_option maxRecDepth 100000 in
def m_type (σ : St) (p1 : Int32) : Option (Int32 × St) :=
  Option.bind (m_in (Int32.toInt64 p1) (0 : Int64) (255 : Int64)) fun x1 =>
  if (x1 : Int32) = 0 then (
  some ((-1000002 : Int32), σ)
  ) else (
  if ((σ 0 68) : Int32) = (200 : Int32) then (
  some ((-1000004 : Int32), σ)
  ) else (
  Gd (Ix (σ 0 68) 200) <|
  Lt (s2 σ 41 (Int32.toNatClampNeg (σ 0 68)) p1) fun σ2 =>
  Lt (s2 σ2 0 68 ((σ2 0 68) + (1 : Int32))) fun σ3 =>
  some ((σ3 0 68), σ3)
  )
  )
set_option maxHeartbeats 4000000 in
set_option maxRecDepth 100000 in
theorem cM_type (l : Launch) (g : Ge) (hi : injB wM.2 g) (σ : St) (p1 : Int32) (x : Int32 × St) (h : m_type σ p1 = some x) : Ct l wM g yM_type qM_type 1 25 [.ref (g.1 0), .int p1] σ (some (.int x.1), x.2) := by
  refine Ct.of (out := o_w) FM_type rfl hi rfl h (fun z hz C => ?_)
  clear h
  subst hz
  unfold m_type
  show Rt z qM_type wM g o_w 0 [(0, .ref (g.1 0)), (1, .int p1)] [] σ _
  refine q_iload_n (pc' := 1) C 1 d_M_type_0 rfl rfl ?_
  refine q_i2l (pc' := 2) C d_M_type_1 rfl ?_
  refine q_lconst (pc' := 3) C d_M_type_2 kl_0 rfl ?_
  refine q_ldc2 (pc' := 6) C lLM_374 d_M_type_3 rfl ?_
  refine q_callSr (fr' := 0) (lo' := 0) (pc' := 9) C FM_in lmM_232 d_M_type_6 [.long (Int32.toInt64 p1), .long (0 : Int64), .long (255 : Int64)] [] rfl rfl (Nat.le_of_ble_eq_true rfl) ⟨rfl, rfl⟩ (fun x h => cM_in _ g hi σ (Int32.toInt64 p1) (0 : Int64) (255 : Int64) x h) rfl (fun x1 _ => ?_)
  refine q_if_ne (tgt := 16) (pc' := 12) C d_M_type_9 rfl rfl ?_ ?_
  · refine q_aload_n (pc' := 17) C 0 d_M_type_16 rfl rfl ?_
    refine gM_377 (pc' := 20) C d_M_type_17 rfl rfl ?_
    refine q_sipush (pc' := 23) C d_M_type_20 ks_200 rfl ?_
    refine q_icmp_ne (tgt := 30) (pc' := 26) C d_M_type_23 rfl rfl ?_ ?_
    · refine q_aload_n (pc' := 31) C 0 d_M_type_30 rfl rfl ?_
      refine gM_147 (pc' := 34) C d_M_type_31 rfl rfl ?_
      refine q_aload_n (pc' := 35) C 0 d_M_type_34 rfl rfl ?_
      refine gM_377 (pc' := 38) C d_M_type_35 rfl rfl ?_
      refine q_iload_n (pc' := 39) C 1 d_M_type_38 rfl rfl ?_
      refine q_iast (pc' := 40) C 41 jM_41 kM_41 d_M_type_39 rfl ?_
      refine q_let (fun σ2 e2 => ?_)
      refine q_state e2 ?_
      refine q_aload_n (pc' := 41) C 0 d_M_type_40 rfl rfl ?_
      refine q_dup (pc' := 42) C d_M_type_41 rfl rfl ?_
      refine gM_377 (pc' := 45) C d_M_type_42 rfl rfl ?_
      refine q_iconst (pc' := 46) C d_M_type_45 ki_1 rfl ?_
      refine q_iadd (pc' := 47) C d_M_type_46 rfl ?_
      refine pM_377 (pc' := 50) C d_M_type_47 rfl rfl ?_
      refine q_let (fun σ3 e3 => ?_)
      refine q_state e3 ?_
      refine q_aload_n (pc' := 51) C 0 d_M_type_50 rfl rfl ?_
      refine gM_377 (pc' := 54) C d_M_type_51 rfl rfl ?_
      exact q_iret C rfl d_M_type_54 rfl
    · refine q_ldcw (pc' := 29) C lcM_380 d_M_type_26 rfl ?_
      exact q_iret C rfl d_M_type_29 rfl
  · refine q_ldcw (pc' := 15) C lcM_376 d_M_type_12 rfl ?_
    exact q_iret C rfl d_M_type_15 rfl
theorem d_M_clearText_0 : decode qM_clearText.1 0 = .ok (.aload_n 0, 1) := by decide +kernel
theorem d_M_clearText_1 : decode qM_clearText.1 1 = .ok (.getfield 377, 3) := by decide +kernel
theorem d_M_clearText_4 : decode qM_clearText.1 4 = .ok (.istore_n 1, 1) := by decide +kernel
theorem d_M_clearText_5 : decode qM_clearText.1 5 = .ok (.aload_n 0, 1) := by decide +kernel
theorem d_M_clearText_6 : decode qM_clearText.1 6 = .ok (.iconst 0, 1) := by decide +kernel
theorem d_M_clearText_7 : decode qM_clearText.1 7 = .ok (.putfield 377, 3) := by decide +kernel
theorem d_M_clearText_10 : decode qM_clearText.1 10 = .ok (.iload_n 1, 1) := by decide +kernel
theorem d_M_clearText_11 : decode qM_clearText.1 11 = .ok (.ireturn, 1) := by decide +kernel
set_option maxRecDepth 100000 in
def m_clearText (σ : St) : Option (Int32 × St) :=
  Lt ((σ 0 68) : Int32) fun x1 =>
  Lt (s2 σ 0 68 (0 : Int32)) fun σ2 =>
  some (x1, σ2)
set_option maxHeartbeats 4000000 in
set_option maxRecDepth 100000 in
theorem cM_clearText (l : Launch) (g : Ge) (hi : injB wM.2 g) (σ : St) (x : Int32 × St) (h : m_clearText σ = some x) : Ct l wM g yM_clearText qM_clearText 0 0 [.ref (g.1 0)] σ (some (.int x.1), x.2) := by
  refine Ct.of (out := o_w) FM_clearText rfl hi rfl h (fun z hz C => ?_)
  clear h
  subst hz
  unfold m_clearText
  show Rt z qM_clearText wM g o_w 0 [(0, .ref (g.1 0))] [] σ _
  refine q_aload_n (pc' := 1) C 0 d_M_clearText_0 rfl rfl ?_
  refine gM_377 (pc' := 4) C d_M_clearText_1 rfl rfl ?_
  refine q_let (fun x1 e1 => ?_)
  refine q_topi e1 ?_
  refine q_istore_n (pc' := 5) (lv' := [(1, .int x1), (0, .ref (g.1 0))]) C d_M_clearText_4 (by decide) rfl rfl ?_
  refine q_aload_n (pc' := 6) C 1 d_M_clearText_5 rfl rfl ?_
  refine q_iconst (pc' := 7) C d_M_clearText_6 ki_0 rfl ?_
  refine pM_377 (pc' := 10) C d_M_clearText_7 rfl rfl ?_
  refine q_let (fun σ2 e2 => ?_)
  refine q_state e2 ?_
  refine q_iload_n (pc' := 11) C 0 d_M_clearText_10 rfl rfl ?_
  exact q_iret C rfl d_M_clearText_11 rfl
theorem d_M_isCapital_0 : decode qM_isCapital.1 0 = .ok (.iload_n 0, 1) := by decide +kernel
theorem d_M_isCapital_1 : decode qM_isCapital.1 1 = .ok (.i2l, 1) := by decide +kernel
theorem d_M_isCapital_2 : decode qM_isCapital.1 2 = .ok (.ldc2_w 381, 3) := by decide +kernel
theorem d_M_isCapital_5 : decode qM_isCapital.1 5 = .ok (.ldc2_w 383, 3) := by decide +kernel
theorem d_M_isCapital_8 : decode qM_isCapital.1 8 = .ok (.invokestatic 232, 3) := by decide +kernel
theorem d_M_isCapital_11 : decode qM_isCapital.1 11 = .ok (.ireturn, 1) := by decide +kernel
set_option maxRecDepth 100000 in
def m_isCapital (p0 : Int32) : Option (Int32) :=
  Option.bind (m_in (Int32.toInt64 p0) (65 : Int64) (90 : Int64)) fun x1 =>
  Gd ((x1 : Int32) &&& 1 = x1) <|
  some x1
set_option maxHeartbeats 4000000 in
set_option maxRecDepth 100000 in
theorem cM_isCapital (l : Launch) (g : Ge) (hi : injB wM.2 g) (σ : St) (p0 : Int32) (x : Int32) (h : m_isCapital p0 = some x) : Ct l wM g yM_isCapital qM_isCapital 1 25 [.int p0] σ (some (.int x), σ) := by
  refine Ct.of (out := (o_r σ)) FM_isCapital rfl hi rfl h (fun z hz C => ?_)
  clear h
  subst hz
  unfold m_isCapital
  show Rt z qM_isCapital wM g (o_r σ) 0 [(0, .int p0)] [] σ _
  refine q_iload_n (pc' := 1) C 0 d_M_isCapital_0 rfl rfl ?_
  refine q_i2l (pc' := 2) C d_M_isCapital_1 rfl ?_
  refine q_ldc2 (pc' := 5) C lLM_381 d_M_isCapital_2 rfl ?_
  refine q_ldc2 (pc' := 8) C lLM_383 d_M_isCapital_5 rfl ?_
  refine q_callSr (fr' := 0) (lo' := 0) (pc' := 11) C FM_in lmM_232 d_M_isCapital_8 [.long (Int32.toInt64 p0), .long (65 : Int64), .long (90 : Int64)] [] rfl rfl (Nat.le_of_ble_eq_true rfl) ⟨rfl, rfl⟩ (fun x h => cM_in _ g hi σ (Int32.toInt64 p0) (65 : Int64) (90 : Int64) x h) rfl (fun x1 _ => ?_)
  refine q_guard (fun gx2 => ?_)
  exact q_zret C rfl gx2 d_M_isCapital_11 rfl
theorem d_M_isDigit_0 : decode qM_isDigit.1 0 = .ok (.iload_n 0, 1) := by decide +kernel
theorem d_M_isDigit_1 : decode qM_isDigit.1 1 = .ok (.i2l, 1) := by decide +kernel
theorem d_M_isDigit_2 : decode qM_isDigit.1 2 = .ok (.ldc2_w 385, 3) := by decide +kernel
theorem d_M_isDigit_5 : decode qM_isDigit.1 5 = .ok (.ldc2_w 387, 3) := by decide +kernel
theorem d_M_isDigit_8 : decode qM_isDigit.1 8 = .ok (.invokestatic 232, 3) := by decide +kernel
theorem d_M_isDigit_11 : decode qM_isDigit.1 11 = .ok (.ireturn, 1) := by decide +kernel
set_option maxRecDepth 100000 in
def m_isDigit (p0 : Int32) : Option (Int32) :=
  Option.bind (m_in (Int32.toInt64 p0) (48 : Int64) (57 : Int64)) fun x1 =>
  Gd ((x1 : Int32) &&& 1 = x1) <|
  some x1
set_option maxHeartbeats 4000000 in
set_option maxRecDepth 100000 in
theorem cM_isDigit (l : Launch) (g : Ge) (hi : injB wM.2 g) (σ : St) (p0 : Int32) (x : Int32) (h : m_isDigit p0 = some x) : Ct l wM g yM_isDigit qM_isDigit 1 25 [.int p0] σ (some (.int x), σ) := by
  refine Ct.of (out := (o_r σ)) FM_isDigit rfl hi rfl h (fun z hz C => ?_)
  clear h
  subst hz
  unfold m_isDigit
  show Rt z qM_isDigit wM g (o_r σ) 0 [(0, .int p0)] [] σ _
  refine q_iload_n (pc' := 1) C 0 d_M_isDigit_0 rfl rfl ?_
  refine q_i2l (pc' := 2) C d_M_isDigit_1 rfl ?_
  refine q_ldc2 (pc' := 5) C lLM_385 d_M_isDigit_2 rfl ?_
  refine q_ldc2 (pc' := 8) C lLM_387 d_M_isDigit_5 rfl ?_
  refine q_callSr (fr' := 0) (lo' := 0) (pc' := 11) C FM_in lmM_232 d_M_isDigit_8 [.long (Int32.toInt64 p0), .long (48 : Int64), .long (57 : Int64)] [] rfl rfl (Nat.le_of_ble_eq_true rfl) ⟨rfl, rfl⟩ (fun x h => cM_in _ g hi σ (Int32.toInt64 p0) (48 : Int64) (57 : Int64) x h) rfl (fun x1 _ => ?_)
  refine q_guard (fun gx2 => ?_)
  exact q_zret C rfl gx2 d_M_isDigit_11 rfl
theorem d_M_nextToken_0 : decode qM_nextToken.1 0 = .ok (.aload_n 0, 1) := by decide +kernel
theorem d_M_nextToken_1 : decode qM_nextToken.1 1 = .ok (.aload_n 0, 1) := by decide +kernel
theorem d_M_nextToken_2 : decode qM_nextToken.1 2 = .ok (.getfield 389, 3) := by decide +kernel
theorem d_M_nextToken_5 : decode qM_nextToken.1 5 = .ok (.putfield 392, 3) := by decide +kernel
theorem d_M_nextToken_8 : decode qM_nextToken.1 8 = .ok (.aload_n 0, 1) := by decide +kernel
theorem d_M_nextToken_9 : decode qM_nextToken.1 9 = .ok (.getfield 392, 3) := by decide +kernel
theorem d_M_nextToken_12 : decode qM_nextToken.1 12 = .ok (.aload_n 0, 1) := by decide +kernel
theorem d_M_nextToken_13 : decode qM_nextToken.1 13 = .ok (.getfield 377, 3) := by decide +kernel
theorem d_M_nextToken_16 : decode qM_nextToken.1 16 = .ok (.if_icmp .ge 30, 3) := by decide +kernel
theorem d_M_nextToken_19 : decode qM_nextToken.1 19 = .ok (.aload_n 0, 1) := by decide +kernel
theorem d_M_nextToken_20 : decode qM_nextToken.1 20 = .ok (.getfield 147, 3) := by decide +kernel
theorem d_M_nextToken_23 : decode qM_nextToken.1 23 = .ok (.aload_n 0, 1) := by decide +kernel
theorem d_M_nextToken_24 : decode qM_nextToken.1 24 = .ok (.getfield 392, 3) := by decide +kernel
theorem d_M_nextToken_27 : decode qM_nextToken.1 27 = .ok (.iaload, 1) := by decide +kernel
theorem d_M_nextToken_28 : decode qM_nextToken.1 28 = .ok (.bipush 32, 2) := by decide +kernel
theorem d_M_nextToken_30 : decode qM_nextToken.1 30 = .ok (.if_icmp .ne 16, 3) := by decide +kernel
theorem d_M_nextToken_33 : decode qM_nextToken.1 33 = .ok (.aload_n 0, 1) := by decide +kernel
theorem d_M_nextToken_34 : decode qM_nextToken.1 34 = .ok (.dup, 1) := by decide +kernel
theorem d_M_nextToken_35 : decode qM_nextToken.1 35 = .ok (.getfield 392, 3) := by decide +kernel
theorem d_M_nextToken_38 : decode qM_nextToken.1 38 = .ok (.iconst 1, 1) := by decide +kernel
theorem d_M_nextToken_39 : decode qM_nextToken.1 39 = .ok (.iadd, 1) := by decide +kernel
theorem d_M_nextToken_40 : decode qM_nextToken.1 40 = .ok (.putfield 392, 3) := by decide +kernel
theorem d_M_nextToken_43 : decode qM_nextToken.1 43 = .ok (.goto (-35), 3) := by decide +kernel
theorem d_M_nextToken_46 : decode qM_nextToken.1 46 = .ok (.aload_n 0, 1) := by decide +kernel
theorem d_M_nextToken_47 : decode qM_nextToken.1 47 = .ok (.aload_n 0, 1) := by decide +kernel
theorem d_M_nextToken_48 : decode qM_nextToken.1 48 = .ok (.getfield 392, 3) := by decide +kernel
theorem d_M_nextToken_51 : decode qM_nextToken.1 51 = .ok (.aload_n 0, 1) := by decide +kernel
theorem d_M_nextToken_52 : decode qM_nextToken.1 52 = .ok (.getfield 377, 3) := by decide +kernel
theorem d_M_nextToken_55 : decode qM_nextToken.1 55 = .ok (.if_icmp .ge 12, 3) := by decide +kernel
theorem d_M_nextToken_58 : decode qM_nextToken.1 58 = .ok (.aload_n 0, 1) := by decide +kernel
theorem d_M_nextToken_59 : decode qM_nextToken.1 59 = .ok (.getfield 392, 3) := by decide +kernel
theorem d_M_nextToken_62 : decode qM_nextToken.1 62 = .ok (.iconst 1, 1) := by decide +kernel
theorem d_M_nextToken_63 : decode qM_nextToken.1 63 = .ok (.iadd, 1) := by decide +kernel
theorem d_M_nextToken_64 : decode qM_nextToken.1 64 = .ok (.goto 7, 3) := by decide +kernel
theorem d_M_nextToken_67 : decode qM_nextToken.1 67 = .ok (.aload_n 0, 1) := by decide +kernel
theorem d_M_nextToken_68 : decode qM_nextToken.1 68 = .ok (.getfield 392, 3) := by decide +kernel
theorem d_M_nextToken_71 : decode qM_nextToken.1 71 = .ok (.putfield 389, 3) := by decide +kernel
theorem d_M_nextToken_74 : decode qM_nextToken.1 74 = .ok (.aload_n 0, 1) := by decide +kernel
theorem d_M_nextToken_75 : decode qM_nextToken.1 75 = .ok (.getfield 392, 3) := by decide +kernel
theorem d_M_nextToken_78 : decode qM_nextToken.1 78 = .ok (.aload_n 0, 1) := by decide +kernel
theorem d_M_nextToken_79 : decode qM_nextToken.1 79 = .ok (.getfield 377, 3) := by decide +kernel
theorem d_M_nextToken_82 : decode qM_nextToken.1 82 = .ok (.if_icmp .ge 57, 3) := by decide +kernel
theorem d_M_nextToken_85 : decode qM_nextToken.1 85 = .ok (.aload_n 0, 1) := by decide +kernel
theorem d_M_nextToken_86 : decode qM_nextToken.1 86 = .ok (.getfield 147, 3) := by decide +kernel
theorem d_M_nextToken_89 : decode qM_nextToken.1 89 = .ok (.aload_n 0, 1) := by decide +kernel
theorem d_M_nextToken_90 : decode qM_nextToken.1 90 = .ok (.getfield 392, 3) := by decide +kernel
theorem d_M_nextToken_93 : decode qM_nextToken.1 93 = .ok (.iaload, 1) := by decide +kernel
theorem d_M_nextToken_94 : decode qM_nextToken.1 94 = .ok (.invokestatic 395, 3) := by decide +kernel
theorem d_M_nextToken_97 : decode qM_nextToken.1 97 = .ok (.ifCond .eq 42, 3) := by decide +kernel
theorem d_M_nextToken_100 : decode qM_nextToken.1 100 = .ok (.aload_n 0, 1) := by decide +kernel
theorem d_M_nextToken_101 : decode qM_nextToken.1 101 = .ok (.getfield 389, 3) := by decide +kernel
theorem d_M_nextToken_104 : decode qM_nextToken.1 104 = .ok (.aload_n 0, 1) := by decide +kernel
theorem d_M_nextToken_105 : decode qM_nextToken.1 105 = .ok (.getfield 377, 3) := by decide +kernel
theorem d_M_nextToken_108 : decode qM_nextToken.1 108 = .ok (.if_icmp .ge 96, 3) := by decide +kernel
theorem d_M_nextToken_111 : decode qM_nextToken.1 111 = .ok (.aload_n 0, 1) := by decide +kernel
theorem d_M_nextToken_112 : decode qM_nextToken.1 112 = .ok (.getfield 147, 3) := by decide +kernel
theorem d_M_nextToken_115 : decode qM_nextToken.1 115 = .ok (.aload_n 0, 1) := by decide +kernel
theorem d_M_nextToken_116 : decode qM_nextToken.1 116 = .ok (.getfield 389, 3) := by decide +kernel
theorem d_M_nextToken_119 : decode qM_nextToken.1 119 = .ok (.iaload, 1) := by decide +kernel
theorem d_M_nextToken_120 : decode qM_nextToken.1 120 = .ok (.invokestatic 395, 3) := by decide +kernel
theorem d_M_nextToken_123 : decode qM_nextToken.1 123 = .ok (.ifCond .eq 81, 3) := by decide +kernel
theorem d_M_nextToken_126 : decode qM_nextToken.1 126 = .ok (.aload_n 0, 1) := by decide +kernel
theorem d_M_nextToken_127 : decode qM_nextToken.1 127 = .ok (.dup, 1) := by decide +kernel
theorem d_M_nextToken_128 : decode qM_nextToken.1 128 = .ok (.getfield 389, 3) := by decide +kernel
theorem d_M_nextToken_131 : decode qM_nextToken.1 131 = .ok (.iconst 1, 1) := by decide +kernel
theorem d_M_nextToken_132 : decode qM_nextToken.1 132 = .ok (.iadd, 1) := by decide +kernel
theorem d_M_nextToken_133 : decode qM_nextToken.1 133 = .ok (.putfield 389, 3) := by decide +kernel
theorem d_M_nextToken_136 : decode qM_nextToken.1 136 = .ok (.goto (-36), 3) := by decide +kernel
theorem d_M_nextToken_139 : decode qM_nextToken.1 139 = .ok (.aload_n 0, 1) := by decide +kernel
theorem d_M_nextToken_140 : decode qM_nextToken.1 140 = .ok (.getfield 392, 3) := by decide +kernel
theorem d_M_nextToken_143 : decode qM_nextToken.1 143 = .ok (.aload_n 0, 1) := by decide +kernel
theorem d_M_nextToken_144 : decode qM_nextToken.1 144 = .ok (.getfield 377, 3) := by decide +kernel
theorem d_M_nextToken_147 : decode qM_nextToken.1 147 = .ok (.if_icmp .ge 57, 3) := by decide +kernel
theorem d_M_nextToken_150 : decode qM_nextToken.1 150 = .ok (.aload_n 0, 1) := by decide +kernel
theorem d_M_nextToken_151 : decode qM_nextToken.1 151 = .ok (.getfield 147, 3) := by decide +kernel
theorem d_M_nextToken_154 : decode qM_nextToken.1 154 = .ok (.aload_n 0, 1) := by decide +kernel
theorem d_M_nextToken_155 : decode qM_nextToken.1 155 = .ok (.getfield 392, 3) := by decide +kernel
theorem d_M_nextToken_158 : decode qM_nextToken.1 158 = .ok (.iaload, 1) := by decide +kernel
theorem d_M_nextToken_159 : decode qM_nextToken.1 159 = .ok (.invokestatic 398, 3) := by decide +kernel
theorem d_M_nextToken_162 : decode qM_nextToken.1 162 = .ok (.ifCond .eq 42, 3) := by decide +kernel
theorem d_M_nextToken_165 : decode qM_nextToken.1 165 = .ok (.aload_n 0, 1) := by decide +kernel
theorem d_M_nextToken_166 : decode qM_nextToken.1 166 = .ok (.getfield 389, 3) := by decide +kernel
theorem d_M_nextToken_169 : decode qM_nextToken.1 169 = .ok (.aload_n 0, 1) := by decide +kernel
theorem d_M_nextToken_170 : decode qM_nextToken.1 170 = .ok (.getfield 377, 3) := by decide +kernel
theorem d_M_nextToken_173 : decode qM_nextToken.1 173 = .ok (.if_icmp .ge 31, 3) := by decide +kernel
theorem d_M_nextToken_176 : decode qM_nextToken.1 176 = .ok (.aload_n 0, 1) := by decide +kernel
theorem d_M_nextToken_177 : decode qM_nextToken.1 177 = .ok (.getfield 147, 3) := by decide +kernel
theorem d_M_nextToken_180 : decode qM_nextToken.1 180 = .ok (.aload_n 0, 1) := by decide +kernel
theorem d_M_nextToken_181 : decode qM_nextToken.1 181 = .ok (.getfield 389, 3) := by decide +kernel
theorem d_M_nextToken_184 : decode qM_nextToken.1 184 = .ok (.iaload, 1) := by decide +kernel
theorem d_M_nextToken_185 : decode qM_nextToken.1 185 = .ok (.invokestatic 398, 3) := by decide +kernel
theorem d_M_nextToken_188 : decode qM_nextToken.1 188 = .ok (.ifCond .eq 16, 3) := by decide +kernel
theorem d_M_nextToken_191 : decode qM_nextToken.1 191 = .ok (.aload_n 0, 1) := by decide +kernel
theorem d_M_nextToken_192 : decode qM_nextToken.1 192 = .ok (.dup, 1) := by decide +kernel
theorem d_M_nextToken_193 : decode qM_nextToken.1 193 = .ok (.getfield 389, 3) := by decide +kernel
theorem d_M_nextToken_196 : decode qM_nextToken.1 196 = .ok (.iconst 1, 1) := by decide +kernel
theorem d_M_nextToken_197 : decode qM_nextToken.1 197 = .ok (.iadd, 1) := by decide +kernel
theorem d_M_nextToken_198 : decode qM_nextToken.1 198 = .ok (.putfield 389, 3) := by decide +kernel
theorem d_M_nextToken_201 : decode qM_nextToken.1 201 = .ok (.goto (-36), 3) := by decide +kernel
theorem d_M_nextToken_204 : decode qM_nextToken.1 204 = .ok (.return_, 1) := by decide +kernel
set_option maxRecDepth 100000 in
def lb_m_nextToken_165 (J8 : St → Option (St)) (ih12 : St → Option (St)) (a11 : St) : Option (St) :=
  if ((a11 0 68) : Int32) ≤ (a11 0 70) then (
  J8 a11
  ) else (
  Gd (Ix (a11 0 70) 200) <|
  Option.bind (m_isDigit (a11 41 (Int32.toNatClampNeg (a11 0 70)))) fun x13 =>
  if (x13 : Int32) = 0 then (
  J8 a11
  ) else (
  Lt (s2 a11 0 70 ((a11 0 70) + (1 : Int32))) fun σ14 =>
  ih12 σ14
  )
  )
set_option maxRecDepth 100000 in
def lb_m_nextToken_100 (J8 : St → Option (St)) (ih17 : St → Option (St)) (a16 : St) : Option (St) :=
  if ((a16 0 68) : Int32) ≤ (a16 0 70) then (
  J8 a16
  ) else (
  Gd (Ix (a16 0 70) 200) <|
  Option.bind (m_isCapital (a16 41 (Int32.toNatClampNeg (a16 0 70)))) fun x18 =>
  if (x18 : Int32) = 0 then (
  J8 a16
  ) else (
  Lt (s2 a16 0 70 ((a16 0 70) + (1 : Int32))) fun σ19 =>
  ih17 σ19
  )
  )
set_option maxRecDepth 100000 in
def lb_m_nextToken_8 (J3 : St → Option (St)) (ih21 : St → Option (St)) (a20 : St) : Option (St) :=
  if ((a20 0 68) : Int32) ≤ (a20 0 69) then (
  J3 a20
  ) else (
  Gd (Ix (a20 0 69) 200) <|
  if ((a20 41 (Int32.toNatClampNeg (a20 0 69))) : Int32) = (32 : Int32) then (
  Lt (s2 a20 0 69 ((a20 0 69) + (1 : Int32))) fun σ22 =>
  ih21 σ22
  ) else (
  J3 a20
  )
  )
set_option maxRecDepth 100000 in
def m_nextToken (σ : St) : Option (St) :=
  Lt (s2 σ 0 69 (σ 0 70)) fun σ1 =>
  Jn (fun (σ2 : St) =>
  Jn (fun (x4 : Int32) =>
  Lt (s2 σ2 0 70 x4) fun σ6 =>
  Jn (fun (σ7 : St) =>
  some σ7
  ) fun J8 =>
  Jn (fun (_ : Unit) =>
  if ((σ6 0 68) : Int32) ≤ (σ6 0 69) then (
  J8 σ6
  ) else (
  Gd (Ix (σ6 0 69) 200) <|
  Option.bind (m_isDigit (σ6 41 (Int32.toNatClampNeg (σ6 0 69)))) fun x10 =>
  if (x10 : Int32) = 0 then (
  J8 σ6
  ) else (
  lp (lb_m_nextToken_165 J8) 4000 σ6
  )
  )
  ) fun J9 =>
  if ((σ6 0 68) : Int32) ≤ (σ6 0 69) then (
  J9 ()
  ) else (
  Gd (Ix (σ6 0 69) 200) <|
  Option.bind (m_isCapital (σ6 41 (Int32.toNatClampNeg (σ6 0 69)))) fun x15 =>
  if (x15 : Int32) = 0 then (
  J9 ()
  ) else (
  lp (lb_m_nextToken_100 J8) 4000 σ6
  )
  )
  ) fun J5 =>
  if ((σ2 0 68) : Int32) ≤ (σ2 0 69) then (
  J5 (σ2 0 69)
  ) else (
  J5 ((σ2 0 69) + (1 : Int32))
  )
  ) fun J3 =>
  lp (lb_m_nextToken_8 J3) 4000 σ1
set_option maxHeartbeats 4000000 in
set_option maxRecDepth 100000 in
theorem cM_nextToken (l : Launch) (g : Ge) (hi : injB wM.2 g) (σ : St) (x : St) (h : m_nextToken σ = some x) : Ct l wM g yM_nextToken qM_nextToken 2 45 [.ref (g.1 0)] σ (none, x) := by
  refine Ct.of (out := o_v) FM_nextToken rfl hi rfl h (fun z hz C => ?_)
  clear h
  subst hz
  unfold m_nextToken
  show Rt z qM_nextToken wM g o_v 0 [(0, .ref (g.1 0))] [] σ _
  refine q_aload_n (pc' := 1) C 0 d_M_nextToken_0 rfl rfl ?_
  refine q_aload_n (pc' := 2) C 0 d_M_nextToken_1 rfl rfl ?_
  refine gM_389 (pc' := 5) C d_M_nextToken_2 rfl rfl ?_
  refine pM_392 (pc' := 8) C d_M_nextToken_5 rfl rfl ?_
  refine q_let (fun σ1 e1 => ?_)
  refine q_state e1 ?_
  refine q_join (fun J3 : St → Option (St) => ∀ (σ2 : St), Rt z qM_nextToken wM g o_v 46 [(0, .ref (g.1 0))] [] σ2 (J3 σ2)) (fun σ2 => ?_) (fun J3 hJ3 => ?_)
  · refine q_aload_n (pc' := 47) C 0 d_M_nextToken_46 rfl rfl ?_
    refine q_aload_n (pc' := 48) C 0 d_M_nextToken_47 rfl rfl ?_
    refine gM_392 (pc' := 51) C d_M_nextToken_48 rfl rfl ?_
    refine q_aload_n (pc' := 52) C 0 d_M_nextToken_51 rfl rfl ?_
    refine gM_377 (pc' := 55) C d_M_nextToken_52 rfl rfl ?_
    refine q_join (fun J5 : Int32 → Option (St) => ∀ (x4 : Int32), Rt z qM_nextToken wM g o_v 71 [(0, .ref (g.1 0))] [.int x4, .ref (g.1 0)] σ2 (J5 x4)) (fun x4 => ?_) (fun J5 hJ5 => ?_)
    · refine pM_389 (pc' := 74) C d_M_nextToken_71 rfl rfl ?_
      refine q_let (fun σ6 e6 => ?_)
      refine q_state e6 ?_
      refine q_aload_n (pc' := 75) C 0 d_M_nextToken_74 rfl rfl ?_
      refine gM_392 (pc' := 78) C d_M_nextToken_75 rfl rfl ?_
      refine q_aload_n (pc' := 79) C 0 d_M_nextToken_78 rfl rfl ?_
      refine gM_377 (pc' := 82) C d_M_nextToken_79 rfl rfl ?_
      refine q_join (fun J8 : St → Option (St) => ∀ (σ7 : St), Rt z qM_nextToken wM g o_v 204 [] [] σ7 (J8 σ7)) (fun σ7 => ?_) (fun J8 hJ8 => ?_)
      · exact q_vret C rfl d_M_nextToken_204 rfl
      refine q_join (fun J9 : Unit → Option (St) => ∀ (_ : Unit), Rt z qM_nextToken wM g o_v 139 [(0, .ref (g.1 0))] [] σ6 (J9 ())) (fun _ => ?_) (fun J9 hJ9 => ?_)
      · refine q_aload_n (pc' := 140) C 0 d_M_nextToken_139 rfl rfl ?_
        refine gM_392 (pc' := 143) C d_M_nextToken_140 rfl rfl ?_
        refine q_aload_n (pc' := 144) C 0 d_M_nextToken_143 rfl rfl ?_
        refine gM_377 (pc' := 147) C d_M_nextToken_144 rfl rfl ?_
        refine q_icmp_ge (tgt := 204) (pc' := 150) C d_M_nextToken_147 rfl rfl ?_ ?_
        · exact Rt.sub [] rfl (hJ8 σ6)
        · refine q_aload_n (pc' := 151) C 0 d_M_nextToken_150 rfl rfl ?_
          refine gM_147 (pc' := 154) C d_M_nextToken_151 rfl rfl ?_
          refine q_aload_n (pc' := 155) C 0 d_M_nextToken_154 rfl rfl ?_
          refine gM_392 (pc' := 158) C d_M_nextToken_155 rfl rfl ?_
          refine q_iald (pc' := 159) C 41 jM_41 kM_41 d_M_nextToken_158 rfl ?_
          refine q_callSr (fr' := 1) (lo' := 25) (pc' := 162) C FM_isDigit lmM_398 d_M_nextToken_159 [.int (σ6 41 (Int32.toNatClampNeg (σ6 0 69)))] [] rfl rfl (Nat.le_of_ble_eq_true rfl) ⟨rfl, rfl⟩ (fun x h => cM_isDigit _ g hi σ6 (σ6 41 (Int32.toNatClampNeg (σ6 0 69))) x h) rfl (fun x10 _ => ?_)
          refine q_if_eq (tgt := 204) (pc' := 165) C d_M_nextToken_162 rfl rfl ?_ ?_
          · exact Rt.sub [] rfl (hJ8 σ6)
          · refine Rt.sub [0] rfl (q_lp (fun a11 : St => [(0, .ref (g.1 0))]) (fun a11 => []) (fun a11 => a11) (fun ih12 hih12 a11 => ?_) 4000 σ6)
            unfold lb_m_nextToken_165
            refine q_aload_n (pc' := 166) C 0 d_M_nextToken_165 rfl rfl ?_
            refine gM_389 (pc' := 169) C d_M_nextToken_166 rfl rfl ?_
            refine q_aload_n (pc' := 170) C 0 d_M_nextToken_169 rfl rfl ?_
            refine gM_377 (pc' := 173) C d_M_nextToken_170 rfl rfl ?_
            refine q_icmp_ge (tgt := 204) (pc' := 176) C d_M_nextToken_173 rfl rfl ?_ ?_
            · exact Rt.sub [] rfl (hJ8 a11)
            · refine q_aload_n (pc' := 177) C 0 d_M_nextToken_176 rfl rfl ?_
              refine gM_147 (pc' := 180) C d_M_nextToken_177 rfl rfl ?_
              refine q_aload_n (pc' := 181) C 0 d_M_nextToken_180 rfl rfl ?_
              refine gM_389 (pc' := 184) C d_M_nextToken_181 rfl rfl ?_
              refine q_iald (pc' := 185) C 41 jM_41 kM_41 d_M_nextToken_184 rfl ?_
              refine q_callSr (fr' := 1) (lo' := 25) (pc' := 188) C FM_isDigit lmM_398 d_M_nextToken_185 [.int (a11 41 (Int32.toNatClampNeg (a11 0 70)))] [] rfl rfl (Nat.le_of_ble_eq_true rfl) ⟨rfl, rfl⟩ (fun x h => cM_isDigit _ g hi a11 (a11 41 (Int32.toNatClampNeg (a11 0 70))) x h) rfl (fun x13 _ => ?_)
              refine q_if_eq (tgt := 204) (pc' := 191) C d_M_nextToken_188 rfl rfl ?_ ?_
              · exact Rt.sub [] rfl (hJ8 a11)
              · refine q_aload_n (pc' := 192) C 0 d_M_nextToken_191 rfl rfl ?_
                refine q_dup (pc' := 193) C d_M_nextToken_192 rfl rfl ?_
                refine gM_389 (pc' := 196) C d_M_nextToken_193 rfl rfl ?_
                refine q_iconst (pc' := 197) C d_M_nextToken_196 ki_1 rfl ?_
                refine q_iadd (pc' := 198) C d_M_nextToken_197 rfl ?_
                refine pM_389 (pc' := 201) C d_M_nextToken_198 rfl rfl ?_
                refine q_let (fun σ14 e14 => ?_)
                refine q_state e14 ?_
                refine q_goto (tgt := 165) C d_M_nextToken_201 rfl ?_
                exact Rt.sub [0] rfl (hih12 σ14)
      refine q_icmp_ge (tgt := 139) (pc' := 85) C d_M_nextToken_82 rfl rfl ?_ ?_
      · exact Rt.sub [0] rfl (hJ9 ())
      · refine q_aload_n (pc' := 86) C 0 d_M_nextToken_85 rfl rfl ?_
        refine gM_147 (pc' := 89) C d_M_nextToken_86 rfl rfl ?_
        refine q_aload_n (pc' := 90) C 0 d_M_nextToken_89 rfl rfl ?_
        refine gM_392 (pc' := 93) C d_M_nextToken_90 rfl rfl ?_
        refine q_iald (pc' := 94) C 41 jM_41 kM_41 d_M_nextToken_93 rfl ?_
        refine q_callSr (fr' := 1) (lo' := 25) (pc' := 97) C FM_isCapital lmM_395 d_M_nextToken_94 [.int (σ6 41 (Int32.toNatClampNeg (σ6 0 69)))] [] rfl rfl (Nat.le_of_ble_eq_true rfl) ⟨rfl, rfl⟩ (fun x h => cM_isCapital _ g hi σ6 (σ6 41 (Int32.toNatClampNeg (σ6 0 69))) x h) rfl (fun x15 _ => ?_)
        refine q_if_eq (tgt := 139) (pc' := 100) C d_M_nextToken_97 rfl rfl ?_ ?_
        · exact Rt.sub [0] rfl (hJ9 ())
        · refine Rt.sub [0] rfl (q_lp (fun a16 : St => [(0, .ref (g.1 0))]) (fun a16 => []) (fun a16 => a16) (fun ih17 hih17 a16 => ?_) 4000 σ6)
          unfold lb_m_nextToken_100
          refine q_aload_n (pc' := 101) C 0 d_M_nextToken_100 rfl rfl ?_
          refine gM_389 (pc' := 104) C d_M_nextToken_101 rfl rfl ?_
          refine q_aload_n (pc' := 105) C 0 d_M_nextToken_104 rfl rfl ?_
          refine gM_377 (pc' := 108) C d_M_nextToken_105 rfl rfl ?_
          refine q_icmp_ge (tgt := 204) (pc' := 111) C d_M_nextToken_108 rfl rfl ?_ ?_
          · exact Rt.sub [] rfl (hJ8 a16)
          · refine q_aload_n (pc' := 112) C 0 d_M_nextToken_111 rfl rfl ?_
            refine gM_147 (pc' := 115) C d_M_nextToken_112 rfl rfl ?_
            refine q_aload_n (pc' := 116) C 0 d_M_nextToken_115 rfl rfl ?_
            refine gM_389 (pc' := 119) C d_M_nextToken_116 rfl rfl ?_
            refine q_iald (pc' := 120) C 41 jM_41 kM_41 d_M_nextToken_119 rfl ?_
            refine q_callSr (fr' := 1) (lo' := 25) (pc' := 123) C FM_isCapital lmM_395 d_M_nextToken_120 [.int (a16 41 (Int32.toNatClampNeg (a16 0 70)))] [] rfl rfl (Nat.le_of_ble_eq_true rfl) ⟨rfl, rfl⟩ (fun x h => cM_isCapital _ g hi a16 (a16 41 (Int32.toNatClampNeg (a16 0 70))) x h) rfl (fun x18 _ => ?_)
            refine q_if_eq (tgt := 204) (pc' := 126) C d_M_nextToken_123 rfl rfl ?_ ?_
            · exact Rt.sub [] rfl (hJ8 a16)
            · refine q_aload_n (pc' := 127) C 0 d_M_nextToken_126 rfl rfl ?_
              refine q_dup (pc' := 128) C d_M_nextToken_127 rfl rfl ?_
              refine gM_389 (pc' := 131) C d_M_nextToken_128 rfl rfl ?_
              refine q_iconst (pc' := 132) C d_M_nextToken_131 ki_1 rfl ?_
              refine q_iadd (pc' := 133) C d_M_nextToken_132 rfl ?_
              refine pM_389 (pc' := 136) C d_M_nextToken_133 rfl rfl ?_
              refine q_let (fun σ19 e19 => ?_)
              refine q_state e19 ?_
              refine q_goto (tgt := 100) C d_M_nextToken_136 rfl ?_
              exact Rt.sub [0] rfl (hih17 σ19)
    refine q_icmp_ge (tgt := 67) (pc' := 58) C d_M_nextToken_55 rfl rfl ?_ ?_
    · refine q_aload_n (pc' := 68) C 0 d_M_nextToken_67 rfl rfl ?_
      refine gM_392 (pc' := 71) C d_M_nextToken_68 rfl rfl ?_
      exact Rt.sub [0] rfl (hJ5 (σ2 0 69))
    · refine q_aload_n (pc' := 59) C 0 d_M_nextToken_58 rfl rfl ?_
      refine gM_392 (pc' := 62) C d_M_nextToken_59 rfl rfl ?_
      refine q_iconst (pc' := 63) C d_M_nextToken_62 ki_1 rfl ?_
      refine q_iadd (pc' := 64) C d_M_nextToken_63 rfl ?_
      refine q_goto (tgt := 71) C d_M_nextToken_64 rfl ?_
      exact Rt.sub [0] rfl (hJ5 ((σ2 0 69) + (1 : Int32)))
  refine Rt.sub [0] rfl (q_lp (fun a20 : St => [(0, .ref (g.1 0))]) (fun a20 => []) (fun a20 => a20) (fun ih21 hih21 a20 => ?_) 4000 σ1)
  unfold lb_m_nextToken_8
  refine q_aload_n (pc' := 9) C 0 d_M_nextToken_8 rfl rfl ?_
  refine gM_392 (pc' := 12) C d_M_nextToken_9 rfl rfl ?_
  refine q_aload_n (pc' := 13) C 0 d_M_nextToken_12 rfl rfl ?_
  refine gM_377 (pc' := 16) C d_M_nextToken_13 rfl rfl ?_
  refine q_icmp_ge (tgt := 46) (pc' := 19) C d_M_nextToken_16 rfl rfl ?_ ?_
  · exact Rt.sub [0] rfl (hJ3 a20)
  · refine q_aload_n (pc' := 20) C 0 d_M_nextToken_19 rfl rfl ?_
    refine gM_147 (pc' := 23) C d_M_nextToken_20 rfl rfl ?_
    refine q_aload_n (pc' := 24) C 0 d_M_nextToken_23 rfl rfl ?_
    refine gM_392 (pc' := 27) C d_M_nextToken_24 rfl rfl ?_
    refine q_iald (pc' := 28) C 41 jM_41 kM_41 d_M_nextToken_27 rfl ?_
    refine q_bipush (pc' := 30) C d_M_nextToken_28 kb_32 rfl ?_
    refine q_icmp_ne (tgt := 46) (pc' := 33) C d_M_nextToken_30 rfl rfl ?_ ?_
    · exact Rt.sub [0] rfl (hJ3 a20)
    · refine q_aload_n (pc' := 34) C 0 d_M_nextToken_33 rfl rfl ?_
      refine q_dup (pc' := 35) C d_M_nextToken_34 rfl rfl ?_
      refine gM_392 (pc' := 38) C d_M_nextToken_35 rfl rfl ?_
      refine q_iconst (pc' := 39) C d_M_nextToken_38 ki_1 rfl ?_
      refine q_iadd (pc' := 40) C d_M_nextToken_39 rfl ?_
      refine pM_392 (pc' := 43) C d_M_nextToken_40 rfl rfl ?_
      refine q_let (fun σ22 e22 => ?_)
      refine q_state e22 ?_
      refine q_goto (tgt := 8) C d_M_nextToken_43 rfl ?_
      exact Rt.sub [0] rfl (hih21 σ22)
theorem d_M_isLetter_0 : decode qM_isLetter.1 0 = .ok (.aload_n 0, 1) := by decide +kernel
theorem d_M_isLetter_1 : decode qM_isLetter.1 1 = .ok (.getfield 389, 3) := by decide +kernel
theorem d_M_isLetter_4 : decode qM_isLetter.1 4 = .ok (.aload_n 0, 1) := by decide +kernel
theorem d_M_isLetter_5 : decode qM_isLetter.1 5 = .ok (.getfield 392, 3) := by decide +kernel
theorem d_M_isLetter_8 : decode qM_isLetter.1 8 = .ok (.isub, 1) := by decide +kernel
theorem d_M_isLetter_9 : decode qM_isLetter.1 9 = .ok (.iconst 1, 1) := by decide +kernel
theorem d_M_isLetter_10 : decode qM_isLetter.1 10 = .ok (.if_icmp .ne 20, 3) := by decide +kernel
theorem d_M_isLetter_13 : decode qM_isLetter.1 13 = .ok (.aload_n 0, 1) := by decide +kernel
theorem d_M_isLetter_14 : decode qM_isLetter.1 14 = .ok (.getfield 147, 3) := by decide +kernel
theorem d_M_isLetter_17 : decode qM_isLetter.1 17 = .ok (.aload_n 0, 1) := by decide +kernel
theorem d_M_isLetter_18 : decode qM_isLetter.1 18 = .ok (.getfield 392, 3) := by decide +kernel
theorem d_M_isLetter_21 : decode qM_isLetter.1 21 = .ok (.iaload, 1) := by decide +kernel
theorem d_M_isLetter_22 : decode qM_isLetter.1 22 = .ok (.iload_n 1, 1) := by decide +kernel
theorem d_M_isLetter_23 : decode qM_isLetter.1 23 = .ok (.if_icmp .ne 7, 3) := by decide +kernel
theorem d_M_isLetter_26 : decode qM_isLetter.1 26 = .ok (.iconst 1, 1) := by decide +kernel
theorem d_M_isLetter_27 : decode qM_isLetter.1 27 = .ok (.goto 4, 3) := by decide +kernel
theorem d_M_isLetter_30 : decode qM_isLetter.1 30 = .ok (.iconst 0, 1) := by decide +kernel
theorem d_M_isLetter_31 : decode qM_isLetter.1 31 = .ok (.ireturn, 1) := by decide +kernel
set_option maxRecDepth 100000 in
def m_isLetter (σ : St) (p1 : Int32) : Option (Int32) :=
  Jn (fun (x1 : Int32) =>
  Gd ((x1 : Int32) &&& 1 = x1) <|
  some x1
  ) fun J2 =>
  Jn (fun (_ : Unit) =>
  J2 (0 : Int32)
  ) fun J4 =>
  if (((σ 0 70) - (σ 0 69)) : Int32) = (1 : Int32) then (
  Gd (Ix (σ 0 69) 200) <|
  if ((σ 41 (Int32.toNatClampNeg (σ 0 69))) : Int32) = p1 then (
  J2 (1 : Int32)
  ) else (
  J4 ()
  )
  ) else (
  J4 ()
  )
set_option maxHeartbeats 4000000 in
set_option maxRecDepth 100000 in
theorem cM_isLetter (l : Launch) (g : Ge) (hi : injB wM.2 g) (σ : St) (p1 : Int32) (x : Int32) (h : m_isLetter σ p1 = some x) : Ct l wM g yM_isLetter qM_isLetter 0 0 [.ref (g.1 0), .int p1] σ (some (.int x), σ) := by
  refine Ct.of (out := (o_r σ)) FM_isLetter rfl hi rfl h (fun z hz C => ?_)
  clear h
  subst hz
  unfold m_isLetter
  show Rt z qM_isLetter wM g (o_r σ) 0 [(0, .ref (g.1 0)), (1, .int p1)] [] σ _
  refine q_aload_n (pc' := 1) C 0 d_M_isLetter_0 rfl rfl ?_
  refine gM_389 (pc' := 4) C d_M_isLetter_1 rfl rfl ?_
  refine q_aload_n (pc' := 5) C 0 d_M_isLetter_4 rfl rfl ?_
  refine gM_392 (pc' := 8) C d_M_isLetter_5 rfl rfl ?_
  refine q_isub (pc' := 9) C d_M_isLetter_8 rfl ?_
  refine q_iconst (pc' := 10) C d_M_isLetter_9 ki_1 rfl ?_
  refine q_join (fun J2 : Int32 → Option (Int32) => ∀ (x1 : Int32), Rt z qM_isLetter wM g (o_r σ) 31 [] [.int x1] σ (J2 x1)) (fun x1 => ?_) (fun J2 hJ2 => ?_)
  · refine q_guard (fun gx3 => ?_)
    exact q_zret C rfl gx3 d_M_isLetter_31 rfl
  refine q_join (fun J4 : Unit → Option (Int32) => ∀ (_ : Unit), Rt z qM_isLetter wM g (o_r σ) 30 [] [] σ (J4 ())) (fun _ => ?_) (fun J4 hJ4 => ?_)
  · refine q_iconst (pc' := 31) C d_M_isLetter_30 ki_0 rfl ?_
    exact Rt.sub [] rfl (hJ2 (0 : Int32))
  refine q_icmp_ne (tgt := 30) (pc' := 13) C d_M_isLetter_10 rfl rfl ?_ ?_
  · exact Rt.sub [] rfl (hJ4 ())
  · refine q_aload_n (pc' := 14) C 0 d_M_isLetter_13 rfl rfl ?_
    refine gM_147 (pc' := 17) C d_M_isLetter_14 rfl rfl ?_
    refine q_aload_n (pc' := 18) C 0 d_M_isLetter_17 rfl rfl ?_
    refine gM_392 (pc' := 21) C d_M_isLetter_18 rfl rfl ?_
    refine q_iald (pc' := 22) C 41 jM_41 kM_41 d_M_isLetter_21 rfl ?_
    refine q_iload_n (pc' := 23) C 1 d_M_isLetter_22 rfl rfl ?_
    refine q_icmp_ne (tgt := 30) (pc' := 26) C d_M_isLetter_23 rfl rfl ?_ ?_
    · exact Rt.sub [] rfl (hJ4 ())
    · refine q_iconst (pc' := 27) C d_M_isLetter_26 ki_1 rfl ?_
      refine q_goto (tgt := 31) C d_M_isLetter_27 rfl ?_
      exact Rt.sub [] rfl (hJ2 (1 : Int32))
theorem d_M_kindHere_0 : decode qM_kindHere.1 0 = .ok (.iconst 0, 1) := by decide +kernel
theorem d_M_kindHere_1 : decode qM_kindHere.1 1 = .ok (.istore_n 1, 1) := by decide +kernel
theorem d_M_kindHere_2 : decode qM_kindHere.1 2 = .ok (.iload_n 1, 1) := by decide +kernel
theorem d_M_kindHere_3 : decode qM_kindHere.1 3 = .ok (.bipush 8, 2) := by decide +kernel
theorem d_M_kindHere_5 : decode qM_kindHere.1 5 = .ok (.if_icmp .ge 68, 3) := by decide +kernel
theorem d_M_kindHere_8 : decode qM_kindHere.1 8 = .ok (.aload_n 0, 1) := by decide +kernel
theorem d_M_kindHere_9 : decode qM_kindHere.1 9 = .ok (.getfield 389, 3) := by decide +kernel
theorem d_M_kindHere_12 : decode qM_kindHere.1 12 = .ok (.aload_n 0, 1) := by decide +kernel
theorem d_M_kindHere_13 : decode qM_kindHere.1 13 = .ok (.getfield 392, 3) := by decide +kernel
theorem d_M_kindHere_16 : decode qM_kindHere.1 16 = .ok (.isub, 1) := by decide +kernel
theorem d_M_kindHere_17 : decode qM_kindHere.1 17 = .ok (.iconst 2, 1) := by decide +kernel
theorem d_M_kindHere_18 : decode qM_kindHere.1 18 = .ok (.if_icmp .ne 49, 3) := by decide +kernel
theorem d_M_kindHere_21 : decode qM_kindHere.1 21 = .ok (.aload_n 0, 1) := by decide +kernel
theorem d_M_kindHere_22 : decode qM_kindHere.1 22 = .ok (.getfield 147, 3) := by decide +kernel
theorem d_M_kindHere_25 : decode qM_kindHere.1 25 = .ok (.aload_n 0, 1) := by decide +kernel
theorem d_M_kindHere_26 : decode qM_kindHere.1 26 = .ok (.getfield 392, 3) := by decide +kernel
theorem d_M_kindHere_29 : decode qM_kindHere.1 29 = .ok (.iaload, 1) := by decide +kernel
theorem d_M_kindHere_30 : decode qM_kindHere.1 30 = .ok (.aload_n 0, 1) := by decide +kernel
theorem d_M_kindHere_31 : decode qM_kindHere.1 31 = .ok (.getfield 150, 3) := by decide +kernel
theorem d_M_kindHere_34 : decode qM_kindHere.1 34 = .ok (.iconst 2, 1) := by decide +kernel
theorem d_M_kindHere_35 : decode qM_kindHere.1 35 = .ok (.iload_n 1, 1) := by decide +kernel
theorem d_M_kindHere_36 : decode qM_kindHere.1 36 = .ok (.imul, 1) := by decide +kernel
theorem d_M_kindHere_37 : decode qM_kindHere.1 37 = .ok (.iaload, 1) := by decide +kernel
theorem d_M_kindHere_38 : decode qM_kindHere.1 38 = .ok (.if_icmp .ne 29, 3) := by decide +kernel
theorem d_M_kindHere_41 : decode qM_kindHere.1 41 = .ok (.aload_n 0, 1) := by decide +kernel
theorem d_M_kindHere_42 : decode qM_kindHere.1 42 = .ok (.getfield 147, 3) := by decide +kernel
theorem d_M_kindHere_45 : decode qM_kindHere.1 45 = .ok (.aload_n 0, 1) := by decide +kernel
theorem d_M_kindHere_46 : decode qM_kindHere.1 46 = .ok (.getfield 392, 3) := by decide +kernel
theorem d_M_kindHere_49 : decode qM_kindHere.1 49 = .ok (.iconst 1, 1) := by decide +kernel
theorem d_M_kindHere_50 : decode qM_kindHere.1 50 = .ok (.iadd, 1) := by decide +kernel
theorem d_M_kindHere_51 : decode qM_kindHere.1 51 = .ok (.iaload, 1) := by decide +kernel
theorem d_M_kindHere_52 : decode qM_kindHere.1 52 = .ok (.aload_n 0, 1) := by decide +kernel
theorem d_M_kindHere_53 : decode qM_kindHere.1 53 = .ok (.getfield 150, 3) := by decide +kernel
theorem d_M_kindHere_56 : decode qM_kindHere.1 56 = .ok (.iconst 2, 1) := by decide +kernel
theorem d_M_kindHere_57 : decode qM_kindHere.1 57 = .ok (.iload_n 1, 1) := by decide +kernel
theorem d_M_kindHere_58 : decode qM_kindHere.1 58 = .ok (.imul, 1) := by decide +kernel
theorem d_M_kindHere_59 : decode qM_kindHere.1 59 = .ok (.iconst 1, 1) := by decide +kernel
theorem d_M_kindHere_60 : decode qM_kindHere.1 60 = .ok (.iadd, 1) := by decide +kernel
theorem d_M_kindHere_61 : decode qM_kindHere.1 61 = .ok (.iaload, 1) := by decide +kernel
theorem d_M_kindHere_62 : decode qM_kindHere.1 62 = .ok (.if_icmp .ne 5, 3) := by decide +kernel
theorem d_M_kindHere_65 : decode qM_kindHere.1 65 = .ok (.iload_n 1, 1) := by decide +kernel
theorem d_M_kindHere_66 : decode qM_kindHere.1 66 = .ok (.ireturn, 1) := by decide +kernel
theorem d_M_kindHere_67 : decode qM_kindHere.1 67 = .ok (.iinc 1 1, 3) := by decide +kernel
theorem d_M_kindHere_70 : decode qM_kindHere.1 70 = .ok (.goto (-68), 3) := by decide +kernel
theorem d_M_kindHere_73 : decode qM_kindHere.1 73 = .ok (.iconst (-1), 1) := by decide +kernel
theorem d_M_kindHere_74 : decode qM_kindHere.1 74 = .ok (.ireturn, 1) := by decide +kernel
set_option maxRecDepth 100000 in
def lb_m_kindHere_2 (σ : St) (J2 : Int32 → Option (Int32)) (J3 : Unit → Option (Int32)) (ih5 : Int32 → Option (Int32)) (a4 : Int32) : Option (Int32) :=
  if ((8 : Int32) : Int32) ≤ a4 then (
  J3 ()
  ) else (
  Jn (fun (_ : Unit) =>
  Lt (a4 + (1 : Int32) : Int32) fun x7 =>
  ih5 x7
  ) fun J6 =>
  if (((σ 0 70) - (σ 0 69)) : Int32) = (2 : Int32) then (
  Gd (Ix (σ 0 69) 200) <|
  Gd (Ix ((2 : Int32) * a4) 16) <|
  if ((σ 41 (Int32.toNatClampNeg (σ 0 69))) : Int32) = (σ 42 (Int32.toNatClampNeg ((2 : Int32) * a4))) then (
  Gd (Ix ((σ 0 69) + (1 : Int32)) 200) <|
  Gd (Ix (((2 : Int32) * a4) + (1 : Int32)) 16) <|
  if ((σ 41 (Int32.toNatClampNeg ((σ 0 69) + (1 : Int32)))) : Int32) = (σ 42 (Int32.toNatClampNeg (((2 : Int32) * a4) + (1 : Int32)))) then (
  J2 a4
  ) else (
  J6 ()
  )
  ) else (
  J6 ()
  )
  ) else (
  J6 ()
  )
  )
set_option maxRecDepth 100000 in
def m_kindHere (σ : St) : Option (Int32) :=
  Jn (fun (x1 : Int32) =>
  some x1
  ) fun J2 =>
  Jn (fun (_ : Unit) =>
  some (-1 : Int32)
  ) fun J3 =>
  lp (lb_m_kindHere_2 σ J2 J3) 4000 (0 : Int32)
set_option maxHeartbeats 4000000 in
set_option maxRecDepth 100000 in
theorem cM_kindHere (l : Launch) (g : Ge) (hi : injB wM.2 g) (σ : St) (x : Int32) (h : m_kindHere σ = some x) : Ct l wM g yM_kindHere qM_kindHere 0 0 [.ref (g.1 0)] σ (some (.int x), σ) := by
  refine Ct.of (out := (o_r σ)) FM_kindHere rfl hi rfl h (fun z hz C => ?_)
  clear h
  subst hz
  unfold m_kindHere
  show Rt z qM_kindHere wM g (o_r σ) 0 [(0, .ref (g.1 0))] [] σ _
  refine q_iconst (pc' := 1) C d_M_kindHere_0 ki_0 rfl ?_
  refine q_istore_n (pc' := 2) (lv' := [(1, .int (0 : Int32)), (0, .ref (g.1 0))]) C d_M_kindHere_1 (by decide) rfl rfl ?_
  refine q_join (fun J2 : Int32 → Option (Int32) => ∀ (x1 : Int32), Rt z qM_kindHere wM g (o_r σ) 65 [(1, .int x1)] [] σ (J2 x1)) (fun x1 => ?_) (fun J2 hJ2 => ?_)
  · refine q_iload_n (pc' := 66) C 0 d_M_kindHere_65 rfl rfl ?_
    exact q_iret C rfl d_M_kindHere_66 rfl
  refine q_join (fun J3 : Unit → Option (Int32) => ∀ (_ : Unit), Rt z qM_kindHere wM g (o_r σ) 73 [] [] σ (J3 ())) (fun _ => ?_) (fun J3 hJ3 => ?_)
  · refine q_iconst (pc' := 74) C d_M_kindHere_73 ki_m1 rfl ?_
    exact q_iret C rfl d_M_kindHere_74 rfl
  refine Rt.sub [1, 0] rfl (q_lp (fun a4 : Int32 => [(0, .ref (g.1 0)), (1, .int a4)]) (fun a4 => []) (fun a4 => σ) (fun ih5 hih5 a4 => ?_) 4000 (0 : Int32))
  unfold lb_m_kindHere_2
  refine q_iload_n (pc' := 3) C 1 d_M_kindHere_2 rfl rfl ?_
  refine q_bipush (pc' := 5) C d_M_kindHere_3 kb_8 rfl ?_
  refine q_icmp_ge (tgt := 73) (pc' := 8) C d_M_kindHere_5 rfl rfl ?_ ?_
  · exact Rt.sub [] rfl (hJ3 ())
  · refine q_aload_n (pc' := 9) C 0 d_M_kindHere_8 rfl rfl ?_
    refine gM_389 (pc' := 12) C d_M_kindHere_9 rfl rfl ?_
    refine q_aload_n (pc' := 13) C 0 d_M_kindHere_12 rfl rfl ?_
    refine gM_392 (pc' := 16) C d_M_kindHere_13 rfl rfl ?_
    refine q_isub (pc' := 17) C d_M_kindHere_16 rfl ?_
    refine q_iconst (pc' := 18) C d_M_kindHere_17 ki_2 rfl ?_
    refine q_join (fun J6 : Unit → Option (Int32) => ∀ (_ : Unit), Rt z qM_kindHere wM g (o_r σ) 67 [(0, .ref (g.1 0)), (1, .int a4)] [] σ (J6 ())) (fun _ => ?_) (fun J6 hJ6 => ?_)
    · refine q_let (fun x7 e7 => ?_)
      refine q_iinc (pc' := 70) (lv' := [(1, .int x7), (0, .ref (g.1 0))]) C 1 d_M_kindHere_67 rfl (by rw [e7, ki_1]) (by decide) rfl rfl ?_
      refine q_goto (tgt := 2) C d_M_kindHere_70 rfl ?_
      exact Rt.sub [1, 0] rfl (hih5 x7)
    refine q_icmp_ne (tgt := 67) (pc' := 21) C d_M_kindHere_18 rfl rfl ?_ ?_
    · exact Rt.sub [0, 1] rfl (hJ6 ())
    · refine q_aload_n (pc' := 22) C 0 d_M_kindHere_21 rfl rfl ?_
      refine gM_147 (pc' := 25) C d_M_kindHere_22 rfl rfl ?_
      refine q_aload_n (pc' := 26) C 0 d_M_kindHere_25 rfl rfl ?_
      refine gM_392 (pc' := 29) C d_M_kindHere_26 rfl rfl ?_
      refine q_iald (pc' := 30) C 41 jM_41 kM_41 d_M_kindHere_29 rfl ?_
      refine q_aload_n (pc' := 31) C 0 d_M_kindHere_30 rfl rfl ?_
      refine gM_150 (pc' := 34) C d_M_kindHere_31 rfl rfl ?_
      refine q_iconst (pc' := 35) C d_M_kindHere_34 ki_2 rfl ?_
      refine q_iload_n (pc' := 36) C 1 d_M_kindHere_35 rfl rfl ?_
      refine q_imul (pc' := 37) C d_M_kindHere_36 rfl ?_
      refine q_iald (pc' := 38) C 42 jM_42 kM_42 d_M_kindHere_37 rfl ?_
      refine q_icmp_ne (tgt := 67) (pc' := 41) C d_M_kindHere_38 rfl rfl ?_ ?_
      · exact Rt.sub [0, 1] rfl (hJ6 ())
      · refine q_aload_n (pc' := 42) C 0 d_M_kindHere_41 rfl rfl ?_
        refine gM_147 (pc' := 45) C d_M_kindHere_42 rfl rfl ?_
        refine q_aload_n (pc' := 46) C 0 d_M_kindHere_45 rfl rfl ?_
        refine gM_392 (pc' := 49) C d_M_kindHere_46 rfl rfl ?_
        refine q_iconst (pc' := 50) C d_M_kindHere_49 ki_1 rfl ?_
        refine q_iadd (pc' := 51) C d_M_kindHere_50 rfl ?_
        refine q_iald (pc' := 52) C 41 jM_41 kM_41 d_M_kindHere_51 rfl ?_
        refine q_aload_n (pc' := 53) C 0 d_M_kindHere_52 rfl rfl ?_
        refine gM_150 (pc' := 56) C d_M_kindHere_53 rfl rfl ?_
        refine q_iconst (pc' := 57) C d_M_kindHere_56 ki_2 rfl ?_
        refine q_iload_n (pc' := 58) C 1 d_M_kindHere_57 rfl rfl ?_
        refine q_imul (pc' := 59) C d_M_kindHere_58 rfl ?_
        refine q_iconst (pc' := 60) C d_M_kindHere_59 ki_1 rfl ?_
        refine q_iadd (pc' := 61) C d_M_kindHere_60 rfl ?_
        refine q_iald (pc' := 62) C 42 jM_42 kM_42 d_M_kindHere_61 rfl ?_
        refine q_icmp_ne (tgt := 67) (pc' := 65) C d_M_kindHere_62 rfl rfl ?_ ?_
        · exact Rt.sub [0, 1] rfl (hJ6 ())
        · exact Rt.sub [1] rfl (hJ2 a4)
theorem d_M_readsNumber_0 : decode qM_readsNumber.1 0 = .ok (.aload_n 0, 1) := by decide +kernel
theorem d_M_readsNumber_1 : decode qM_readsNumber.1 1 = .ok (.getfield 392, 3) := by decide +kernel
theorem d_M_readsNumber_4 : decode qM_readsNumber.1 4 = .ok (.aload_n 0, 1) := by decide +kernel
theorem d_M_readsNumber_5 : decode qM_readsNumber.1 5 = .ok (.getfield 377, 3) := by decide +kernel
theorem d_M_readsNumber_8 : decode qM_readsNumber.1 8 = .ok (.if_icmp .eq 31, 3) := by decide +kernel
theorem d_M_readsNumber_11 : decode qM_readsNumber.1 11 = .ok (.aload_n 0, 1) := by decide +kernel
theorem d_M_readsNumber_12 : decode qM_readsNumber.1 12 = .ok (.getfield 147, 3) := by decide +kernel
theorem d_M_readsNumber_15 : decode qM_readsNumber.1 15 = .ok (.aload_n 0, 1) := by decide +kernel
theorem d_M_readsNumber_16 : decode qM_readsNumber.1 16 = .ok (.getfield 392, 3) := by decide +kernel
theorem d_M_readsNumber_19 : decode qM_readsNumber.1 19 = .ok (.iaload, 1) := by decide +kernel
theorem d_M_readsNumber_20 : decode qM_readsNumber.1 20 = .ok (.invokestatic 398, 3) := by decide +kernel
theorem d_M_readsNumber_23 : decode qM_readsNumber.1 23 = .ok (.ifCond .eq 16, 3) := by decide +kernel
theorem d_M_readsNumber_26 : decode qM_readsNumber.1 26 = .ok (.aload_n 0, 1) := by decide +kernel
theorem d_M_readsNumber_27 : decode qM_readsNumber.1 27 = .ok (.getfield 389, 3) := by decide +kernel
theorem d_M_readsNumber_30 : decode qM_readsNumber.1 30 = .ok (.aload_n 0, 1) := by decide +kernel
theorem d_M_readsNumber_31 : decode qM_readsNumber.1 31 = .ok (.getfield 392, 3) := by decide +kernel
theorem d_M_readsNumber_34 : decode qM_readsNumber.1 34 = .ok (.isub, 1) := by decide +kernel
theorem d_M_readsNumber_35 : decode qM_readsNumber.1 35 = .ok (.iconst 3, 1) := by decide +kernel
theorem d_M_readsNumber_36 : decode qM_readsNumber.1 36 = .ok (.if_icmp .le 5, 3) := by decide +kernel
theorem d_M_readsNumber_39 : decode qM_readsNumber.1 39 = .ok (.iconst 0, 1) := by decide +kernel
theorem d_M_readsNumber_40 : decode qM_readsNumber.1 40 = .ok (.ireturn, 1) := by decide +kernel
theorem d_M_readsNumber_41 : decode qM_readsNumber.1 41 = .ok (.iconst 0, 1) := by decide +kernel
theorem d_M_readsNumber_42 : decode qM_readsNumber.1 42 = .ok (.istore_n 3, 1) := by decide +kernel
theorem d_M_readsNumber_43 : decode qM_readsNumber.1 43 = .ok (.aload_n 0, 1) := by decide +kernel
theorem d_M_readsNumber_44 : decode qM_readsNumber.1 44 = .ok (.getfield 392, 3) := by decide +kernel
theorem d_M_readsNumber_47 : decode qM_readsNumber.1 47 = .ok (.istore 4, 2) := by decide +kernel
theorem d_M_readsNumber_49 : decode qM_readsNumber.1 49 = .ok (.iload 4, 2) := by decide +kernel
theorem d_M_readsNumber_51 : decode qM_readsNumber.1 51 = .ok (.aload_n 0, 1) := by decide +kernel
theorem d_M_readsNumber_52 : decode qM_readsNumber.1 52 = .ok (.getfield 389, 3) := by decide +kernel
theorem d_M_readsNumber_55 : decode qM_readsNumber.1 55 = .ok (.if_icmp .ge 25, 3) := by decide +kernel
theorem d_M_readsNumber_58 : decode qM_readsNumber.1 58 = .ok (.bipush 10, 2) := by decide +kernel
theorem d_M_readsNumber_60 : decode qM_readsNumber.1 60 = .ok (.iload_n 3, 1) := by decide +kernel
theorem d_M_readsNumber_61 : decode qM_readsNumber.1 61 = .ok (.imul, 1) := by decide +kernel
theorem d_M_readsNumber_62 : decode qM_readsNumber.1 62 = .ok (.aload_n 0, 1) := by decide +kernel
theorem d_M_readsNumber_63 : decode qM_readsNumber.1 63 = .ok (.getfield 147, 3) := by decide +kernel
theorem d_M_readsNumber_66 : decode qM_readsNumber.1 66 = .ok (.iload 4, 2) := by decide +kernel
theorem d_M_readsNumber_68 : decode qM_readsNumber.1 68 = .ok (.iaload, 1) := by decide +kernel
theorem d_M_readsNumber_69 : decode qM_readsNumber.1 69 = .ok (.iadd, 1) := by decide +kernel
theorem d_M_readsNumber_70 : decode qM_readsNumber.1 70 = .ok (.bipush 48, 2) := by decide +kernel
theorem d_M_readsNumber_72 : decode qM_readsNumber.1 72 = .ok (.isub, 1) := by decide +kernel
theorem d_M_readsNumber_73 : decode qM_readsNumber.1 73 = .ok (.istore_n 3, 1) := by decide +kernel
theorem d_M_readsNumber_74 : decode qM_readsNumber.1 74 = .ok (.iinc 4 1, 3) := by decide +kernel
theorem d_M_readsNumber_77 : decode qM_readsNumber.1 77 = .ok (.goto (-28), 3) := by decide +kernel
theorem d_M_readsNumber_80 : decode qM_readsNumber.1 80 = .ok (.iload_n 3, 1) := by decide +kernel
theorem d_M_readsNumber_81 : decode qM_readsNumber.1 81 = .ok (.i2l, 1) := by decide +kernel
theorem d_M_readsNumber_82 : decode qM_readsNumber.1 82 = .ok (.iload_n 1, 1) := by decide +kernel
theorem d_M_readsNumber_83 : decode qM_readsNumber.1 83 = .ok (.i2l, 1) := by decide +kernel
theorem d_M_readsNumber_84 : decode qM_readsNumber.1 84 = .ok (.iload_n 2, 1) := by decide +kernel
theorem d_M_readsNumber_85 : decode qM_readsNumber.1 85 = .ok (.i2l, 1) := by decide +kernel
theorem d_M_readsNumber_86 : decode qM_readsNumber.1 86 = .ok (.invokestatic 232, 3) := by decide +kernel
theorem d_M_readsNumber_89 : decode qM_readsNumber.1 89 = .ok (.ifCond .ne 5, 3) := by decide +kernel
theorem d_M_readsNumber_92 : decode qM_readsNumber.1 92 = .ok (.iconst 0, 1) := by decide +kernel
theorem d_M_readsNumber_93 : decode qM_readsNumber.1 93 = .ok (.ireturn, 1) := by decide +kernel
theorem d_M_readsNumber_94 : decode qM_readsNumber.1 94 = .ok (.aload_n 0, 1) := by decide +kernel
theorem d_M_readsNumber_95 : decode qM_readsNumber.1 95 = .ok (.iload_n 3, 1) := by decide +kernel
theorem d_M_readsNumber_96 : decode qM_readsNumber.1 96 = .ok (.putfield 401, 3) := by decide +kernel
theorem d_M_readsNumber_99 : decode qM_readsNumber.1 99 = .ok (.aload_n 0, 1) := by decide +kernel
theorem d_M_readsNumber_100 : decode qM_readsNumber.1 100 = .ok (.invokevirtual 404, 3) := by decide +kernel
theorem d_M_readsNumber_103 : decode qM_readsNumber.1 103 = .ok (.iconst 1, 1) := by decide +kernel
theorem d_M_readsNumber_104 : decode qM_readsNumber.1 104 = .ok (.ireturn, 1) := by decide +kernel
set_option maxRecDepth 100000 in
def lb_m_readsNumber_49 (σ : St) (J5 : Int32 → Option (Int32 × St)) (ih10 : Int32 × Int32 → Option (Int32 × St)) (a9 : Int32 × Int32) : Option (Int32 × St) :=
  if ((σ 0 70) : Int32) ≤ a9.2 then (
  J5 a9.1
  ) else (
  Gd (Ix a9.2 200) <|
  Lt (((((10 : Int32) * a9.1) + (σ 41 (Int32.toNatClampNeg a9.2))) - (48 : Int32)) : Int32) fun x11 =>
  Lt (a9.2 + (1 : Int32) : Int32) fun x12 =>
  ih10 (x11, x12)
  )
set_option maxRecDepth 100000 in
def m_readsNumber (σ : St) (p1 : Int32) (p2 : Int32) : Option (Int32 × St) :=
  Jn (fun (_ : Unit) =>
  some ((0 : Int32), σ)
  ) fun J1 =>
  if ((σ 0 69) : Int32) = (σ 0 68) then (
  J1 ()
  ) else (
  Gd (Ix (σ 0 69) 200) <|
  Option.bind (m_isDigit (σ 41 (Int32.toNatClampNeg (σ 0 69)))) fun x2 =>
  if (x2 : Int32) = 0 then (
  J1 ()
  ) else (
  if (((σ 0 70) - (σ 0 69)) : Int32) ≤ (3 : Int32) then (
  Lt ((σ 0 69) : Int32) fun x3 =>
  Jn (fun (x4 : Int32) =>
  Option.bind (m_in (Int32.toInt64 x4) (Int32.toInt64 p1) (Int32.toInt64 p2)) fun x6 =>
  if (x6 : Int32) = 0 then (
  some ((0 : Int32), σ)
  ) else (
  Lt (s2 σ 0 74 x4) fun σ7 =>
  Option.bind (m_nextToken σ7) fun x8 =>
  some ((1 : Int32), x8)
  )
  ) fun J5 =>
  lp (lb_m_readsNumber_49 σ J5) 4000 ((0 : Int32), x3)
  ) else (
  J1 ()
  )
  )
  )
set_option maxHeartbeats 4000000 in
set_option maxRecDepth 100000 in
theorem cM_readsNumber (l : Launch) (g : Ge) (hi : injB wM.2 g) (σ : St) (p1 : Int32) (p2 : Int32) (x : Int32 × St) (h : m_readsNumber σ p1 p2 = some x) : Ct l wM g yM_readsNumber qM_readsNumber 3 65 [.ref (g.1 0), .int p1, .int p2] σ (some (.int x.1), x.2) := by
  refine Ct.of (out := o_w) FM_readsNumber rfl hi rfl h (fun z hz C => ?_)
  clear h
  subst hz
  unfold m_readsNumber
  show Rt z qM_readsNumber wM g o_w 0 [(0, .ref (g.1 0)), (1, .int p1), (2, .int p2)] [] σ _
  refine q_aload_n (pc' := 1) C 0 d_M_readsNumber_0 rfl rfl ?_
  refine gM_392 (pc' := 4) C d_M_readsNumber_1 rfl rfl ?_
  refine q_aload_n (pc' := 5) C 0 d_M_readsNumber_4 rfl rfl ?_
  refine gM_377 (pc' := 8) C d_M_readsNumber_5 rfl rfl ?_
  refine q_join (fun J1 : Unit → Option (Int32 × St) => ∀ (_ : Unit), Rt z qM_readsNumber wM g o_w 39 [] [] σ (J1 ())) (fun _ => ?_) (fun J1 hJ1 => ?_)
  · refine q_iconst (pc' := 40) C d_M_readsNumber_39 ki_0 rfl ?_
    exact q_zret C rfl (by decide) d_M_readsNumber_40 rfl
  refine q_icmp_eq (tgt := 39) (pc' := 11) C d_M_readsNumber_8 rfl rfl ?_ ?_
  · exact Rt.sub [] rfl (hJ1 ())
  · refine q_aload_n (pc' := 12) C 0 d_M_readsNumber_11 rfl rfl ?_
    refine gM_147 (pc' := 15) C d_M_readsNumber_12 rfl rfl ?_
    refine q_aload_n (pc' := 16) C 0 d_M_readsNumber_15 rfl rfl ?_
    refine gM_392 (pc' := 19) C d_M_readsNumber_16 rfl rfl ?_
    refine q_iald (pc' := 20) C 41 jM_41 kM_41 d_M_readsNumber_19 rfl ?_
    refine q_callSr (fr' := 1) (lo' := 25) (pc' := 23) C FM_isDigit lmM_398 d_M_readsNumber_20 [.int (σ 41 (Int32.toNatClampNeg (σ 0 69)))] [] rfl rfl (Nat.le_of_ble_eq_true rfl) ⟨rfl, rfl⟩ (fun x h => cM_isDigit _ g hi σ (σ 41 (Int32.toNatClampNeg (σ 0 69))) x h) rfl (fun x2 _ => ?_)
    refine q_if_eq (tgt := 39) (pc' := 26) C d_M_readsNumber_23 rfl rfl ?_ ?_
    · exact Rt.sub [] rfl (hJ1 ())
    · refine q_aload_n (pc' := 27) C 0 d_M_readsNumber_26 rfl rfl ?_
      refine gM_389 (pc' := 30) C d_M_readsNumber_27 rfl rfl ?_
      refine q_aload_n (pc' := 31) C 0 d_M_readsNumber_30 rfl rfl ?_
      refine gM_392 (pc' := 34) C d_M_readsNumber_31 rfl rfl ?_
      refine q_isub (pc' := 35) C d_M_readsNumber_34 rfl ?_
      refine q_iconst (pc' := 36) C d_M_readsNumber_35 ki_3 rfl ?_
      refine q_icmp_le (tgt := 41) (pc' := 39) C d_M_readsNumber_36 rfl rfl ?_ ?_
      · refine q_iconst (pc' := 42) C d_M_readsNumber_41 ki_0 rfl ?_
        refine q_istore_n (pc' := 43) (lv' := [(3, .int (0 : Int32)), (0, .ref (g.1 0)), (1, .int p1), (2, .int p2)]) C d_M_readsNumber_42 (by decide) rfl rfl ?_
        refine q_aload_n (pc' := 44) C 1 d_M_readsNumber_43 rfl rfl ?_
        refine gM_392 (pc' := 47) C d_M_readsNumber_44 rfl rfl ?_
        refine q_let (fun x3 e3 => ?_)
        refine q_topi e3 ?_
        refine q_istore (pc' := 49) (lv' := [(4, .int x3), (3, .int (0 : Int32)), (0, .ref (g.1 0)), (1, .int p1), (2, .int p2)]) C d_M_readsNumber_47 (by decide) rfl rfl ?_
        refine q_join (fun J5 : Int32 → Option (Int32 × St) => ∀ (x4 : Int32), Rt z qM_readsNumber wM g o_w 80 [(0, .ref (g.1 0)), (1, .int p1), (2, .int p2), (3, .int x4)] [] σ (J5 x4)) (fun x4 => ?_) (fun J5 hJ5 => ?_)
        · refine q_iload_n (pc' := 81) C 3 d_M_readsNumber_80 rfl rfl ?_
          refine q_i2l (pc' := 82) C d_M_readsNumber_81 rfl ?_
          refine q_iload_n (pc' := 83) C 1 d_M_readsNumber_82 rfl rfl ?_
          refine q_i2l (pc' := 84) C d_M_readsNumber_83 rfl ?_
          refine q_iload_n (pc' := 85) C 2 d_M_readsNumber_84 rfl rfl ?_
          refine q_i2l (pc' := 86) C d_M_readsNumber_85 rfl ?_
          refine q_callSr (fr' := 0) (lo' := 0) (pc' := 89) C FM_in lmM_232 d_M_readsNumber_86 [.long (Int32.toInt64 x4), .long (Int32.toInt64 p1), .long (Int32.toInt64 p2)] [] rfl rfl (Nat.le_of_ble_eq_true rfl) ⟨rfl, rfl⟩ (fun x h => cM_in _ g hi σ (Int32.toInt64 x4) (Int32.toInt64 p1) (Int32.toInt64 p2) x h) rfl (fun x6 _ => ?_)
          refine q_if_ne (tgt := 94) (pc' := 92) C d_M_readsNumber_89 rfl rfl ?_ ?_
          · refine q_aload_n (pc' := 95) C 0 d_M_readsNumber_94 rfl rfl ?_
            refine q_iload_n (pc' := 96) C 3 d_M_readsNumber_95 rfl rfl ?_
            refine pM_401 (pc' := 99) C d_M_readsNumber_96 rfl rfl ?_
            refine q_let (fun σ7 e7 => ?_)
            refine q_state e7 ?_
            refine q_aload_n (pc' := 100) C 0 d_M_readsNumber_99 rfl rfl ?_
            refine q_callVv (fr' := 2) (lo' := 45) (pc' := 103) C FM_nextToken lmM_404 d_M_readsNumber_100 0 jM_0 kM_0 cM0 [] [] rfl rfl (Nat.le_of_ble_eq_true rfl) ⟨rfl, rfl⟩ (fun x h => cM_nextToken _ g hi σ7 x h) rfl (fun x8 _ => ?_)
            refine q_iconst (pc' := 104) C d_M_readsNumber_103 ki_1 rfl ?_
            exact q_zret C rfl (by decide) d_M_readsNumber_104 rfl
          · refine q_iconst (pc' := 93) C d_M_readsNumber_92 ki_0 rfl ?_
            exact q_zret C rfl (by decide) d_M_readsNumber_93 rfl
        refine Rt.sub [2, 3, 4, 1, 0] rfl (q_lp (fun a9 : Int32 × Int32 => [(0, .ref (g.1 0)), (1, .int p1), (2, .int p2), (3, .int a9.1), (4, .int a9.2)]) (fun a9 => []) (fun a9 => σ) (fun ih10 hih10 a9 => ?_) 4000 ((0 : Int32), x3))
        unfold lb_m_readsNumber_49
        refine q_iload (pc' := 51) C 4 d_M_readsNumber_49 rfl rfl ?_
        refine q_aload_n (pc' := 52) C 0 d_M_readsNumber_51 rfl rfl ?_
        refine gM_389 (pc' := 55) C d_M_readsNumber_52 rfl rfl ?_
        refine q_icmp_ge (tgt := 80) (pc' := 58) C d_M_readsNumber_55 rfl rfl ?_ ?_
        · exact Rt.sub [0, 1, 2, 3] rfl (hJ5 a9.1)
        · refine q_bipush (pc' := 60) C d_M_readsNumber_58 kb_10 rfl ?_
          refine q_iload_n (pc' := 61) C 3 d_M_readsNumber_60 rfl rfl ?_
          refine q_imul (pc' := 62) C d_M_readsNumber_61 rfl ?_
          refine q_aload_n (pc' := 63) C 0 d_M_readsNumber_62 rfl rfl ?_
          refine gM_147 (pc' := 66) C d_M_readsNumber_63 rfl rfl ?_
          refine q_iload (pc' := 68) C 4 d_M_readsNumber_66 rfl rfl ?_
          refine q_iald (pc' := 69) C 41 jM_41 kM_41 d_M_readsNumber_68 rfl ?_
          refine q_iadd (pc' := 70) C d_M_readsNumber_69 rfl ?_
          refine q_bipush (pc' := 72) C d_M_readsNumber_70 kb_48 rfl ?_
          refine q_isub (pc' := 73) C d_M_readsNumber_72 rfl ?_
          refine q_let (fun x11 e11 => ?_)
          refine q_topi e11 ?_
          refine q_istore_n (pc' := 74) (lv' := [(3, .int x11), (0, .ref (g.1 0)), (1, .int p1), (2, .int p2), (4, .int a9.2)]) C d_M_readsNumber_73 (by decide) rfl rfl ?_
          refine q_let (fun x12 e12 => ?_)
          refine q_iinc (pc' := 77) (lv' := [(4, .int x12), (3, .int x11), (0, .ref (g.1 0)), (1, .int p1), (2, .int p2)]) C 4 d_M_readsNumber_74 rfl (by rw [e12, ki_1]) (by decide) rfl rfl ?_
          refine q_goto (tgt := 49) C d_M_readsNumber_77 rfl ?_
          exact Rt.sub [2, 3, 4, 1, 0] rfl (hih10 (x11, x12))
      · exact Rt.sub [] rfl (hJ1 ())
theorem d_M_readsInto_0 : decode qM_readsInto.1 0 = .ok (.aload_n 0, 1) := by decide +kernel
theorem d_M_readsInto_1 : decode qM_readsInto.1 1 = .ok (.iload_n 2, 1) := by decide +kernel
theorem d_M_readsInto_2 : decode qM_readsInto.1 2 = .ok (.iload_n 3, 1) := by decide +kernel
theorem d_M_readsInto_3 : decode qM_readsInto.1 3 = .ok (.invokevirtual 407, 3) := by decide +kernel
theorem d_M_readsInto_6 : decode qM_readsInto.1 6 = .ok (.istore 4, 2) := by decide +kernel
theorem d_M_readsInto_8 : decode qM_readsInto.1 8 = .ok (.aload_n 0, 1) := by decide +kernel
theorem d_M_readsInto_9 : decode qM_readsInto.1 9 = .ok (.getfield 153, 3) := by decide +kernel
theorem d_M_readsInto_12 : decode qM_readsInto.1 12 = .ok (.bipush 14, 2) := by decide +kernel
theorem d_M_readsInto_14 : decode qM_readsInto.1 14 = .ok (.aload_n 0, 1) := by decide +kernel
theorem d_M_readsInto_15 : decode qM_readsInto.1 15 = .ok (.getfield 411, 3) := by decide +kernel
theorem d_M_readsInto_18 : decode qM_readsInto.1 18 = .ok (.imul, 1) := by decide +kernel
theorem d_M_readsInto_19 : decode qM_readsInto.1 19 = .ok (.iload_n 1, 1) := by decide +kernel
theorem d_M_readsInto_20 : decode qM_readsInto.1 20 = .ok (.iadd, 1) := by decide +kernel
theorem d_M_readsInto_21 : decode qM_readsInto.1 21 = .ok (.iload 4, 2) := by decide +kernel
theorem d_M_readsInto_23 : decode qM_readsInto.1 23 = .ok (.ifCond .eq 10, 3) := by decide +kernel
theorem d_M_readsInto_26 : decode qM_readsInto.1 26 = .ok (.aload_n 0, 1) := by decide +kernel
theorem d_M_readsInto_27 : decode qM_readsInto.1 27 = .ok (.getfield 401, 3) := by decide +kernel
theorem d_M_readsInto_30 : decode qM_readsInto.1 30 = .ok (.goto 4, 3) := by decide +kernel
theorem d_M_readsInto_33 : decode qM_readsInto.1 33 = .ok (.iconst 0, 1) := by decide +kernel
theorem d_M_readsInto_34 : decode qM_readsInto.1 34 = .ok (.iastore, 1) := by decide +kernel
theorem d_M_readsInto_35 : decode qM_readsInto.1 35 = .ok (.iload 4, 2) := by decide +kernel
theorem d_M_readsInto_37 : decode qM_readsInto.1 37 = .ok (.ireturn, 1) := by decide +kernel
set_option maxRecDepth 100000 in
def m_readsInto (σ : St) (p1 : Int32) (p2 : Int32) (p3 : Int32) : Option (Int32 × St) :=
  Option.bind (m_readsNumber σ p2 p3) fun x1 =>
  Jn (fun (x2 : Int32) =>
  Gd (Ix (((14 : Int32) * (x1.2 0 73)) + p1) 168) <|
  Lt (s2 x1.2 43 (Int32.toNatClampNeg (((14 : Int32) * (x1.2 0 73)) + p1)) x2) fun σ4 =>
  Gd ((x1.1 : Int32) &&& 1 = x1.1) <|
  some (x1.1, σ4)
  ) fun J3 =>
  if (x1.1 : Int32) = 0 then (
  J3 (0 : Int32)
  ) else (
  J3 (x1.2 0 74)
  )
set_option maxHeartbeats 4000000 in
set_option maxRecDepth 100000 in
theorem cM_readsInto (l : Launch) (g : Ge) (hi : injB wM.2 g) (σ : St) (p1 : Int32) (p2 : Int32) (p3 : Int32) (x : Int32 × St) (h : m_readsInto σ p1 p2 p3 = some x) : Ct l wM g yM_readsInto qM_readsInto 4 89 [.ref (g.1 0), .int p1, .int p2, .int p3] σ (some (.int x.1), x.2) := by
  refine Ct.of (out := o_w) FM_readsInto rfl hi rfl h (fun z hz C => ?_)
  clear h
  subst hz
  unfold m_readsInto
  show Rt z qM_readsInto wM g o_w 0 [(0, .ref (g.1 0)), (1, .int p1), (2, .int p2), (3, .int p3)] [] σ _
  refine q_aload_n (pc' := 1) C 0 d_M_readsInto_0 rfl rfl ?_
  refine q_iload_n (pc' := 2) C 2 d_M_readsInto_1 rfl rfl ?_
  refine q_iload_n (pc' := 3) C 3 d_M_readsInto_2 rfl rfl ?_
  refine q_callVw (fr' := 3) (lo' := 65) (pc' := 6) C FM_readsNumber lmM_407 d_M_readsInto_3 0 jM_0 kM_0 cM0 [.int p2, .int p3] [] rfl rfl (Nat.le_of_ble_eq_true rfl) ⟨rfl, rfl⟩ (fun x h => cM_readsNumber _ g hi σ p2 p3 x h) rfl (fun x1 _ => ?_)
  refine q_istore (pc' := 8) (lv' := [(4, .int x1.1), (0, .ref (g.1 0)), (1, .int p1), (2, .int p2), (3, .int p3)]) C d_M_readsInto_6 (by decide) rfl rfl ?_
  refine q_aload_n (pc' := 9) C 1 d_M_readsInto_8 rfl rfl ?_
  refine gM_153 (pc' := 12) C d_M_readsInto_9 rfl rfl ?_
  refine q_bipush (pc' := 14) C d_M_readsInto_12 kb_14 rfl ?_
  refine q_aload_n (pc' := 15) C 1 d_M_readsInto_14 rfl rfl ?_
  refine gM_411 (pc' := 18) C d_M_readsInto_15 rfl rfl ?_
  refine q_imul (pc' := 19) C d_M_readsInto_18 rfl ?_
  refine q_iload_n (pc' := 20) C 2 d_M_readsInto_19 rfl rfl ?_
  refine q_iadd (pc' := 21) C d_M_readsInto_20 rfl ?_
  refine q_iload (pc' := 23) C 0 d_M_readsInto_21 rfl rfl ?_
  refine q_join (fun J3 : Int32 → Option (Int32 × St) => ∀ (x2 : Int32), Rt z qM_readsInto wM g o_w 34 [(4, .int x1.1)] [.int x2, .int (((14 : Int32) * (x1.2 0 73)) + p1), .ref (g.1 43)] x1.2 (J3 x2)) (fun x2 => ?_) (fun J3 hJ3 => ?_)
  · refine q_iast (pc' := 35) C 43 jM_43 kM_43 d_M_readsInto_34 rfl ?_
    refine q_let (fun σ4 e4 => ?_)
    refine q_state e4 ?_
    refine q_iload (pc' := 37) C 0 d_M_readsInto_35 rfl rfl ?_
    refine q_guard (fun gx5 => ?_)
    exact q_zret C rfl gx5 d_M_readsInto_37 rfl
  refine q_if_eq (tgt := 33) (pc' := 26) C d_M_readsInto_23 rfl rfl ?_ ?_
  · refine q_iconst (pc' := 34) C d_M_readsInto_33 ki_0 rfl ?_
    exact Rt.sub [0] rfl (hJ3 (0 : Int32))
  · refine q_aload_n (pc' := 27) C 1 d_M_readsInto_26 rfl rfl ?_
    refine gM_401 (pc' := 30) C d_M_readsInto_27 rfl rfl ?_
    refine q_goto (tgt := 34) C d_M_readsInto_30 rfl ?_
    exact Rt.sub [0] rfl (hJ3 (x1.2 0 74))
theorem d_M_readsFix_0 : decode qM_readsFix.1 0 = .ok (.aload_n 0, 1) := by decide +kernel
theorem d_M_readsFix_1 : decode qM_readsFix.1 1 = .ok (.getfield 389, 3) := by decide +kernel
theorem d_M_readsFix_4 : decode qM_readsFix.1 4 = .ok (.aload_n 0, 1) := by decide +kernel
theorem d_M_readsFix_5 : decode qM_readsFix.1 5 = .ok (.getfield 392, 3) := by decide +kernel
theorem d_M_readsFix_8 : decode qM_readsFix.1 8 = .ok (.isub, 1) := by decide +kernel
theorem d_M_readsFix_9 : decode qM_readsFix.1 9 = .ok (.iconst 1, 1) := by decide +kernel
theorem d_M_readsFix_10 : decode qM_readsFix.1 10 = .ok (.if_icmp .ne 37, 3) := by decide +kernel
theorem d_M_readsFix_13 : decode qM_readsFix.1 13 = .ok (.aload_n 0, 1) := by decide +kernel
theorem d_M_readsFix_14 : decode qM_readsFix.1 14 = .ok (.getfield 147, 3) := by decide +kernel
theorem d_M_readsFix_17 : decode qM_readsFix.1 17 = .ok (.aload_n 0, 1) := by decide +kernel
theorem d_M_readsFix_18 : decode qM_readsFix.1 18 = .ok (.getfield 392, 3) := by decide +kernel
theorem d_M_readsFix_21 : decode qM_readsFix.1 21 = .ok (.iaload, 1) := by decide +kernel
theorem d_M_readsFix_22 : decode qM_readsFix.1 22 = .ok (.invokestatic 395, 3) := by decide +kernel
theorem d_M_readsFix_25 : decode qM_readsFix.1 25 = .ok (.ifCond .eq 22, 3) := by decide +kernel
theorem d_M_readsFix_28 : decode qM_readsFix.1 28 = .ok (.aload_n 0, 1) := by decide +kernel
theorem d_M_readsFix_29 : decode qM_readsFix.1 29 = .ok (.getfield 147, 3) := by decide +kernel
theorem d_M_readsFix_32 : decode qM_readsFix.1 32 = .ok (.aload_n 0, 1) := by decide +kernel
theorem d_M_readsFix_33 : decode qM_readsFix.1 33 = .ok (.getfield 392, 3) := by decide +kernel
theorem d_M_readsFix_36 : decode qM_readsFix.1 36 = .ok (.iaload, 1) := by decide +kernel
theorem d_M_readsFix_37 : decode qM_readsFix.1 37 = .ok (.bipush 65, 2) := by decide +kernel
theorem d_M_readsFix_39 : decode qM_readsFix.1 39 = .ok (.isub, 1) := by decide +kernel
theorem d_M_readsFix_40 : decode qM_readsFix.1 40 = .ok (.aload_n 0, 1) := by decide +kernel
theorem d_M_readsFix_41 : decode qM_readsFix.1 41 = .ok (.getfield 414, 3) := by decide +kernel
theorem d_M_readsFix_44 : decode qM_readsFix.1 44 = .ok (.if_icmp .lt 5, 3) := by decide +kernel
theorem d_M_readsFix_47 : decode qM_readsFix.1 47 = .ok (.iconst 0, 1) := by decide +kernel
theorem d_M_readsFix_48 : decode qM_readsFix.1 48 = .ok (.ireturn, 1) := by decide +kernel
theorem d_M_readsFix_49 : decode qM_readsFix.1 49 = .ok (.aload_n 0, 1) := by decide +kernel
theorem d_M_readsFix_50 : decode qM_readsFix.1 50 = .ok (.getfield 153, 3) := by decide +kernel
theorem d_M_readsFix_53 : decode qM_readsFix.1 53 = .ok (.bipush 14, 2) := by decide +kernel
theorem d_M_readsFix_55 : decode qM_readsFix.1 55 = .ok (.aload_n 0, 1) := by decide +kernel
theorem d_M_readsFix_56 : decode qM_readsFix.1 56 = .ok (.getfield 411, 3) := by decide +kernel
theorem d_M_readsFix_59 : decode qM_readsFix.1 59 = .ok (.imul, 1) := by decide +kernel
theorem d_M_readsFix_60 : decode qM_readsFix.1 60 = .ok (.iconst 1, 1) := by decide +kernel
theorem d_M_readsFix_61 : decode qM_readsFix.1 61 = .ok (.iadd, 1) := by decide +kernel
theorem d_M_readsFix_62 : decode qM_readsFix.1 62 = .ok (.aload_n 0, 1) := by decide +kernel
theorem d_M_readsFix_63 : decode qM_readsFix.1 63 = .ok (.getfield 147, 3) := by decide +kernel
theorem d_M_readsFix_66 : decode qM_readsFix.1 66 = .ok (.aload_n 0, 1) := by decide +kernel
theorem d_M_readsFix_67 : decode qM_readsFix.1 67 = .ok (.getfield 392, 3) := by decide +kernel
theorem d_M_readsFix_70 : decode qM_readsFix.1 70 = .ok (.iaload, 1) := by decide +kernel
theorem d_M_readsFix_71 : decode qM_readsFix.1 71 = .ok (.bipush 65, 2) := by decide +kernel
theorem d_M_readsFix_73 : decode qM_readsFix.1 73 = .ok (.isub, 1) := by decide +kernel
theorem d_M_readsFix_74 : decode qM_readsFix.1 74 = .ok (.iastore, 1) := by decide +kernel
theorem d_M_readsFix_75 : decode qM_readsFix.1 75 = .ok (.aload_n 0, 1) := by decide +kernel
theorem d_M_readsFix_76 : decode qM_readsFix.1 76 = .ok (.invokevirtual 404, 3) := by decide +kernel
theorem d_M_readsFix_79 : decode qM_readsFix.1 79 = .ok (.iconst 1, 1) := by decide +kernel
theorem d_M_readsFix_80 : decode qM_readsFix.1 80 = .ok (.ireturn, 1) := by decide +kernel
set_option maxRecDepth 100000 in
def m_readsFix (σ : St) : Option (Int32 × St) :=
  Jn (fun (_ : Unit) =>
  some ((0 : Int32), σ)
  ) fun J1 =>
  if (((σ 0 70) - (σ 0 69)) : Int32) = (1 : Int32) then (
  Gd (Ix (σ 0 69) 200) <|
  Option.bind (m_isCapital (σ 41 (Int32.toNatClampNeg (σ 0 69)))) fun x2 =>
  if (x2 : Int32) = 0 then (
  J1 ()
  ) else (
  Gd (Ix (σ 0 69) 200) <|
  if (((σ 41 (Int32.toNatClampNeg (σ 0 69))) - (65 : Int32)) : Int32) < (σ 0 7) then (
  Gd (Ix (σ 0 69) 200) <|
  Gd (Ix (((14 : Int32) * (σ 0 73)) + (1 : Int32)) 168) <|
  Lt (s2 σ 43 (Int32.toNatClampNeg (((14 : Int32) * (σ 0 73)) + (1 : Int32))) ((σ 41 (Int32.toNatClampNeg (σ 0 69))) - (65 : Int32))) fun σ3 =>
  Option.bind (m_nextToken σ3) fun x4 =>
  some ((1 : Int32), x4)
  ) else (
  J1 ()
  )
  )
  ) else (
  J1 ()
  )
set_option maxHeartbeats 4000000 in
set_option maxRecDepth 100000 in
theorem cM_readsFix (l : Launch) (g : Ge) (hi : injB wM.2 g) (σ : St) (x : Int32 × St) (h : m_readsFix σ = some x) : Ct l wM g yM_readsFix qM_readsFix 3 65 [.ref (g.1 0)] σ (some (.int x.1), x.2) := by
  refine Ct.of (out := o_w) FM_readsFix rfl hi rfl h (fun z hz C => ?_)
  clear h
  subst hz
  unfold m_readsFix
  show Rt z qM_readsFix wM g o_w 0 [(0, .ref (g.1 0))] [] σ _
  refine q_aload_n (pc' := 1) C 0 d_M_readsFix_0 rfl rfl ?_
  refine gM_389 (pc' := 4) C d_M_readsFix_1 rfl rfl ?_
  refine q_aload_n (pc' := 5) C 0 d_M_readsFix_4 rfl rfl ?_
  refine gM_392 (pc' := 8) C d_M_readsFix_5 rfl rfl ?_
  refine q_isub (pc' := 9) C d_M_readsFix_8 rfl ?_
  refine q_iconst (pc' := 10) C d_M_readsFix_9 ki_1 rfl ?_
  refine q_join (fun J1 : Unit → Option (Int32 × St) => ∀ (_ : Unit), Rt z qM_readsFix wM g o_w 47 [] [] σ (J1 ())) (fun _ => ?_) (fun J1 hJ1 => ?_)
  · refine q_iconst (pc' := 48) C d_M_readsFix_47 ki_0 rfl ?_
    exact q_zret C rfl (by decide) d_M_readsFix_48 rfl
  refine q_icmp_ne (tgt := 47) (pc' := 13) C d_M_readsFix_10 rfl rfl ?_ ?_
  · exact Rt.sub [] rfl (hJ1 ())
  · refine q_aload_n (pc' := 14) C 0 d_M_readsFix_13 rfl rfl ?_
    refine gM_147 (pc' := 17) C d_M_readsFix_14 rfl rfl ?_
    refine q_aload_n (pc' := 18) C 0 d_M_readsFix_17 rfl rfl ?_
    refine gM_392 (pc' := 21) C d_M_readsFix_18 rfl rfl ?_
    refine q_iald (pc' := 22) C 41 jM_41 kM_41 d_M_readsFix_21 rfl ?_
    refine q_callSr (fr' := 1) (lo' := 25) (pc' := 25) C FM_isCapital lmM_395 d_M_readsFix_22 [.int (σ 41 (Int32.toNatClampNeg (σ 0 69)))] [] rfl rfl (Nat.le_of_ble_eq_true rfl) ⟨rfl, rfl⟩ (fun x h => cM_isCapital _ g hi σ (σ 41 (Int32.toNatClampNeg (σ 0 69))) x h) rfl (fun x2 _ => ?_)
    refine q_if_eq (tgt := 47) (pc' := 28) C d_M_readsFix_25 rfl rfl ?_ ?_
    · exact Rt.sub [] rfl (hJ1 ())
    · refine q_aload_n (pc' := 29) C 0 d_M_readsFix_28 rfl rfl ?_
      refine gM_147 (pc' := 32) C d_M_readsFix_29 rfl rfl ?_
      refine q_aload_n (pc' := 33) C 0 d_M_readsFix_32 rfl rfl ?_
      refine gM_392 (pc' := 36) C d_M_readsFix_33 rfl rfl ?_
      refine q_iald (pc' := 37) C 41 jM_41 kM_41 d_M_readsFix_36 rfl ?_
      refine q_bipush (pc' := 39) C d_M_readsFix_37 kb_65 rfl ?_
      refine q_isub (pc' := 40) C d_M_readsFix_39 rfl ?_
      refine q_aload_n (pc' := 41) C 0 d_M_readsFix_40 rfl rfl ?_
      refine gM_414 (pc' := 44) C d_M_readsFix_41 rfl rfl ?_
      refine q_icmp_lt (tgt := 49) (pc' := 47) C d_M_readsFix_44 rfl rfl ?_ ?_
      · refine q_aload_n (pc' := 50) C 0 d_M_readsFix_49 rfl rfl ?_
        refine gM_153 (pc' := 53) C d_M_readsFix_50 rfl rfl ?_
        refine q_bipush (pc' := 55) C d_M_readsFix_53 kb_14 rfl ?_
        refine q_aload_n (pc' := 56) C 0 d_M_readsFix_55 rfl rfl ?_
        refine gM_411 (pc' := 59) C d_M_readsFix_56 rfl rfl ?_
        refine q_imul (pc' := 60) C d_M_readsFix_59 rfl ?_
        refine q_iconst (pc' := 61) C d_M_readsFix_60 ki_1 rfl ?_
        refine q_iadd (pc' := 62) C d_M_readsFix_61 rfl ?_
        refine q_aload_n (pc' := 63) C 0 d_M_readsFix_62 rfl rfl ?_
        refine gM_147 (pc' := 66) C d_M_readsFix_63 rfl rfl ?_
        refine q_aload_n (pc' := 67) C 0 d_M_readsFix_66 rfl rfl ?_
        refine gM_392 (pc' := 70) C d_M_readsFix_67 rfl rfl ?_
        refine q_iald (pc' := 71) C 41 jM_41 kM_41 d_M_readsFix_70 rfl ?_
        refine q_bipush (pc' := 73) C d_M_readsFix_71 kb_65 rfl ?_
        refine q_isub (pc' := 74) C d_M_readsFix_73 rfl ?_
        refine q_iast (pc' := 75) C 43 jM_43 kM_43 d_M_readsFix_74 rfl ?_
        refine q_let (fun σ3 e3 => ?_)
        refine q_state e3 ?_
        refine q_aload_n (pc' := 76) C 0 d_M_readsFix_75 rfl rfl ?_
        refine q_callVv (fr' := 2) (lo' := 45) (pc' := 79) C FM_nextToken lmM_404 d_M_readsFix_76 0 jM_0 kM_0 cM0 [] [] rfl rfl (Nat.le_of_ble_eq_true rfl) ⟨rfl, rfl⟩ (fun x h => cM_nextToken _ g hi σ3 x h) rfl (fun x4 _ => ?_)
        refine q_iconst (pc' := 80) C d_M_readsFix_79 ki_1 rfl ?_
        exact q_zret C rfl (by decide) d_M_readsFix_80 rfl
      · exact Rt.sub [] rfl (hJ1 ())
theorem d_M_readsSide_0 : decode qM_readsSide.1 0 = .ok (.aload_n 0, 1) := by decide +kernel
theorem d_M_readsSide_1 : decode qM_readsSide.1 1 = .ok (.bipush 76, 2) := by decide +kernel
theorem d_M_readsSide_3 : decode qM_readsSide.1 3 = .ok (.invokevirtual 417, 3) := by decide +kernel
theorem d_M_readsSide_6 : decode qM_readsSide.1 6 = .ok (.ifCond .ne 14, 3) := by decide +kernel
theorem d_M_readsSide_9 : decode qM_readsSide.1 9 = .ok (.aload_n 0, 1) := by decide +kernel
theorem d_M_readsSide_10 : decode qM_readsSide.1 10 = .ok (.bipush 82, 2) := by decide +kernel
theorem d_M_readsSide_12 : decode qM_readsSide.1 12 = .ok (.invokevirtual 417, 3) := by decide +kernel
theorem d_M_readsSide_15 : decode qM_readsSide.1 15 = .ok (.ifCond .ne 5, 3) := by decide +kernel
theorem d_M_readsSide_18 : decode qM_readsSide.1 18 = .ok (.iconst 0, 1) := by decide +kernel
theorem d_M_readsSide_19 : decode qM_readsSide.1 19 = .ok (.ireturn, 1) := by decide +kernel
theorem d_M_readsSide_20 : decode qM_readsSide.1 20 = .ok (.aload_n 0, 1) := by decide +kernel
theorem d_M_readsSide_21 : decode qM_readsSide.1 21 = .ok (.getfield 153, 3) := by decide +kernel
theorem d_M_readsSide_24 : decode qM_readsSide.1 24 = .ok (.bipush 14, 2) := by decide +kernel
theorem d_M_readsSide_26 : decode qM_readsSide.1 26 = .ok (.aload_n 0, 1) := by decide +kernel
theorem d_M_readsSide_27 : decode qM_readsSide.1 27 = .ok (.getfield 411, 3) := by decide +kernel
theorem d_M_readsSide_30 : decode qM_readsSide.1 30 = .ok (.imul, 1) := by decide +kernel
theorem d_M_readsSide_31 : decode qM_readsSide.1 31 = .ok (.iconst 4, 1) := by decide +kernel
theorem d_M_readsSide_32 : decode qM_readsSide.1 32 = .ok (.iadd, 1) := by decide +kernel
theorem d_M_readsSide_33 : decode qM_readsSide.1 33 = .ok (.aload_n 0, 1) := by decide +kernel
theorem d_M_readsSide_34 : decode qM_readsSide.1 34 = .ok (.bipush 82, 2) := by decide +kernel
theorem d_M_readsSide_36 : decode qM_readsSide.1 36 = .ok (.invokevirtual 417, 3) := by decide +kernel
theorem d_M_readsSide_39 : decode qM_readsSide.1 39 = .ok (.ifCond .eq 7, 3) := by decide +kernel
theorem d_M_readsSide_42 : decode qM_readsSide.1 42 = .ok (.iconst 1, 1) := by decide +kernel
theorem d_M_readsSide_43 : decode qM_readsSide.1 43 = .ok (.goto 4, 3) := by decide +kernel
theorem d_M_readsSide_46 : decode qM_readsSide.1 46 = .ok (.iconst 0, 1) := by decide +kernel
theorem d_M_readsSide_47 : decode qM_readsSide.1 47 = .ok (.iastore, 1) := by decide +kernel
theorem d_M_readsSide_48 : decode qM_readsSide.1 48 = .ok (.aload_n 0, 1) := by decide +kernel
theorem d_M_readsSide_49 : decode qM_readsSide.1 49 = .ok (.invokevirtual 404, 3) := by decide +kernel
theorem d_M_readsSide_52 : decode qM_readsSide.1 52 = .ok (.iconst 1, 1) := by decide +kernel
theorem d_M_readsSide_53 : decode qM_readsSide.1 53 = .ok (.ireturn, 1) := by decide +kernel
set_option maxRecDepth 100000 in
def m_readsSide (σ : St) : Option (Int32 × St) :=
  Option.bind (m_isLetter σ (76 : Int32)) fun x1 =>
  Jn (fun (_ : Unit) =>
  Option.bind (m_isLetter σ (82 : Int32)) fun x3 =>
  Jn (fun (x4 : Int32) =>
  Gd (Ix (((14 : Int32) * (σ 0 73)) + (4 : Int32)) 168) <|
  Lt (s2 σ 43 (Int32.toNatClampNeg (((14 : Int32) * (σ 0 73)) + (4 : Int32))) x4) fun σ6 =>
  Option.bind (m_nextToken σ6) fun x7 =>
  some ((1 : Int32), x7)
  ) fun J5 =>
  if (x3 : Int32) = 0 then (
  J5 (0 : Int32)
  ) else (
  J5 (1 : Int32)
  )
  ) fun J2 =>
  if (x1 : Int32) = 0 then (
  Option.bind (m_isLetter σ (82 : Int32)) fun x8 =>
  if (x8 : Int32) = 0 then (
  some ((0 : Int32), σ)
  ) else (
  J2 ()
  )
  ) else (
  J2 ()
  )
set_option maxHeartbeats 4000000 in
set_option maxRecDepth 100000 in
theorem cM_readsSide (l : Launch) (g : Ge) (hi : injB wM.2 g) (σ : St) (x : Int32 × St) (h : m_readsSide σ = some x) : Ct l wM g yM_readsSide qM_readsSide 3 65 [.ref (g.1 0)] σ (some (.int x.1), x.2) := by
  refine Ct.of (out := o_w) FM_readsSide rfl hi rfl h (fun z hz C => ?_)
  clear h
  subst hz
  unfold m_readsSide
  show Rt z qM_readsSide wM g o_w 0 [(0, .ref (g.1 0))] [] σ _
  refine q_aload_n (pc' := 1) C 0 d_M_readsSide_0 rfl rfl ?_
  refine q_bipush (pc' := 3) C d_M_readsSide_1 kb_76 rfl ?_
  refine q_callVr (fr' := 0) (lo' := 0) (pc' := 6) C FM_isLetter lmM_417 d_M_readsSide_3 0 jM_0 kM_0 cM0 [.int (76 : Int32)] [] rfl rfl (Nat.le_of_ble_eq_true rfl) ⟨rfl, rfl⟩ (fun x h => cM_isLetter _ g hi σ (76 : Int32) x h) rfl (fun x1 _ => ?_)
  refine q_join (fun J2 : Unit → Option (Int32 × St) => ∀ (_ : Unit), Rt z qM_readsSide wM g o_w 20 [(0, .ref (g.1 0))] [] σ (J2 ())) (fun _ => ?_) (fun J2 hJ2 => ?_)
  · refine q_aload_n (pc' := 21) C 0 d_M_readsSide_20 rfl rfl ?_
    refine gM_153 (pc' := 24) C d_M_readsSide_21 rfl rfl ?_
    refine q_bipush (pc' := 26) C d_M_readsSide_24 kb_14 rfl ?_
    refine q_aload_n (pc' := 27) C 0 d_M_readsSide_26 rfl rfl ?_
    refine gM_411 (pc' := 30) C d_M_readsSide_27 rfl rfl ?_
    refine q_imul (pc' := 31) C d_M_readsSide_30 rfl ?_
    refine q_iconst (pc' := 32) C d_M_readsSide_31 ki_4 rfl ?_
    refine q_iadd (pc' := 33) C d_M_readsSide_32 rfl ?_
    refine q_aload_n (pc' := 34) C 0 d_M_readsSide_33 rfl rfl ?_
    refine q_bipush (pc' := 36) C d_M_readsSide_34 kb_82 rfl ?_
    refine q_callVr (fr' := 0) (lo' := 0) (pc' := 39) C FM_isLetter lmM_417 d_M_readsSide_36 0 jM_0 kM_0 cM0 [.int (82 : Int32)] [.int (((14 : Int32) * (σ 0 73)) + (4 : Int32)), .ref (g.1 43)] rfl rfl (Nat.le_of_ble_eq_true rfl) ⟨rfl, rfl⟩ (fun x h => cM_isLetter _ g hi σ (82 : Int32) x h) rfl (fun x3 _ => ?_)
    refine q_join (fun J5 : Int32 → Option (Int32 × St) => ∀ (x4 : Int32), Rt z qM_readsSide wM g o_w 47 [(0, .ref (g.1 0))] [.int x4, .int (((14 : Int32) * (σ 0 73)) + (4 : Int32)), .ref (g.1 43)] σ (J5 x4)) (fun x4 => ?_) (fun J5 hJ5 => ?_)
    · refine q_iast (pc' := 48) C 43 jM_43 kM_43 d_M_readsSide_47 rfl ?_
      refine q_let (fun σ6 e6 => ?_)
      refine q_state e6 ?_
      refine q_aload_n (pc' := 49) C 0 d_M_readsSide_48 rfl rfl ?_
      refine q_callVv (fr' := 2) (lo' := 45) (pc' := 52) C FM_nextToken lmM_404 d_M_readsSide_49 0 jM_0 kM_0 cM0 [] [] rfl rfl (Nat.le_of_ble_eq_true rfl) ⟨rfl, rfl⟩ (fun x h => cM_nextToken _ g hi σ6 x h) rfl (fun x7 _ => ?_)
      refine q_iconst (pc' := 53) C d_M_readsSide_52 ki_1 rfl ?_
      exact q_zret C rfl (by decide) d_M_readsSide_53 rfl
    refine q_if_eq (tgt := 46) (pc' := 42) C d_M_readsSide_39 rfl rfl ?_ ?_
    · refine q_iconst (pc' := 47) C d_M_readsSide_46 ki_0 rfl ?_
      exact Rt.sub [0] rfl (hJ5 (0 : Int32))
    · refine q_iconst (pc' := 43) C d_M_readsSide_42 ki_1 rfl ?_
      refine q_goto (tgt := 47) C d_M_readsSide_43 rfl ?_
      exact Rt.sub [0] rfl (hJ5 (1 : Int32))
  refine q_if_ne (tgt := 20) (pc' := 9) C d_M_readsSide_6 rfl rfl ?_ ?_
  · exact Rt.sub [0] rfl (hJ2 ())
  · refine q_aload_n (pc' := 10) C 0 d_M_readsSide_9 rfl rfl ?_
    refine q_bipush (pc' := 12) C d_M_readsSide_10 kb_82 rfl ?_
    refine q_callVr (fr' := 0) (lo' := 0) (pc' := 15) C FM_isLetter lmM_417 d_M_readsSide_12 0 jM_0 kM_0 cM0 [.int (82 : Int32)] [] rfl rfl (Nat.le_of_ble_eq_true rfl) ⟨rfl, rfl⟩ (fun x h => cM_isLetter _ g hi σ (82 : Int32) x h) rfl (fun x8 _ => ?_)
    refine q_if_ne (tgt := 20) (pc' := 18) C d_M_readsSide_15 rfl rfl ?_ ?_
    · exact Rt.sub [0] rfl (hJ2 ())
    · refine q_iconst (pc' := 19) C d_M_readsSide_18 ki_0 rfl ?_
      exact q_zret C rfl (by decide) d_M_readsSide_19 rfl
theorem d_M_readsKind_0 : decode qM_readsKind.1 0 = .ok (.iload_n 1, 1) := by decide +kernel
theorem d_M_readsKind_1 : decode qM_readsKind.1 1 = .ok (.invokestatic 263, 3) := by decide +kernel
theorem d_M_readsKind_4 : decode qM_readsKind.1 4 = .ok (.ifCond .eq 12, 3) := by decide +kernel
theorem d_M_readsKind_7 : decode qM_readsKind.1 7 = .ok (.aload_n 0, 1) := by decide +kernel
theorem d_M_readsKind_8 : decode qM_readsKind.1 8 = .ok (.invokevirtual 420, 3) := by decide +kernel
theorem d_M_readsKind_11 : decode qM_readsKind.1 11 = .ok (.ifCond .ne 5, 3) := by decide +kernel
theorem d_M_readsKind_14 : decode qM_readsKind.1 14 = .ok (.iconst 0, 1) := by decide +kernel
theorem d_M_readsKind_15 : decode qM_readsKind.1 15 = .ok (.ireturn, 1) := by decide +kernel
theorem d_M_readsKind_16 : decode qM_readsKind.1 16 = .ok (.iload_n 1, 1) := by decide +kernel
theorem d_M_readsKind_17 : decode qM_readsKind.1 17 = .ok (.iconst 3, 1) := by decide +kernel
theorem d_M_readsKind_18 : decode qM_readsKind.1 18 = .ok (.if_icmp .lt 16, 3) := by decide +kernel
theorem d_M_readsKind_21 : decode qM_readsKind.1 21 = .ok (.aload_n 0, 1) := by decide +kernel
theorem d_M_readsKind_22 : decode qM_readsKind.1 22 = .ok (.iconst 2, 1) := by decide +kernel
theorem d_M_readsKind_23 : decode qM_readsKind.1 23 = .ok (.iconst 0, 1) := by decide +kernel
theorem d_M_readsKind_24 : decode qM_readsKind.1 24 = .ok (.bipush 23, 2) := by decide +kernel
theorem d_M_readsKind_26 : decode qM_readsKind.1 26 = .ok (.invokevirtual 424, 3) := by decide +kernel
theorem d_M_readsKind_29 : decode qM_readsKind.1 29 = .ok (.ifCond .ne 5, 3) := by decide +kernel
theorem d_M_readsKind_32 : decode qM_readsKind.1 32 = .ok (.iconst 0, 1) := by decide +kernel
theorem d_M_readsKind_33 : decode qM_readsKind.1 33 = .ok (.ireturn, 1) := by decide +kernel
theorem d_M_readsKind_34 : decode qM_readsKind.1 34 = .ok (.iload_n 1, 1) := by decide +kernel
theorem d_M_readsKind_35 : decode qM_readsKind.1 35 = .ok (.iconst 4, 1) := by decide +kernel
theorem d_M_readsKind_36 : decode qM_readsKind.1 36 = .ok (.if_icmp .ne 13, 3) := by decide +kernel
theorem d_M_readsKind_39 : decode qM_readsKind.1 39 = .ok (.aload_n 0, 1) := by decide +kernel
theorem d_M_readsKind_40 : decode qM_readsKind.1 40 = .ok (.iconst 3, 1) := by decide +kernel
theorem d_M_readsKind_41 : decode qM_readsKind.1 41 = .ok (.iconst 0, 1) := by decide +kernel
theorem d_M_readsKind_42 : decode qM_readsKind.1 42 = .ok (.sipush 450, 3) := by decide +kernel
theorem d_M_readsKind_45 : decode qM_readsKind.1 45 = .ok (.invokevirtual 424, 3) := by decide +kernel
theorem d_M_readsKind_48 : decode qM_readsKind.1 48 = .ok (.ireturn, 1) := by decide +kernel
theorem d_M_readsKind_49 : decode qM_readsKind.1 49 = .ok (.iload_n 1, 1) := by decide +kernel
theorem d_M_readsKind_50 : decode qM_readsKind.1 50 = .ok (.bipush 7, 2) := by decide +kernel
theorem d_M_readsKind_52 : decode qM_readsKind.1 52 = .ok (.if_icmp .ne 35, 3) := by decide +kernel
theorem d_M_readsKind_55 : decode qM_readsKind.1 55 = .ok (.aload_n 0, 1) := by decide +kernel
theorem d_M_readsKind_56 : decode qM_readsKind.1 56 = .ok (.invokevirtual 428, 3) := by decide +kernel
theorem d_M_readsKind_59 : decode qM_readsKind.1 59 = .ok (.ifCond .eq 32, 3) := by decide +kernel
theorem d_M_readsKind_62 : decode qM_readsKind.1 62 = .ok (.aload_n 0, 1) := by decide +kernel
theorem d_M_readsKind_63 : decode qM_readsKind.1 63 = .ok (.iconst 5, 1) := by decide +kernel
theorem d_M_readsKind_64 : decode qM_readsKind.1 64 = .ok (.bipush 10, 2) := by decide +kernel
theorem d_M_readsKind_66 : decode qM_readsKind.1 66 = .ok (.sipush 200, 3) := by decide +kernel
theorem d_M_readsKind_69 : decode qM_readsKind.1 69 = .ok (.invokevirtual 424, 3) := by decide +kernel
theorem d_M_readsKind_72 : decode qM_readsKind.1 72 = .ok (.ifCond .eq 19, 3) := by decide +kernel
theorem d_M_readsKind_75 : decode qM_readsKind.1 75 = .ok (.aload_n 0, 1) := by decide +kernel
theorem d_M_readsKind_76 : decode qM_readsKind.1 76 = .ok (.bipush 6, 2) := by decide +kernel
theorem d_M_readsKind_78 : decode qM_readsKind.1 78 = .ok (.iconst 1, 1) := by decide +kernel
theorem d_M_readsKind_79 : decode qM_readsKind.1 79 = .ok (.bipush 9, 2) := by decide +kernel
theorem d_M_readsKind_81 : decode qM_readsKind.1 81 = .ok (.invokevirtual 424, 3) := by decide +kernel
theorem d_M_readsKind_84 : decode qM_readsKind.1 84 = .ok (.ifCond .eq 7, 3) := by decide +kernel
theorem d_M_readsKind_87 : decode qM_readsKind.1 87 = .ok (.iconst 1, 1) := by decide +kernel
theorem d_M_readsKind_88 : decode qM_readsKind.1 88 = .ok (.goto 4, 3) := by decide +kernel
theorem d_M_readsKind_91 : decode qM_readsKind.1 91 = .ok (.iconst 0, 1) := by decide +kernel
theorem d_M_readsKind_92 : decode qM_readsKind.1 92 = .ok (.ireturn, 1) := by decide +kernel
set_option maxRecDepth 100000 in
def m_readsKind (σ : St) (p1 : Int32) : Option (Int32 × St) :=
  Option.bind (m_hasFix p1) fun x1 =>
  Jn (fun (σ2 : St) =>
  Jn (fun (σ4 : St) =>
  if (p1 : Int32) = (4 : Int32) then (
  Option.bind (m_readsInto σ4 (3 : Int32) (0 : Int32) (450 : Int32)) fun x17 =>
  Gd ((x17.1 : Int32) &&& 1 = x17.1) <|
  some (x17.1, x17.2)
  ) else (
  Jn (fun (x6 : Int32) (σ7 : St) =>
  Gd ((x6 : Int32) &&& 1 = x6) <|
  some (x6, σ7)
  ) fun J8 =>
  Jn (fun (σ10 : St) =>
  J8 (1 : Int32) σ10
  ) fun J11 =>
  if (p1 : Int32) = (7 : Int32) then (
  Option.bind (m_readsSide σ4) fun x12 =>
  Jn (fun (σ13 : St) =>
  J8 (0 : Int32) σ13
  ) fun J14 =>
  if (x12.1 : Int32) = 0 then (
  J14 x12.2
  ) else (
  Option.bind (m_readsInto x12.2 (5 : Int32) (10 : Int32) (200 : Int32)) fun x15 =>
  if (x15.1 : Int32) = 0 then (
  J14 x15.2
  ) else (
  Option.bind (m_readsInto x15.2 (6 : Int32) (1 : Int32) (9 : Int32)) fun x16 =>
  if (x16.1 : Int32) = 0 then (
  J14 x16.2
  ) else (
  J11 x16.2
  )
  )
  )
  ) else (
  J11 σ4
  )
  )
  ) fun J5 =>
  if (p1 : Int32) < (3 : Int32) then (
  J5 σ2
  ) else (
  Option.bind (m_readsInto σ2 (2 : Int32) (0 : Int32) (23 : Int32)) fun x19 =>
  if (x19.1 : Int32) = 0 then (
  some ((0 : Int32), x19.2)
  ) else (
  J5 x19.2
  )
  )
  ) fun J3 =>
  if (x1 : Int32) = 0 then (
  J3 σ
  ) else (
  Option.bind (m_readsFix σ) fun x20 =>
  if (x20.1 : Int32) = 0 then (
  some ((0 : Int32), x20.2)
  ) else (
  J3 x20.2
  )
  )
set_option maxHeartbeats 4000000 in
set_option maxRecDepth 100000 in
theorem cM_readsKind (l : Launch) (g : Ge) (hi : injB wM.2 g) (σ : St) (p1 : Int32) (x : Int32 × St) (h : m_readsKind σ p1 = some x) : Ct l wM g yM_readsKind qM_readsKind 5 113 [.ref (g.1 0), .int p1] σ (some (.int x.1), x.2) := by
  refine Ct.of (out := o_w) FM_readsKind rfl hi rfl h (fun z hz C => ?_)
  clear h
  subst hz
  unfold m_readsKind
  show Rt z qM_readsKind wM g o_w 0 [(0, .ref (g.1 0)), (1, .int p1)] [] σ _
  refine q_iload_n (pc' := 1) C 1 d_M_readsKind_0 rfl rfl ?_
  refine q_callSr (fr' := 0) (lo' := 0) (pc' := 4) C FM_hasFix lmM_263 d_M_readsKind_1 [.int p1] [] rfl rfl (Nat.le_of_ble_eq_true rfl) ⟨rfl, rfl⟩ (fun x h => cM_hasFix _ g hi σ p1 x h) rfl (fun x1 _ => ?_)
  refine q_join (fun J3 : St → Option (Int32 × St) => ∀ (σ2 : St), Rt z qM_readsKind wM g o_w 16 [(0, .ref (g.1 0)), (1, .int p1)] [] σ2 (J3 σ2)) (fun σ2 => ?_) (fun J3 hJ3 => ?_)
  · refine q_iload_n (pc' := 17) C 1 d_M_readsKind_16 rfl rfl ?_
    refine q_iconst (pc' := 18) C d_M_readsKind_17 ki_3 rfl ?_
    refine q_join (fun J5 : St → Option (Int32 × St) => ∀ (σ4 : St), Rt z qM_readsKind wM g o_w 34 [(0, .ref (g.1 0)), (1, .int p1)] [] σ4 (J5 σ4)) (fun σ4 => ?_) (fun J5 hJ5 => ?_)
    · refine q_iload_n (pc' := 35) C 1 d_M_readsKind_34 rfl rfl ?_
      refine q_iconst (pc' := 36) C d_M_readsKind_35 ki_4 rfl ?_
      refine q_icmp_ne (tgt := 49) (pc' := 39) C d_M_readsKind_36 rfl rfl ?_ ?_
      · refine q_iload_n (pc' := 50) C 1 d_M_readsKind_49 rfl rfl ?_
        refine q_bipush (pc' := 52) C d_M_readsKind_50 kb_7 rfl ?_
        refine q_join (fun J8 : Int32 → St → Option (Int32 × St) => ∀ (x6 : Int32) (σ7 : St), Rt z qM_readsKind wM g o_w 92 [] [.int x6] σ7 (J8 x6 σ7)) (fun x6 σ7 => ?_) (fun J8 hJ8 => ?_)
        · refine q_guard (fun gx9 => ?_)
          exact q_zret C rfl gx9 d_M_readsKind_92 rfl
        refine q_join (fun J11 : St → Option (Int32 × St) => ∀ (σ10 : St), Rt z qM_readsKind wM g o_w 87 [] [] σ10 (J11 σ10)) (fun σ10 => ?_) (fun J11 hJ11 => ?_)
        · refine q_iconst (pc' := 88) C d_M_readsKind_87 ki_1 rfl ?_
          refine q_goto (tgt := 92) C d_M_readsKind_88 rfl ?_
          exact Rt.sub [] rfl (hJ8 (1 : Int32) σ10)
        refine q_icmp_ne (tgt := 87) (pc' := 55) C d_M_readsKind_52 rfl rfl ?_ ?_
        · exact Rt.sub [] rfl (hJ11 σ4)
        · refine q_aload_n (pc' := 56) C 0 d_M_readsKind_55 rfl rfl ?_
          refine q_callVw (fr' := 3) (lo' := 65) (pc' := 59) C FM_readsSide lmM_428 d_M_readsKind_56 0 jM_0 kM_0 cM0 [] [] rfl rfl (Nat.le_of_ble_eq_true rfl) ⟨rfl, rfl⟩ (fun x h => cM_readsSide _ g hi σ4 x h) rfl (fun x12 _ => ?_)
          refine q_join (fun J14 : St → Option (Int32 × St) => ∀ (σ13 : St), Rt z qM_readsKind wM g o_w 91 [] [] σ13 (J14 σ13)) (fun σ13 => ?_) (fun J14 hJ14 => ?_)
          · refine q_iconst (pc' := 92) C d_M_readsKind_91 ki_0 rfl ?_
            exact Rt.sub [] rfl (hJ8 (0 : Int32) σ13)
          refine q_if_eq (tgt := 91) (pc' := 62) C d_M_readsKind_59 rfl rfl ?_ ?_
          · exact Rt.sub [] rfl (hJ14 x12.2)
          · refine q_aload_n (pc' := 63) C 0 d_M_readsKind_62 rfl rfl ?_
            refine q_iconst (pc' := 64) C d_M_readsKind_63 ki_5 rfl ?_
            refine q_bipush (pc' := 66) C d_M_readsKind_64 kb_10 rfl ?_
            refine q_sipush (pc' := 69) C d_M_readsKind_66 ks_200 rfl ?_
            refine q_callVw (fr' := 4) (lo' := 89) (pc' := 72) C FM_readsInto lmM_424 d_M_readsKind_69 0 jM_0 kM_0 cM0 [.int (5 : Int32), .int (10 : Int32), .int (200 : Int32)] [] rfl rfl (Nat.le_of_ble_eq_true rfl) ⟨rfl, rfl⟩ (fun x h => cM_readsInto _ g hi x12.2 (5 : Int32) (10 : Int32) (200 : Int32) x h) rfl (fun x15 _ => ?_)
            refine q_if_eq (tgt := 91) (pc' := 75) C d_M_readsKind_72 rfl rfl ?_ ?_
            · exact Rt.sub [] rfl (hJ14 x15.2)
            · refine q_aload_n (pc' := 76) C 0 d_M_readsKind_75 rfl rfl ?_
              refine q_bipush (pc' := 78) C d_M_readsKind_76 kb_6 rfl ?_
              refine q_iconst (pc' := 79) C d_M_readsKind_78 ki_1 rfl ?_
              refine q_bipush (pc' := 81) C d_M_readsKind_79 kb_9 rfl ?_
              refine q_callVw (fr' := 4) (lo' := 89) (pc' := 84) C FM_readsInto lmM_424 d_M_readsKind_81 0 jM_0 kM_0 cM0 [.int (6 : Int32), .int (1 : Int32), .int (9 : Int32)] [] rfl rfl (Nat.le_of_ble_eq_true rfl) ⟨rfl, rfl⟩ (fun x h => cM_readsInto _ g hi x15.2 (6 : Int32) (1 : Int32) (9 : Int32) x h) rfl (fun x16 _ => ?_)
              refine q_if_eq (tgt := 91) (pc' := 87) C d_M_readsKind_84 rfl rfl ?_ ?_
              · exact Rt.sub [] rfl (hJ14 x16.2)
              · exact Rt.sub [] rfl (hJ11 x16.2)
      · refine q_aload_n (pc' := 40) C 0 d_M_readsKind_39 rfl rfl ?_
        refine q_iconst (pc' := 41) C d_M_readsKind_40 ki_3 rfl ?_
        refine q_iconst (pc' := 42) C d_M_readsKind_41 ki_0 rfl ?_
        refine q_sipush (pc' := 45) C d_M_readsKind_42 ks_450 rfl ?_
        refine q_callVw (fr' := 4) (lo' := 89) (pc' := 48) C FM_readsInto lmM_424 d_M_readsKind_45 0 jM_0 kM_0 cM0 [.int (3 : Int32), .int (0 : Int32), .int (450 : Int32)] [] rfl rfl (Nat.le_of_ble_eq_true rfl) ⟨rfl, rfl⟩ (fun x h => cM_readsInto _ g hi σ4 (3 : Int32) (0 : Int32) (450 : Int32) x h) rfl (fun x17 _ => ?_)
        refine q_guard (fun gx18 => ?_)
        exact q_zret C rfl gx18 d_M_readsKind_48 rfl
    refine q_icmp_lt (tgt := 34) (pc' := 21) C d_M_readsKind_18 rfl rfl ?_ ?_
    · exact Rt.sub [0, 1] rfl (hJ5 σ2)
    · refine q_aload_n (pc' := 22) C 0 d_M_readsKind_21 rfl rfl ?_
      refine q_iconst (pc' := 23) C d_M_readsKind_22 ki_2 rfl ?_
      refine q_iconst (pc' := 24) C d_M_readsKind_23 ki_0 rfl ?_
      refine q_bipush (pc' := 26) C d_M_readsKind_24 kb_23 rfl ?_
      refine q_callVw (fr' := 4) (lo' := 89) (pc' := 29) C FM_readsInto lmM_424 d_M_readsKind_26 0 jM_0 kM_0 cM0 [.int (2 : Int32), .int (0 : Int32), .int (23 : Int32)] [] rfl rfl (Nat.le_of_ble_eq_true rfl) ⟨rfl, rfl⟩ (fun x h => cM_readsInto _ g hi σ2 (2 : Int32) (0 : Int32) (23 : Int32) x h) rfl (fun x19 _ => ?_)
      refine q_if_ne (tgt := 34) (pc' := 32) C d_M_readsKind_29 rfl rfl ?_ ?_
      · exact Rt.sub [0, 1] rfl (hJ5 x19.2)
      · refine q_iconst (pc' := 33) C d_M_readsKind_32 ki_0 rfl ?_
        exact q_zret C rfl (by decide) d_M_readsKind_33 rfl
  refine q_if_eq (tgt := 16) (pc' := 7) C d_M_readsKind_4 rfl rfl ?_ ?_
  · exact Rt.sub [0, 1] rfl (hJ3 σ)
  · refine q_aload_n (pc' := 8) C 0 d_M_readsKind_7 rfl rfl ?_
    refine q_callVw (fr' := 3) (lo' := 65) (pc' := 11) C FM_readsFix lmM_420 d_M_readsKind_8 0 jM_0 kM_0 cM0 [] [] rfl rfl (Nat.le_of_ble_eq_true rfl) ⟨rfl, rfl⟩ (fun x h => cM_readsFix _ g hi σ x h) rfl (fun x20 _ => ?_)
    refine q_if_ne (tgt := 16) (pc' := 14) C d_M_readsKind_11 rfl rfl ?_ ?_
    · exact Rt.sub [0, 1] rfl (hJ3 x20.2)
    · refine q_iconst (pc' := 15) C d_M_readsKind_14 ki_0 rfl ?_
      exact q_zret C rfl (by decide) d_M_readsKind_15 rfl
theorem d_M_window_0 : decode qM_window.1 0 = .ok (.aload_n 0, 1) := by decide +kernel
theorem d_M_window_1 : decode qM_window.1 1 = .ok (.getfield 153, 3) := by decide +kernel
theorem d_M_window_4 : decode qM_window.1 4 = .ok (.bipush 14, 2) := by decide +kernel
theorem d_M_window_6 : decode qM_window.1 6 = .ok (.aload_n 0, 1) := by decide +kernel
theorem d_M_window_7 : decode qM_window.1 7 = .ok (.getfield 411, 3) := by decide +kernel
theorem d_M_window_10 : decode qM_window.1 10 = .ok (.imul, 1) := by decide +kernel
theorem d_M_window_11 : decode qM_window.1 11 = .ok (.bipush 9, 2) := by decide +kernel
theorem d_M_window_13 : decode qM_window.1 13 = .ok (.iadd, 1) := by decide +kernel
theorem d_M_window_14 : decode qM_window.1 14 = .ok (.iload_n 1, 1) := by decide +kernel
theorem d_M_window_15 : decode qM_window.1 15 = .ok (.iastore, 1) := by decide +kernel
theorem d_M_window_16 : decode qM_window.1 16 = .ok (.aload_n 0, 1) := by decide +kernel
theorem d_M_window_17 : decode qM_window.1 17 = .ok (.getfield 153, 3) := by decide +kernel
theorem d_M_window_20 : decode qM_window.1 20 = .ok (.bipush 14, 2) := by decide +kernel
theorem d_M_window_22 : decode qM_window.1 22 = .ok (.aload_n 0, 1) := by decide +kernel
theorem d_M_window_23 : decode qM_window.1 23 = .ok (.getfield 411, 3) := by decide +kernel
theorem d_M_window_26 : decode qM_window.1 26 = .ok (.imul, 1) := by decide +kernel
theorem d_M_window_27 : decode qM_window.1 27 = .ok (.bipush 10, 2) := by decide +kernel
theorem d_M_window_29 : decode qM_window.1 29 = .ok (.iadd, 1) := by decide +kernel
theorem d_M_window_30 : decode qM_window.1 30 = .ok (.iload_n 2, 1) := by decide +kernel
theorem d_M_window_31 : decode qM_window.1 31 = .ok (.iastore, 1) := by decide +kernel
theorem d_M_window_32 : decode qM_window.1 32 = .ok (.return_, 1) := by decide +kernel
set_option maxRecDepth 100000 in
def m_window (σ : St) (p1 : Int32) (p2 : Int32) : Option (St) :=
  Gd (Ix (((14 : Int32) * (σ 0 73)) + (9 : Int32)) 168) <|
  Lt (s2 σ 43 (Int32.toNatClampNeg (((14 : Int32) * (σ 0 73)) + (9 : Int32))) p1) fun σ1 =>
  Gd (Ix (((14 : Int32) * (σ1 0 73)) + (10 : Int32)) 168) <|
  Lt (s2 σ1 43 (Int32.toNatClampNeg (((14 : Int32) * (σ1 0 73)) + (10 : Int32))) p2) fun σ2 =>
  some σ2
set_option maxHeartbeats 4000000 in
set_option maxRecDepth 100000 in
theorem cM_window (l : Launch) (g : Ge) (hi : injB wM.2 g) (σ : St) (p1 : Int32) (p2 : Int32) (x : St) (h : m_window σ p1 p2 = some x) : Ct l wM g yM_window qM_window 0 0 [.ref (g.1 0), .int p1, .int p2] σ (none, x) := by
  refine Ct.of (out := o_v) FM_window rfl hi rfl h (fun z hz C => ?_)
  clear h
  subst hz
  unfold m_window
  show Rt z qM_window wM g o_v 0 [(0, .ref (g.1 0)), (1, .int p1), (2, .int p2)] [] σ _
  refine q_aload_n (pc' := 1) C 0 d_M_window_0 rfl rfl ?_
  refine gM_153 (pc' := 4) C d_M_window_1 rfl rfl ?_
  refine q_bipush (pc' := 6) C d_M_window_4 kb_14 rfl ?_
  refine q_aload_n (pc' := 7) C 0 d_M_window_6 rfl rfl ?_
  refine gM_411 (pc' := 10) C d_M_window_7 rfl rfl ?_
  refine q_imul (pc' := 11) C d_M_window_10 rfl ?_
  refine q_bipush (pc' := 13) C d_M_window_11 kb_9 rfl ?_
  refine q_iadd (pc' := 14) C d_M_window_13 rfl ?_
  refine q_iload_n (pc' := 15) C 1 d_M_window_14 rfl rfl ?_
  refine q_iast (pc' := 16) C 43 jM_43 kM_43 d_M_window_15 rfl ?_
  refine q_let (fun σ1 e1 => ?_)
  refine q_state e1 ?_
  refine q_aload_n (pc' := 17) C 0 d_M_window_16 rfl rfl ?_
  refine gM_153 (pc' := 20) C d_M_window_17 rfl rfl ?_
  refine q_bipush (pc' := 22) C d_M_window_20 kb_14 rfl ?_
  refine q_aload_n (pc' := 23) C 0 d_M_window_22 rfl rfl ?_
  refine gM_411 (pc' := 26) C d_M_window_23 rfl rfl ?_
  refine q_imul (pc' := 27) C d_M_window_26 rfl ?_
  refine q_bipush (pc' := 29) C d_M_window_27 kb_10 rfl ?_
  refine q_iadd (pc' := 30) C d_M_window_29 rfl ?_
  refine q_iload_n (pc' := 31) C 2 d_M_window_30 rfl rfl ?_
  refine q_iast (pc' := 32) C 43 jM_43 kM_43 d_M_window_31 rfl ?_
  refine q_let (fun σ2 e2 => ?_)
  refine q_state e2 ?_
  exact q_vret C rfl d_M_window_32 rfl
theorem d_M_isAttribute_0 : decode qM_isAttribute.1 0 = .ok (.aload_n 0, 1) := by decide +kernel
theorem d_M_isAttribute_1 : decode qM_isAttribute.1 1 = .ok (.bipush 79, 2) := by decide +kernel
theorem d_M_isAttribute_3 : decode qM_isAttribute.1 3 = .ok (.invokevirtual 417, 3) := by decide +kernel
theorem d_M_isAttribute_6 : decode qM_isAttribute.1 6 = .ok (.ifCond .ne 48, 3) := by decide +kernel
theorem d_M_isAttribute_9 : decode qM_isAttribute.1 9 = .ok (.aload_n 0, 1) := by decide +kernel
theorem d_M_isAttribute_10 : decode qM_isAttribute.1 10 = .ok (.bipush 65, 2) := by decide +kernel
theorem d_M_isAttribute_12 : decode qM_isAttribute.1 12 = .ok (.invokevirtual 417, 3) := by decide +kernel
theorem d_M_isAttribute_15 : decode qM_isAttribute.1 15 = .ok (.ifCond .ne 39, 3) := by decide +kernel
theorem d_M_isAttribute_18 : decode qM_isAttribute.1 18 = .ok (.aload_n 0, 1) := by decide +kernel
theorem d_M_isAttribute_19 : decode qM_isAttribute.1 19 = .ok (.bipush 43, 2) := by decide +kernel
theorem d_M_isAttribute_21 : decode qM_isAttribute.1 21 = .ok (.invokevirtual 417, 3) := by decide +kernel
theorem d_M_isAttribute_24 : decode qM_isAttribute.1 24 = .ok (.ifCond .ne 30, 3) := by decide +kernel
theorem d_M_isAttribute_27 : decode qM_isAttribute.1 27 = .ok (.aload_n 0, 1) := by decide +kernel
theorem d_M_isAttribute_28 : decode qM_isAttribute.1 28 = .ok (.bipush 45, 2) := by decide +kernel
theorem d_M_isAttribute_30 : decode qM_isAttribute.1 30 = .ok (.invokevirtual 417, 3) := by decide +kernel
theorem d_M_isAttribute_33 : decode qM_isAttribute.1 33 = .ok (.ifCond .ne 21, 3) := by decide +kernel
theorem d_M_isAttribute_36 : decode qM_isAttribute.1 36 = .ok (.aload_n 0, 1) := by decide +kernel
theorem d_M_isAttribute_37 : decode qM_isAttribute.1 37 = .ok (.bipush 66, 2) := by decide +kernel
theorem d_M_isAttribute_39 : decode qM_isAttribute.1 39 = .ok (.invokevirtual 417, 3) := by decide +kernel
theorem d_M_isAttribute_42 : decode qM_isAttribute.1 42 = .ok (.ifCond .ne 12, 3) := by decide +kernel
theorem d_M_isAttribute_45 : decode qM_isAttribute.1 45 = .ok (.aload_n 0, 1) := by decide +kernel
theorem d_M_isAttribute_46 : decode qM_isAttribute.1 46 = .ok (.bipush 83, 2) := by decide +kernel
theorem d_M_isAttribute_48 : decode qM_isAttribute.1 48 = .ok (.invokevirtual 417, 3) := by decide +kernel
theorem d_M_isAttribute_51 : decode qM_isAttribute.1 51 = .ok (.ifCond .eq 7, 3) := by decide +kernel
theorem d_M_isAttribute_54 : decode qM_isAttribute.1 54 = .ok (.iconst 1, 1) := by decide +kernel
theorem d_M_isAttribute_55 : decode qM_isAttribute.1 55 = .ok (.goto 4, 3) := by decide +kernel
theorem d_M_isAttribute_58 : decode qM_isAttribute.1 58 = .ok (.iconst 0, 1) := by decide +kernel
theorem d_M_isAttribute_59 : decode qM_isAttribute.1 59 = .ok (.ireturn, 1) := by decide +kernel
set_option maxRecDepth 100000 in
def m_isAttribute (σ : St) : Option (Int32) :=
  Option.bind (m_isLetter σ (79 : Int32)) fun x1 =>
  Jn (fun (x2 : Int32) =>
  Gd ((x2 : Int32) &&& 1 = x2) <|
  some x2
  ) fun J3 =>
  Jn (fun (_ : Unit) =>
  J3 (1 : Int32)
  ) fun J5 =>
  if (x1 : Int32) = 0 then (
  Option.bind (m_isLetter σ (65 : Int32)) fun x6 =>
  if (x6 : Int32) = 0 then (
  Option.bind (m_isLetter σ (43 : Int32)) fun x7 =>
  if (x7 : Int32) = 0 then (
  Option.bind (m_isLetter σ (45 : Int32)) fun x8 =>
  if (x8 : Int32) = 0 then (
  Option.bind (m_isLetter σ (66 : Int32)) fun x9 =>
  if (x9 : Int32) = 0 then (
  Option.bind (m_isLetter σ (83 : Int32)) fun x10 =>
  if (x10 : Int32) = 0 then (
  J3 (0 : Int32)
  ) else (
  J5 ()
  )
  ) else (
  J5 ()
  )
  ) else (
  J5 ()
  )
  ) else (
  J5 ()
  )
  ) else (
  J5 ()
  )
  ) else (
  J5 ()
  )
set_option maxHeartbeats 4000000 in
set_option maxRecDepth 100000 in
theorem cM_isAttribute (l : Launch) (g : Ge) (hi : injB wM.2 g) (σ : St) (x : Int32) (h : m_isAttribute σ = some x) : Ct l wM g yM_isAttribute qM_isAttribute 1 21 [.ref (g.1 0)] σ (some (.int x), σ) := by
  refine Ct.of (out := (o_r σ)) FM_isAttribute rfl hi rfl h (fun z hz C => ?_)
  clear h
  subst hz
  unfold m_isAttribute
  show Rt z qM_isAttribute wM g (o_r σ) 0 [(0, .ref (g.1 0))] [] σ _
  refine q_aload_n (pc' := 1) C 0 d_M_isAttribute_0 rfl rfl ?_
  refine q_bipush (pc' := 3) C d_M_isAttribute_1 kb_79 rfl ?_
  refine q_callVr (fr' := 0) (lo' := 0) (pc' := 6) C FM_isLetter lmM_417 d_M_isAttribute_3 0 jM_0 kM_0 cM0 [.int (79 : Int32)] [] rfl rfl (Nat.le_of_ble_eq_true rfl) ⟨rfl, rfl⟩ (fun x h => cM_isLetter _ g hi σ (79 : Int32) x h) rfl (fun x1 _ => ?_)
  refine q_join (fun J3 : Int32 → Option (Int32) => ∀ (x2 : Int32), Rt z qM_isAttribute wM g (o_r σ) 59 [] [.int x2] σ (J3 x2)) (fun x2 => ?_) (fun J3 hJ3 => ?_)
  · refine q_guard (fun gx4 => ?_)
    exact q_zret C rfl gx4 d_M_isAttribute_59 rfl
  refine q_join (fun J5 : Unit → Option (Int32) => ∀ (_ : Unit), Rt z qM_isAttribute wM g (o_r σ) 54 [] [] σ (J5 ())) (fun _ => ?_) (fun J5 hJ5 => ?_)
  · refine q_iconst (pc' := 55) C d_M_isAttribute_54 ki_1 rfl ?_
    refine q_goto (tgt := 59) C d_M_isAttribute_55 rfl ?_
    exact Rt.sub [] rfl (hJ3 (1 : Int32))
  refine q_if_ne (tgt := 54) (pc' := 9) C d_M_isAttribute_6 rfl rfl ?_ ?_
  · exact Rt.sub [] rfl (hJ5 ())
  · refine q_aload_n (pc' := 10) C 0 d_M_isAttribute_9 rfl rfl ?_
    refine q_bipush (pc' := 12) C d_M_isAttribute_10 kb_65 rfl ?_
    refine q_callVr (fr' := 0) (lo' := 0) (pc' := 15) C FM_isLetter lmM_417 d_M_isAttribute_12 0 jM_0 kM_0 cM0 [.int (65 : Int32)] [] rfl rfl (Nat.le_of_ble_eq_true rfl) ⟨rfl, rfl⟩ (fun x h => cM_isLetter _ g hi σ (65 : Int32) x h) rfl (fun x6 _ => ?_)
    refine q_if_ne (tgt := 54) (pc' := 18) C d_M_isAttribute_15 rfl rfl ?_ ?_
    · exact Rt.sub [] rfl (hJ5 ())
    · refine q_aload_n (pc' := 19) C 0 d_M_isAttribute_18 rfl rfl ?_
      refine q_bipush (pc' := 21) C d_M_isAttribute_19 kb_43 rfl ?_
      refine q_callVr (fr' := 0) (lo' := 0) (pc' := 24) C FM_isLetter lmM_417 d_M_isAttribute_21 0 jM_0 kM_0 cM0 [.int (43 : Int32)] [] rfl rfl (Nat.le_of_ble_eq_true rfl) ⟨rfl, rfl⟩ (fun x h => cM_isLetter _ g hi σ (43 : Int32) x h) rfl (fun x7 _ => ?_)
      refine q_if_ne (tgt := 54) (pc' := 27) C d_M_isAttribute_24 rfl rfl ?_ ?_
      · exact Rt.sub [] rfl (hJ5 ())
      · refine q_aload_n (pc' := 28) C 0 d_M_isAttribute_27 rfl rfl ?_
        refine q_bipush (pc' := 30) C d_M_isAttribute_28 kb_45 rfl ?_
        refine q_callVr (fr' := 0) (lo' := 0) (pc' := 33) C FM_isLetter lmM_417 d_M_isAttribute_30 0 jM_0 kM_0 cM0 [.int (45 : Int32)] [] rfl rfl (Nat.le_of_ble_eq_true rfl) ⟨rfl, rfl⟩ (fun x h => cM_isLetter _ g hi σ (45 : Int32) x h) rfl (fun x8 _ => ?_)
        refine q_if_ne (tgt := 54) (pc' := 36) C d_M_isAttribute_33 rfl rfl ?_ ?_
        · exact Rt.sub [] rfl (hJ5 ())
        · refine q_aload_n (pc' := 37) C 0 d_M_isAttribute_36 rfl rfl ?_
          refine q_bipush (pc' := 39) C d_M_isAttribute_37 kb_66 rfl ?_
          refine q_callVr (fr' := 0) (lo' := 0) (pc' := 42) C FM_isLetter lmM_417 d_M_isAttribute_39 0 jM_0 kM_0 cM0 [.int (66 : Int32)] [] rfl rfl (Nat.le_of_ble_eq_true rfl) ⟨rfl, rfl⟩ (fun x h => cM_isLetter _ g hi σ (66 : Int32) x h) rfl (fun x9 _ => ?_)
          refine q_if_ne (tgt := 54) (pc' := 45) C d_M_isAttribute_42 rfl rfl ?_ ?_
          · exact Rt.sub [] rfl (hJ5 ())
          · refine q_aload_n (pc' := 46) C 0 d_M_isAttribute_45 rfl rfl ?_
            refine q_bipush (pc' := 48) C d_M_isAttribute_46 kb_83 rfl ?_
            refine q_callVr (fr' := 0) (lo' := 0) (pc' := 51) C FM_isLetter lmM_417 d_M_isAttribute_48 0 jM_0 kM_0 cM0 [.int (83 : Int32)] [] rfl rfl (Nat.le_of_ble_eq_true rfl) ⟨rfl, rfl⟩ (fun x h => cM_isLetter _ g hi σ (83 : Int32) x h) rfl (fun x10 _ => ?_)
            refine q_if_eq (tgt := 58) (pc' := 54) C d_M_isAttribute_51 rfl rfl ?_ ?_
            · refine q_iconst (pc' := 59) C d_M_isAttribute_58 ki_0 rfl ?_
              exact Rt.sub [] rfl (hJ3 (0 : Int32))
            · exact Rt.sub [] rfl (hJ5 ())
theorem d_M_readsAttribute_0 : decode qM_readsAttribute.1 0 = .ok (.aload_n 0, 1) := by decide +kernel
theorem d_M_readsAttribute_1 : decode qM_readsAttribute.1 1 = .ok (.getfield 147, 3) := by decide +kernel
theorem d_M_readsAttribute_4 : decode qM_readsAttribute.1 4 = .ok (.aload_n 0, 1) := by decide +kernel
theorem d_M_readsAttribute_5 : decode qM_readsAttribute.1 5 = .ok (.getfield 392, 3) := by decide +kernel
theorem d_M_readsAttribute_8 : decode qM_readsAttribute.1 8 = .ok (.iaload, 1) := by decide +kernel
theorem d_M_readsAttribute_9 : decode qM_readsAttribute.1 9 = .ok (.istore_n 1, 1) := by decide +kernel
theorem d_M_readsAttribute_10 : decode qM_readsAttribute.1 10 = .ok (.aload_n 0, 1) := by decide +kernel
theorem d_M_readsAttribute_11 : decode qM_readsAttribute.1 11 = .ok (.invokevirtual 404, 3) := by decide +kernel
theorem d_M_readsAttribute_14 : decode qM_readsAttribute.1 14 = .ok (.iload_n 1, 1) := by decide +kernel
theorem d_M_readsAttribute_15 : decode qM_readsAttribute.1 15 = .ok (.bipush 79, 2) := by decide +kernel
theorem d_M_readsAttribute_17 : decode qM_readsAttribute.1 17 = .ok (.if_icmp .ne 21, 3) := by decide +kernel
theorem d_M_readsAttribute_20 : decode qM_readsAttribute.1 20 = .ok (.aload_n 0, 1) := by decide +kernel
theorem d_M_readsAttribute_21 : decode qM_readsAttribute.1 21 = .ok (.getfield 153, 3) := by decide +kernel
theorem d_M_readsAttribute_24 : decode qM_readsAttribute.1 24 = .ok (.bipush 14, 2) := by decide +kernel
theorem d_M_readsAttribute_26 : decode qM_readsAttribute.1 26 = .ok (.aload_n 0, 1) := by decide +kernel
theorem d_M_readsAttribute_27 : decode qM_readsAttribute.1 27 = .ok (.getfield 411, 3) := by decide +kernel
theorem d_M_readsAttribute_30 : decode qM_readsAttribute.1 30 = .ok (.imul, 1) := by decide +kernel
theorem d_M_readsAttribute_31 : decode qM_readsAttribute.1 31 = .ok (.bipush 12, 2) := by decide +kernel
theorem d_M_readsAttribute_33 : decode qM_readsAttribute.1 33 = .ok (.iadd, 1) := by decide +kernel
theorem d_M_readsAttribute_34 : decode qM_readsAttribute.1 34 = .ok (.iconst 1, 1) := by decide +kernel
theorem d_M_readsAttribute_35 : decode qM_readsAttribute.1 35 = .ok (.iastore, 1) := by decide +kernel
theorem d_M_readsAttribute_36 : decode qM_readsAttribute.1 36 = .ok (.iconst 1, 1) := by decide +kernel
theorem d_M_readsAttribute_37 : decode qM_readsAttribute.1 37 = .ok (.ireturn, 1) := by decide +kernel
theorem d_M_readsAttribute_38 : decode qM_readsAttribute.1 38 = .ok (.iload_n 1, 1) := by decide +kernel
theorem d_M_readsAttribute_39 : decode qM_readsAttribute.1 39 = .ok (.bipush 83, 2) := by decide +kernel
theorem d_M_readsAttribute_41 : decode qM_readsAttribute.1 41 = .ok (.if_icmp .ne 15, 3) := by decide +kernel
theorem d_M_readsAttribute_44 : decode qM_readsAttribute.1 44 = .ok (.aload_n 0, 1) := by decide +kernel
theorem d_M_readsAttribute_45 : decode qM_readsAttribute.1 45 = .ok (.bipush 11, 2) := by decide +kernel
theorem d_M_readsAttribute_47 : decode qM_readsAttribute.1 47 = .ok (.bipush 100, 2) := by decide +kernel
theorem d_M_readsAttribute_49 : decode qM_readsAttribute.1 49 = .ok (.sipush 500, 3) := by decide +kernel
theorem d_M_readsAttribute_52 : decode qM_readsAttribute.1 52 = .ok (.invokevirtual 424, 3) := by decide +kernel
theorem d_M_readsAttribute_55 : decode qM_readsAttribute.1 55 = .ok (.ireturn, 1) := by decide +kernel
theorem d_M_readsAttribute_56 : decode qM_readsAttribute.1 56 = .ok (.aload_n 0, 1) := by decide +kernel
theorem d_M_readsAttribute_57 : decode qM_readsAttribute.1 57 = .ok (.iconst 0, 1) := by decide +kernel
theorem d_M_readsAttribute_58 : decode qM_readsAttribute.1 58 = .ok (.sipush 450, 3) := by decide +kernel
theorem d_M_readsAttribute_61 : decode qM_readsAttribute.1 61 = .ok (.invokevirtual 407, 3) := by decide +kernel
theorem d_M_readsAttribute_64 : decode qM_readsAttribute.1 64 = .ok (.ifCond .ne 5, 3) := by decide +kernel
theorem d_M_readsAttribute_67 : decode qM_readsAttribute.1 67 = .ok (.iconst 0, 1) := by decide +kernel
theorem d_M_readsAttribute_68 : decode qM_readsAttribute.1 68 = .ok (.ireturn, 1) := by decide +kernel
theorem d_M_readsAttribute_69 : decode qM_readsAttribute.1 69 = .ok (.aload_n 0, 1) := by decide +kernel
theorem d_M_readsAttribute_70 : decode qM_readsAttribute.1 70 = .ok (.getfield 401, 3) := by decide +kernel
theorem d_M_readsAttribute_73 : decode qM_readsAttribute.1 73 = .ok (.istore_n 2, 1) := by decide +kernel
theorem d_M_readsAttribute_74 : decode qM_readsAttribute.1 74 = .ok (.iload_n 1, 1) := by decide +kernel
theorem d_M_readsAttribute_75 : decode qM_readsAttribute.1 75 = .ok (.bipush 66, 2) := by decide +kernel
theorem d_M_readsAttribute_77 : decode qM_readsAttribute.1 77 = .ok (.if_icmp .ne 23, 3) := by decide +kernel
theorem d_M_readsAttribute_80 : decode qM_readsAttribute.1 80 = .ok (.aload_n 0, 1) := by decide +kernel
theorem d_M_readsAttribute_81 : decode qM_readsAttribute.1 81 = .ok (.iload_n 2, 1) := by decide +kernel
theorem d_M_readsAttribute_82 : decode qM_readsAttribute.1 82 = .ok (.sipush 450, 3) := by decide +kernel
theorem d_M_readsAttribute_85 : decode qM_readsAttribute.1 85 = .ok (.invokevirtual 407, 3) := by decide +kernel
theorem d_M_readsAttribute_88 : decode qM_readsAttribute.1 88 = .ok (.istore_n 3, 1) := by decide +kernel
theorem d_M_readsAttribute_89 : decode qM_readsAttribute.1 89 = .ok (.aload_n 0, 1) := by decide +kernel
theorem d_M_readsAttribute_90 : decode qM_readsAttribute.1 90 = .ok (.iload_n 2, 1) := by decide +kernel
theorem d_M_readsAttribute_91 : decode qM_readsAttribute.1 91 = .ok (.aload_n 0, 1) := by decide +kernel
theorem d_M_readsAttribute_92 : decode qM_readsAttribute.1 92 = .ok (.getfield 401, 3) := by decide +kernel
theorem d_M_readsAttribute_95 : decode qM_readsAttribute.1 95 = .ok (.invokevirtual 431, 3) := by decide +kernel
theorem d_M_readsAttribute_98 : decode qM_readsAttribute.1 98 = .ok (.iload_n 3, 1) := by decide +kernel
theorem d_M_readsAttribute_99 : decode qM_readsAttribute.1 99 = .ok (.ireturn, 1) := by decide +kernel
theorem d_M_readsAttribute_100 : decode qM_readsAttribute.1 100 = .ok (.aload_n 0, 1) := by decide +kernel
theorem d_M_readsAttribute_101 : decode qM_readsAttribute.1 101 = .ok (.iload_n 1, 1) := by decide +kernel
theorem d_M_readsAttribute_102 : decode qM_readsAttribute.1 102 = .ok (.bipush 45, 2) := by decide +kernel
theorem d_M_readsAttribute_104 : decode qM_readsAttribute.1 104 = .ok (.if_icmp .ne 7, 3) := by decide +kernel
theorem d_M_readsAttribute_107 : decode qM_readsAttribute.1 107 = .ok (.iconst 0, 1) := by decide +kernel
theorem d_M_readsAttribute_108 : decode qM_readsAttribute.1 108 = .ok (.goto 4, 3) := by decide +kernel
theorem d_M_readsAttribute_111 : decode qM_readsAttribute.1 111 = .ok (.iload_n 2, 1) := by decide +kernel
theorem d_M_readsAttribute_112 : decode qM_readsAttribute.1 112 = .ok (.iload_n 1, 1) := by decide +kernel
theorem d_M_readsAttribute_113 : decode qM_readsAttribute.1 113 = .ok (.bipush 43, 2) := by decide +kernel
theorem d_M_readsAttribute_115 : decode qM_readsAttribute.1 115 = .ok (.if_icmp .ne 9, 3) := by decide +kernel
theorem d_M_readsAttribute_118 : decode qM_readsAttribute.1 118 = .ok (.sipush 450, 3) := by decide +kernel
theorem d_M_readsAttribute_121 : decode qM_readsAttribute.1 121 = .ok (.goto 4, 3) := by decide +kernel
theorem d_M_readsAttribute_124 : decode qM_readsAttribute.1 124 = .ok (.iload_n 2, 1) := by decide +kernel
theorem d_M_readsAttribute_125 : decode qM_readsAttribute.1 125 = .ok (.invokevirtual 431, 3) := by decide +kernel
theorem d_M_readsAttribute_128 : decode qM_readsAttribute.1 128 = .ok (.iconst 1, 1) := by decide +kernel
theorem d_M_readsAttribute_129 : decode qM_readsAttribute.1 129 = .ok (.ireturn, 1) := by decide +kernel
set_option maxRecDepth 100000 in
def m_readsAttribute (σ : St) : Option (Int32 × St) :=
  Gd (Ix (σ 0 69) 200) <|
  Lt ((σ 41 (Int32.toNatClampNeg (σ 0 69))) : Int32) fun x1 =>
  Option.bind (m_nextToken σ) fun x2 =>
  if (x1 : Int32) = (79 : Int32) then (
  Gd (Ix (((14 : Int32) * (x2 0 73)) + (12 : Int32)) 168) <|
  Lt (s2 x2 43 (Int32.toNatClampNeg (((14 : Int32) * (x2 0 73)) + (12 : Int32))) (1 : Int32)) fun σ15 =>
  some ((1 : Int32), σ15)
  ) else (
  if (x1 : Int32) = (83 : Int32) then (
  Option.bind (m_readsInto x2 (11 : Int32) (100 : Int32) (500 : Int32)) fun x13 =>
  Gd ((x13.1 : Int32) &&& 1 = x13.1) <|
  some (x13.1, x13.2)
  ) else (
  Option.bind (m_readsNumber x2 (0 : Int32) (450 : Int32)) fun x3 =>
  if (x3.1 : Int32) = 0 then (
  some ((0 : Int32), x3.2)
  ) else (
  Lt ((x3.2 0 74) : Int32) fun x4 =>
  if (x1 : Int32) = (66 : Int32) then (
  Option.bind (m_readsNumber x3.2 x4 (450 : Int32)) fun x10 =>
  Option.bind (m_window x10.2 x4 (x10.2 0 74)) fun x11 =>
  Gd ((x10.1 : Int32) &&& 1 = x10.1) <|
  some (x10.1, x11)
  ) else (
  Jn (fun (x5 : Int32) =>
  Jn (fun (x7 : Int32) =>
  Option.bind (m_window x3.2 x5 x7) fun x9 =>
  some ((1 : Int32), x9)
  ) fun J8 =>
  if (x1 : Int32) = (43 : Int32) then (
  J8 (450 : Int32)
  ) else (
  J8 x4
  )
  ) fun J6 =>
  if (x1 : Int32) = (45 : Int32) then (
  J6 (0 : Int32)
  ) else (
  J6 x4
  )
  )
  )
  )
  )
set_option maxHeartbeats 4000000 in
set_option maxRecDepth 100000 in
theorem cM_readsAttribute (l : Launch) (g : Ge) (hi : injB wM.2 g) (σ : St) (x : Int32 × St) (h : m_readsAttribute σ = some x) : Ct l wM g yM_readsAttribute qM_readsAttribute 5 113 [.ref (g.1 0)] σ (some (.int x.1), x.2) := by
  refine Ct.of (out := o_w) FM_readsAttribute rfl hi rfl h (fun z hz C => ?_)
  clear h
  subst hz
  unfold m_readsAttribute
  show Rt z qM_readsAttribute wM g o_w 0 [(0, .ref (g.1 0))] [] σ _
  refine q_aload_n (pc' := 1) C 0 d_M_readsAttribute_0 rfl rfl ?_
  refine gM_147 (pc' := 4) C d_M_readsAttribute_1 rfl rfl ?_
  refine q_aload_n (pc' := 5) C 0 d_M_readsAttribute_4 rfl rfl ?_
  refine gM_392 (pc' := 8) C d_M_readsAttribute_5 rfl rfl ?_
  refine q_iald (pc' := 9) C 41 jM_41 kM_41 d_M_readsAttribute_8 rfl ?_
  refine q_let (fun x1 e1 => ?_)
  refine q_topi e1 ?_
  refine q_istore_n (pc' := 10) (lv' := [(1, .int x1), (0, .ref (g.1 0))]) C d_M_readsAttribute_9 (by decide) rfl rfl ?_
  refine q_aload_n (pc' := 11) C 1 d_M_readsAttribute_10 rfl rfl ?_
  refine q_callVv (fr' := 2) (lo' := 45) (pc' := 14) C FM_nextToken lmM_404 d_M_readsAttribute_11 0 jM_0 kM_0 cM0 [] [] rfl rfl (Nat.le_of_ble_eq_true rfl) ⟨rfl, rfl⟩ (fun x h => cM_nextToken _ g hi σ x h) rfl (fun x2 _ => ?_)
  refine q_iload_n (pc' := 15) C 0 d_M_readsAttribute_14 rfl rfl ?_
  refine q_bipush (pc' := 17) C d_M_readsAttribute_15 kb_79 rfl ?_
  refine q_icmp_ne (tgt := 38) (pc' := 20) C d_M_readsAttribute_17 rfl rfl ?_ ?_
  · refine q_iload_n (pc' := 39) C 0 d_M_readsAttribute_38 rfl rfl ?_
    refine q_bipush (pc' := 41) C d_M_readsAttribute_39 kb_83 rfl ?_
    refine q_icmp_ne (tgt := 56) (pc' := 44) C d_M_readsAttribute_41 rfl rfl ?_ ?_
    · refine q_aload_n (pc' := 57) C 1 d_M_readsAttribute_56 rfl rfl ?_
      refine q_iconst (pc' := 58) C d_M_readsAttribute_57 ki_0 rfl ?_
      refine q_sipush (pc' := 61) C d_M_readsAttribute_58 ks_450 rfl ?_
      refine q_callVw (fr' := 3) (lo' := 65) (pc' := 64) C FM_readsNumber lmM_407 d_M_readsAttribute_61 0 jM_0 kM_0 cM0 [.int (0 : Int32), .int (450 : Int32)] [] rfl rfl (Nat.le_of_ble_eq_true rfl) ⟨rfl, rfl⟩ (fun x h => cM_readsNumber _ g hi x2 (0 : Int32) (450 : Int32) x h) rfl (fun x3 _ => ?_)
      refine q_if_ne (tgt := 69) (pc' := 67) C d_M_readsAttribute_64 rfl rfl ?_ ?_
      · refine q_aload_n (pc' := 70) C 1 d_M_readsAttribute_69 rfl rfl ?_
        refine gM_401 (pc' := 73) C d_M_readsAttribute_70 rfl rfl ?_
        refine q_let (fun x4 e4 => ?_)
        refine q_topi e4 ?_
        refine q_istore_n (pc' := 74) (lv' := [(2, .int x4), (1, .int x1), (0, .ref (g.1 0))]) C d_M_readsAttribute_73 (by decide) rfl rfl ?_
        refine q_iload_n (pc' := 75) C 1 d_M_readsAttribute_74 rfl rfl ?_
        refine q_bipush (pc' := 77) C d_M_readsAttribute_75 kb_66 rfl ?_
        refine q_icmp_ne (tgt := 100) (pc' := 80) C d_M_readsAttribute_77 rfl rfl ?_ ?_
        · refine q_aload_n (pc' := 101) C 2 d_M_readsAttribute_100 rfl rfl ?_
          refine q_iload_n (pc' := 102) C 1 d_M_readsAttribute_101 rfl rfl ?_
          refine q_bipush (pc' := 104) C d_M_readsAttribute_102 kb_45 rfl ?_
          refine q_join (fun J6 : Int32 → Option (Int32 × St) => ∀ (x5 : Int32), Rt z qM_readsAttribute wM g o_w 112 [(1, .int x1), (2, .int x4)] [.int x5, .ref (g.1 0)] x3.2 (J6 x5)) (fun x5 => ?_) (fun J6 hJ6 => ?_)
          · refine q_iload_n (pc' := 113) C 0 d_M_readsAttribute_112 rfl rfl ?_
            refine q_bipush (pc' := 115) C d_M_readsAttribute_113 kb_43 rfl ?_
            refine q_join (fun J8 : Int32 → Option (Int32 × St) => ∀ (x7 : Int32), Rt z qM_readsAttribute wM g o_w 125 [] [.int x7, .int x5, .ref (g.1 0)] x3.2 (J8 x7)) (fun x7 => ?_) (fun J8 hJ8 => ?_)
            · refine q_callVv (fr' := 0) (lo' := 0) (pc' := 128) C FM_window lmM_431 d_M_readsAttribute_125 0 jM_0 kM_0 cM0 [.int x5, .int x7] [] rfl rfl (Nat.le_of_ble_eq_true rfl) ⟨rfl, rfl⟩ (fun x h => cM_window _ g hi x3.2 x5 x7 x h) rfl (fun x9 _ => ?_)
              refine q_iconst (pc' := 129) C d_M_readsAttribute_128 ki_1 rfl ?_
              exact q_zret C rfl (by decide) d_M_readsAttribute_129 rfl
            refine q_icmp_ne (tgt := 124) (pc' := 118) C d_M_readsAttribute_115 rfl rfl ?_ ?_
            · refine q_iload_n (pc' := 125) C 1 d_M_readsAttribute_124 rfl rfl ?_
              exact Rt.sub [] rfl (hJ8 x4)
            · refine q_sipush (pc' := 121) C d_M_readsAttribute_118 ks_450 rfl ?_
              refine q_goto (tgt := 125) C d_M_readsAttribute_121 rfl ?_
              exact Rt.sub [] rfl (hJ8 (450 : Int32))
          refine q_icmp_ne (tgt := 111) (pc' := 107) C d_M_readsAttribute_104 rfl rfl ?_ ?_
          · refine q_iload_n (pc' := 112) C 0 d_M_readsAttribute_111 rfl rfl ?_
            exact Rt.sub [1, 0] rfl (hJ6 x4)
          · refine q_iconst (pc' := 108) C d_M_readsAttribute_107 ki_0 rfl ?_
            refine q_goto (tgt := 112) C d_M_readsAttribute_108 rfl ?_
            exact Rt.sub [1, 0] rfl (hJ6 (0 : Int32))
        · refine q_aload_n (pc' := 81) C 2 d_M_readsAttribute_80 rfl rfl ?_
          refine q_iload_n (pc' := 82) C 0 d_M_readsAttribute_81 rfl rfl ?_
          refine q_sipush (pc' := 85) C d_M_readsAttribute_82 ks_450 rfl ?_
          refine q_callVw (fr' := 3) (lo' := 65) (pc' := 88) C FM_readsNumber lmM_407 d_M_readsAttribute_85 0 jM_0 kM_0 cM0 [.int x4, .int (450 : Int32)] [] rfl rfl (Nat.le_of_ble_eq_true rfl) ⟨rfl, rfl⟩ (fun x h => cM_readsNumber _ g hi x3.2 x4 (450 : Int32) x h) rfl (fun x10 _ => ?_)
          refine q_istore_n (pc' := 89) (lv' := [(3, .int x10.1), (2, .int x4), (1, .int x1), (0, .ref (g.1 0))]) C d_M_readsAttribute_88 (by decide) rfl rfl ?_
          refine q_aload_n (pc' := 90) C 3 d_M_readsAttribute_89 rfl rfl ?_
          refine q_iload_n (pc' := 91) C 1 d_M_readsAttribute_90 rfl rfl ?_
          refine q_aload_n (pc' := 92) C 3 d_M_readsAttribute_91 rfl rfl ?_
          refine gM_401 (pc' := 95) C d_M_readsAttribute_92 rfl rfl ?_
          refine q_callVv (fr' := 0) (lo' := 0) (pc' := 98) C FM_window lmM_431 d_M_readsAttribute_95 0 jM_0 kM_0 cM0 [.int x4, .int (x10.2 0 74)] [] rfl rfl (Nat.le_of_ble_eq_true rfl) ⟨rfl, rfl⟩ (fun x h => cM_window _ g hi x10.2 x4 (x10.2 0 74) x h) rfl (fun x11 _ => ?_)
          refine q_iload_n (pc' := 99) C 0 d_M_readsAttribute_98 rfl rfl ?_
          refine q_guard (fun gx12 => ?_)
          exact q_zret C rfl gx12 d_M_readsAttribute_99 rfl
      · refine q_iconst (pc' := 68) C d_M_readsAttribute_67 ki_0 rfl ?_
        exact q_zret C rfl (by decide) d_M_readsAttribute_68 rfl
    · refine q_aload_n (pc' := 45) C 1 d_M_readsAttribute_44 rfl rfl ?_
      refine q_bipush (pc' := 47) C d_M_readsAttribute_45 kb_11 rfl ?_
      refine q_bipush (pc' := 49) C d_M_readsAttribute_47 kb_100 rfl ?_
      refine q_sipush (pc' := 52) C d_M_readsAttribute_49 ks_500 rfl ?_
      refine q_callVw (fr' := 4) (lo' := 89) (pc' := 55) C FM_readsInto lmM_424 d_M_readsAttribute_52 0 jM_0 kM_0 cM0 [.int (11 : Int32), .int (100 : Int32), .int (500 : Int32)] [] rfl rfl (Nat.le_of_ble_eq_true rfl) ⟨rfl, rfl⟩ (fun x h => cM_readsInto _ g hi x2 (11 : Int32) (100 : Int32) (500 : Int32) x h) rfl (fun x13 _ => ?_)
      refine q_guard (fun gx14 => ?_)
      exact q_zret C rfl gx14 d_M_readsAttribute_55 rfl
  · refine q_aload_n (pc' := 21) C 1 d_M_readsAttribute_20 rfl rfl ?_
    refine gM_153 (pc' := 24) C d_M_readsAttribute_21 rfl rfl ?_
    refine q_bipush (pc' := 26) C d_M_readsAttribute_24 kb_14 rfl ?_
    refine q_aload_n (pc' := 27) C 1 d_M_readsAttribute_26 rfl rfl ?_
    refine gM_411 (pc' := 30) C d_M_readsAttribute_27 rfl rfl ?_
    refine q_imul (pc' := 31) C d_M_readsAttribute_30 rfl ?_
    refine q_bipush (pc' := 33) C d_M_readsAttribute_31 kb_12 rfl ?_
    refine q_iadd (pc' := 34) C d_M_readsAttribute_33 rfl ?_
    refine q_iconst (pc' := 35) C d_M_readsAttribute_34 ki_1 rfl ?_
    refine q_iast (pc' := 36) C 43 jM_43 kM_43 d_M_readsAttribute_35 rfl ?_
    refine q_let (fun σ15 e15 => ?_)
    refine q_state e15 ?_
    refine q_iconst (pc' := 37) C d_M_readsAttribute_36 ki_1 rfl ?_
    exact q_zret C rfl (by decide) d_M_readsAttribute_37 rfl
theorem d_M_readsLeg_0 : decode qM_readsLeg.1 0 = .ok (.aload_n 0, 1) := by decide +kernel
theorem d_M_readsLeg_1 : decode qM_readsLeg.1 1 = .ok (.invokevirtual 434, 3) := by decide +kernel
theorem d_M_readsLeg_4 : decode qM_readsLeg.1 4 = .ok (.istore_n 1, 1) := by decide +kernel
theorem d_M_readsLeg_5 : decode qM_readsLeg.1 5 = .ok (.iload_n 1, 1) := by decide +kernel
theorem d_M_readsLeg_6 : decode qM_readsLeg.1 6 = .ok (.ifCond .ge 5, 3) := by decide +kernel
theorem d_M_readsLeg_9 : decode qM_readsLeg.1 9 = .ok (.iconst 0, 1) := by decide +kernel
theorem d_M_readsLeg_10 : decode qM_readsLeg.1 10 = .ok (.ireturn, 1) := by decide +kernel
theorem d_M_readsLeg_11 : decode qM_readsLeg.1 11 = .ok (.iconst 0, 1) := by decide +kernel
theorem d_M_readsLeg_12 : decode qM_readsLeg.1 12 = .ok (.istore_n 2, 1) := by decide +kernel
theorem d_M_readsLeg_13 : decode qM_readsLeg.1 13 = .ok (.iload_n 2, 1) := by decide +kernel
theorem d_M_readsLeg_14 : decode qM_readsLeg.1 14 = .ok (.bipush 14, 2) := by decide +kernel
theorem d_M_readsLeg_16 : decode qM_readsLeg.1 16 = .ok (.if_icmp .ge 24, 3) := by decide +kernel
theorem d_M_readsLeg_19 : decode qM_readsLeg.1 19 = .ok (.aload_n 0, 1) := by decide +kernel
theorem d_M_readsLeg_20 : decode qM_readsLeg.1 20 = .ok (.getfield 153, 3) := by decide +kernel
theorem d_M_readsLeg_23 : decode qM_readsLeg.1 23 = .ok (.bipush 14, 2) := by decide +kernel
theorem d_M_readsLeg_25 : decode qM_readsLeg.1 25 = .ok (.aload_n 0, 1) := by decide +kernel
theorem d_M_readsLeg_26 : decode qM_readsLeg.1 26 = .ok (.getfield 411, 3) := by decide +kernel
theorem d_M_readsLeg_29 : decode qM_readsLeg.1 29 = .ok (.imul, 1) := by decide +kernel
theorem d_M_readsLeg_30 : decode qM_readsLeg.1 30 = .ok (.iload_n 2, 1) := by decide +kernel
theorem d_M_readsLeg_31 : decode qM_readsLeg.1 31 = .ok (.iadd, 1) := by decide +kernel
theorem d_M_readsLeg_32 : decode qM_readsLeg.1 32 = .ok (.iconst 0, 1) := by decide +kernel
theorem d_M_readsLeg_33 : decode qM_readsLeg.1 33 = .ok (.iastore, 1) := by decide +kernel
theorem d_M_readsLeg_34 : decode qM_readsLeg.1 34 = .ok (.iinc 2 1, 3) := by decide +kernel
theorem d_M_readsLeg_37 : decode qM_readsLeg.1 37 = .ok (.goto (-24), 3) := by decide +kernel
theorem d_M_readsLeg_40 : decode qM_readsLeg.1 40 = .ok (.aload_n 0, 1) := by decide +kernel
theorem d_M_readsLeg_41 : decode qM_readsLeg.1 41 = .ok (.getfield 153, 3) := by decide +kernel
theorem d_M_readsLeg_44 : decode qM_readsLeg.1 44 = .ok (.bipush 14, 2) := by decide +kernel
theorem d_M_readsLeg_46 : decode qM_readsLeg.1 46 = .ok (.aload_n 0, 1) := by decide +kernel
theorem d_M_readsLeg_47 : decode qM_readsLeg.1 47 = .ok (.getfield 411, 3) := by decide +kernel
theorem d_M_readsLeg_50 : decode qM_readsLeg.1 50 = .ok (.imul, 1) := by decide +kernel
theorem d_M_readsLeg_51 : decode qM_readsLeg.1 51 = .ok (.iconst 0, 1) := by decide +kernel
theorem d_M_readsLeg_52 : decode qM_readsLeg.1 52 = .ok (.iadd, 1) := by decide +kernel
theorem d_M_readsLeg_53 : decode qM_readsLeg.1 53 = .ok (.iload_n 1, 1) := by decide +kernel
theorem d_M_readsLeg_54 : decode qM_readsLeg.1 54 = .ok (.iastore, 1) := by decide +kernel
theorem d_M_readsLeg_55 : decode qM_readsLeg.1 55 = .ok (.aload_n 0, 1) := by decide +kernel
theorem d_M_readsLeg_56 : decode qM_readsLeg.1 56 = .ok (.getfield 153, 3) := by decide +kernel
theorem d_M_readsLeg_59 : decode qM_readsLeg.1 59 = .ok (.bipush 14, 2) := by decide +kernel
theorem d_M_readsLeg_61 : decode qM_readsLeg.1 61 = .ok (.aload_n 0, 1) := by decide +kernel
theorem d_M_readsLeg_62 : decode qM_readsLeg.1 62 = .ok (.getfield 411, 3) := by decide +kernel
theorem d_M_readsLeg_65 : decode qM_readsLeg.1 65 = .ok (.imul, 1) := by decide +kernel
theorem d_M_readsLeg_66 : decode qM_readsLeg.1 66 = .ok (.bipush 11, 2) := by decide +kernel
theorem d_M_readsLeg_68 : decode qM_readsLeg.1 68 = .ok (.iadd, 1) := by decide +kernel
theorem d_M_readsLeg_69 : decode qM_readsLeg.1 69 = .ok (.sipush 999, 3) := by decide +kernel
theorem d_M_readsLeg_72 : decode qM_readsLeg.1 72 = .ok (.iastore, 1) := by decide +kernel
theorem d_M_readsLeg_73 : decode qM_readsLeg.1 73 = .ok (.aload_n 0, 1) := by decide +kernel
theorem d_M_readsLeg_74 : decode qM_readsLeg.1 74 = .ok (.iconst 0, 1) := by decide +kernel
theorem d_M_readsLeg_75 : decode qM_readsLeg.1 75 = .ok (.sipush 450, 3) := by decide +kernel
theorem d_M_readsLeg_78 : decode qM_readsLeg.1 78 = .ok (.invokevirtual 431, 3) := by decide +kernel
theorem d_M_readsLeg_81 : decode qM_readsLeg.1 81 = .ok (.aload_n 0, 1) := by decide +kernel
theorem d_M_readsLeg_82 : decode qM_readsLeg.1 82 = .ok (.invokevirtual 404, 3) := by decide +kernel
theorem d_M_readsLeg_85 : decode qM_readsLeg.1 85 = .ok (.aload_n 0, 1) := by decide +kernel
theorem d_M_readsLeg_86 : decode qM_readsLeg.1 86 = .ok (.iload_n 1, 1) := by decide +kernel
theorem d_M_readsLeg_87 : decode qM_readsLeg.1 87 = .ok (.invokevirtual 438, 3) := by decide +kernel
theorem d_M_readsLeg_90 : decode qM_readsLeg.1 90 = .ok (.istore_n 2, 1) := by decide +kernel
theorem d_M_readsLeg_91 : decode qM_readsLeg.1 91 = .ok (.iload_n 2, 1) := by decide +kernel
theorem d_M_readsLeg_92 : decode qM_readsLeg.1 92 = .ok (.ifCond .eq 18, 3) := by decide +kernel
theorem d_M_readsLeg_95 : decode qM_readsLeg.1 95 = .ok (.aload_n 0, 1) := by decide +kernel
theorem d_M_readsLeg_96 : decode qM_readsLeg.1 96 = .ok (.invokevirtual 441, 3) := by decide +kernel
theorem d_M_readsLeg_99 : decode qM_readsLeg.1 99 = .ok (.ifCond .eq 11, 3) := by decide +kernel
theorem d_M_readsLeg_102 : decode qM_readsLeg.1 102 = .ok (.aload_n 0, 1) := by decide +kernel
theorem d_M_readsLeg_103 : decode qM_readsLeg.1 103 = .ok (.invokevirtual 444, 3) := by decide +kernel
theorem d_M_readsLeg_106 : decode qM_readsLeg.1 106 = .ok (.istore_n 2, 1) := by decide +kernel
theorem d_M_readsLeg_107 : decode qM_readsLeg.1 107 = .ok (.goto (-16), 3) := by decide +kernel
theorem d_M_readsLeg_110 : decode qM_readsLeg.1 110 = .ok (.aload_n 0, 1) := by decide +kernel
theorem d_M_readsLeg_111 : decode qM_readsLeg.1 111 = .ok (.dup, 1) := by decide +kernel
theorem d_M_readsLeg_112 : decode qM_readsLeg.1 112 = .ok (.getfield 411, 3) := by decide +kernel
theorem d_M_readsLeg_115 : decode qM_readsLeg.1 115 = .ok (.iload_n 2, 1) := by decide +kernel
theorem d_M_readsLeg_116 : decode qM_readsLeg.1 116 = .ok (.ifCond .eq 7, 3) := by decide +kernel
theorem d_M_readsLeg_119 : decode qM_readsLeg.1 119 = .ok (.iconst 1, 1) := by decide +kernel
theorem d_M_readsLeg_120 : decode qM_readsLeg.1 120 = .ok (.goto 4, 3) := by decide +kernel
theorem d_M_readsLeg_123 : decode qM_readsLeg.1 123 = .ok (.iconst 0, 1) := by decide +kernel
theorem d_M_readsLeg_124 : decode qM_readsLeg.1 124 = .ok (.iadd, 1) := by decide +kernel
theorem d_M_readsLeg_125 : decode qM_readsLeg.1 125 = .ok (.putfield 411, 3) := by decide +kernel
theorem d_M_readsLeg_128 : decode qM_readsLeg.1 128 = .ok (.iload_n 2, 1) := by decide +kernel
theorem d_M_readsLeg_129 : decode qM_readsLeg.1 129 = .ok (.ireturn, 1) := by decide +kernel
set_option maxRecDepth 100000 in
def lb_m_readsLeg_91 (J11 : Int32 → St → Option (Int32 × St)) (ih17 : Int32 × St → Option (Int32 × St)) (a16 : Int32 × St) : Option (Int32 × St) :=
  if (a16.1 : Int32) = 0 then (
  J11 a16.1 a16.2
  ) else (
  Option.bind (m_isAttribute a16.2) fun x18 =>
  if (x18 : Int32) = 0 then (
  J11 a16.1 a16.2
  ) else (
  Option.bind (m_readsAttribute a16.2) fun x19 =>
  ih17 (x19.1, x19.2)
  )
  )
set_option maxRecDepth 100000 in
def lb_m_readsLeg_13 (J3 : St → Option (Int32 × St)) (ih21 : Int32 × St → Option (Int32 × St)) (a20 : Int32 × St) : Option (Int32 × St) :=
  if ((14 : Int32) : Int32) ≤ a20.1 then (
  J3 a20.2
  ) else (
  Gd (Ix (((14 : Int32) * (a20.2 0 73)) + a20.1) 168) <|
  Lt (s2 a20.2 43 (Int32.toNatClampNeg (((14 : Int32) * (a20.2 0 73)) + a20.1)) (0 : Int32)) fun σ22 =>
  Lt (a20.1 + (1 : Int32) : Int32) fun x23 =>
  ih21 (x23, σ22)
  )
set_option maxRecDepth 100000 in
def m_readsLeg (σ : St) : Option (Int32 × St) :=
  Option.bind (m_kindHere σ) fun x1 =>
  if (0 : Int32) ≤ x1 then (
  Jn (fun (σ2 : St) =>
  Gd (Ix (((14 : Int32) * (σ2 0 73)) + (0 : Int32)) 168) <|
  Lt (s2 σ2 43 (Int32.toNatClampNeg (((14 : Int32) * (σ2 0 73)) + (0 : Int32))) x1) fun σ4 =>
  Gd (Ix (((14 : Int32) * (σ4 0 73)) + (11 : Int32)) 168) <|
  Lt (s2 σ4 43 (Int32.toNatClampNeg (((14 : Int32) * (σ4 0 73)) + (11 : Int32))) (999 : Int32)) fun σ5 =>
  Option.bind (m_window σ5 (0 : Int32) (450 : Int32)) fun x6 =>
  Option.bind (m_nextToken x6) fun x7 =>
  Option.bind (m_readsKind x7 x1) fun x8 =>
  Jn (fun (x9 : Int32) (σ10 : St) =>
  Jn (fun (x12 : Int32) =>
  Lt (s2 σ10 0 73 ((σ10 0 73) + x12)) fun σ14 =>
  Gd ((x9 : Int32) &&& 1 = x9) <|
  some (x9, σ14)
  ) fun J13 =>
  if (x9 : Int32) = 0 then (
  J13 (0 : Int32)
  ) else (
  J13 (1 : Int32)
  )
  ) fun J11 =>
  lp (lb_m_readsLeg_91 J11) 4000 (x8.1, x8.2)
  ) fun J3 =>
  lp (lb_m_readsLeg_13 J3) 4000 ((0 : Int32), σ)
  ) else (
  some ((0 : Int32), σ)
  )
set_option maxHeartbeats 4000000 in
set_option maxRecDepth 100000 in
theorem cM_readsLeg (l : Launch) (g : Ge) (hi : injB wM.2 g) (σ : St) (x : Int32 × St) (h : m_readsLeg σ = some x) : Ct l wM g yM_readsLeg qM_readsLeg 6 136 [.ref (g.1 0)] σ (some (.int x.1), x.2) := by
  refine Ct.of (out := o_w) FM_readsLeg rfl hi rfl h (fun z hz C => ?_)
  clear h
  subst hz
  unfold m_readsLeg
  show Rt z qM_readsLeg wM g o_w 0 [(0, .ref (g.1 0))] [] σ _
  refine q_aload_n (pc' := 1) C 0 d_M_readsLeg_0 rfl rfl ?_
  refine q_callVr (fr' := 0) (lo' := 0) (pc' := 4) C FM_kindHere lmM_434 d_M_readsLeg_1 0 jM_0 kM_0 cM0 [] [] rfl rfl (Nat.le_of_ble_eq_true rfl) ⟨rfl, rfl⟩ (fun x h => cM_kindHere _ g hi σ x h) rfl (fun x1 _ => ?_)
  refine q_istore_n (pc' := 5) (lv' := [(1, .int x1), (0, .ref (g.1 0))]) C d_M_readsLeg_4 (by decide) rfl rfl ?_
  refine q_iload_n (pc' := 6) C 0 d_M_readsLeg_5 rfl rfl ?_
  refine q_if_ge (tgt := 11) (pc' := 9) C d_M_readsLeg_6 rfl rfl ?_ ?_
  · refine q_iconst (pc' := 12) C d_M_readsLeg_11 ki_0 rfl ?_
    refine q_istore_n (pc' := 13) (lv' := [(2, .int (0 : Int32)), (1, .int x1), (0, .ref (g.1 0))]) C d_M_readsLeg_12 (by decide) rfl rfl ?_
    refine q_join (fun J3 : St → Option (Int32 × St) => ∀ (σ2 : St), Rt z qM_readsLeg wM g o_w 40 [(0, .ref (g.1 0)), (1, .int x1)] [] σ2 (J3 σ2)) (fun σ2 => ?_) (fun J3 hJ3 => ?_)
    · refine q_aload_n (pc' := 41) C 0 d_M_readsLeg_40 rfl rfl ?_
      refine gM_153 (pc' := 44) C d_M_readsLeg_41 rfl rfl ?_
      refine q_bipush (pc' := 46) C d_M_readsLeg_44 kb_14 rfl ?_
      refine q_aload_n (pc' := 47) C 0 d_M_readsLeg_46 rfl rfl ?_
      refine gM_411 (pc' := 50) C d_M_readsLeg_47 rfl rfl ?_
      refine q_imul (pc' := 51) C d_M_readsLeg_50 rfl ?_
      refine q_iconst (pc' := 52) C d_M_readsLeg_51 ki_0 rfl ?_
      refine q_iadd (pc' := 53) C d_M_readsLeg_52 rfl ?_
      refine q_iload_n (pc' := 54) C 1 d_M_readsLeg_53 rfl rfl ?_
      refine q_iast (pc' := 55) C 43 jM_43 kM_43 d_M_readsLeg_54 rfl ?_
      refine q_let (fun σ4 e4 => ?_)
      refine q_state e4 ?_
      refine q_aload_n (pc' := 56) C 0 d_M_readsLeg_55 rfl rfl ?_
      refine gM_153 (pc' := 59) C d_M_readsLeg_56 rfl rfl ?_
      refine q_bipush (pc' := 61) C d_M_readsLeg_59 kb_14 rfl ?_
      refine q_aload_n (pc' := 62) C 0 d_M_readsLeg_61 rfl rfl ?_
      refine gM_411 (pc' := 65) C d_M_readsLeg_62 rfl rfl ?_
      refine q_imul (pc' := 66) C d_M_readsLeg_65 rfl ?_
      refine q_bipush (pc' := 68) C d_M_readsLeg_66 kb_11 rfl ?_
      refine q_iadd (pc' := 69) C d_M_readsLeg_68 rfl ?_
      refine q_sipush (pc' := 72) C d_M_readsLeg_69 ks_999 rfl ?_
      refine q_iast (pc' := 73) C 43 jM_43 kM_43 d_M_readsLeg_72 rfl ?_
      refine q_let (fun σ5 e5 => ?_)
      refine q_state e5 ?_
      refine q_aload_n (pc' := 74) C 0 d_M_readsLeg_73 rfl rfl ?_
      refine q_iconst (pc' := 75) C d_M_readsLeg_74 ki_0 rfl ?_
      refine q_sipush (pc' := 78) C d_M_readsLeg_75 ks_450 rfl ?_
      refine q_callVv (fr' := 0) (lo' := 0) (pc' := 81) C FM_window lmM_431 d_M_readsLeg_78 0 jM_0 kM_0 cM0 [.int (0 : Int32), .int (450 : Int32)] [] rfl rfl (Nat.le_of_ble_eq_true rfl) ⟨rfl, rfl⟩ (fun x h => cM_window _ g hi σ5 (0 : Int32) (450 : Int32) x h) rfl (fun x6 _ => ?_)
      refine q_aload_n (pc' := 82) C 0 d_M_readsLeg_81 rfl rfl ?_
      refine q_callVv (fr' := 2) (lo' := 45) (pc' := 85) C FM_nextToken lmM_404 d_M_readsLeg_82 0 jM_0 kM_0 cM0 [] [] rfl rfl (Nat.le_of_ble_eq_true rfl) ⟨rfl, rfl⟩ (fun x h => cM_nextToken _ g hi x6 x h) rfl (fun x7 _ => ?_)
      refine q_aload_n (pc' := 86) C 0 d_M_readsLeg_85 rfl rfl ?_
      refine q_iload_n (pc' := 87) C 1 d_M_readsLeg_86 rfl rfl ?_
      refine q_callVw (fr' := 5) (lo' := 113) (pc' := 90) C FM_readsKind lmM_438 d_M_readsLeg_87 0 jM_0 kM_0 cM0 [.int x1] [] rfl rfl (Nat.le_of_ble_eq_true rfl) ⟨rfl, rfl⟩ (fun x h => cM_readsKind _ g hi x7 x1 x h) rfl (fun x8 _ => ?_)
      refine q_istore_n (pc' := 91) (lv' := [(2, .int x8.1), (0, .ref (g.1 0)), (1, .int x1)]) C d_M_readsLeg_90 (by decide) rfl rfl ?_
      refine q_join (fun J11 : Int32 → St → Option (Int32 × St) => ∀ (x9 : Int32) (σ10 : St), Rt z qM_readsLeg wM g o_w 110 [(0, .ref (g.1 0)), (2, .int x9)] [] σ10 (J11 x9 σ10)) (fun x9 σ10 => ?_) (fun J11 hJ11 => ?_)
      · refine q_aload_n (pc' := 111) C 0 d_M_readsLeg_110 rfl rfl ?_
        refine q_dup (pc' := 112) C d_M_readsLeg_111 rfl rfl ?_
        refine gM_411 (pc' := 115) C d_M_readsLeg_112 rfl rfl ?_
        refine q_iload_n (pc' := 116) C 1 d_M_readsLeg_115 rfl rfl ?_
        refine q_join (fun J13 : Int32 → Option (Int32 × St) => ∀ (x12 : Int32), Rt z qM_readsLeg wM g o_w 124 [(2, .int x9)] [.int x12, .int (σ10 0 73), .ref (g.1 0)] σ10 (J13 x12)) (fun x12 => ?_) (fun J13 hJ13 => ?_)
        · refine q_iadd (pc' := 125) C d_M_readsLeg_124 rfl ?_
          refine pM_411 (pc' := 128) C d_M_readsLeg_125 rfl rfl ?_
          refine q_let (fun σ14 e14 => ?_)
          refine q_state e14 ?_
          refine q_iload_n (pc' := 129) C 0 d_M_readsLeg_128 rfl rfl ?_
          refine q_guard (fun gx15 => ?_)
          exact q_zret C rfl gx15 d_M_readsLeg_129 rfl
        refine q_if_eq (tgt := 123) (pc' := 119) C d_M_readsLeg_116 rfl rfl ?_ ?_
        · refine q_iconst (pc' := 124) C d_M_readsLeg_123 ki_0 rfl ?_
          exact Rt.sub [1] rfl (hJ13 (0 : Int32))
        · refine q_iconst (pc' := 120) C d_M_readsLeg_119 ki_1 rfl ?_
          refine q_goto (tgt := 124) C d_M_readsLeg_120 rfl ?_
          exact Rt.sub [1] rfl (hJ13 (1 : Int32))
      refine Rt.sub [1, 0] rfl (q_lp (fun a16 : Int32 × St => [(0, .ref (g.1 0)), (2, .int a16.1)]) (fun a16 => []) (fun a16 => a16.2) (fun ih17 hih17 a16 => ?_) 4000 (x8.1, x8.2))
      unfold lb_m_readsLeg_91
      refine q_iload_n (pc' := 92) C 1 d_M_readsLeg_91 rfl rfl ?_
      refine q_if_eq (tgt := 110) (pc' := 95) C d_M_readsLeg_92 rfl rfl ?_ ?_
      · exact Rt.sub [0, 1] rfl (hJ11 a16.1 a16.2)
      · refine q_aload_n (pc' := 96) C 0 d_M_readsLeg_95 rfl rfl ?_
        refine q_callVr (fr' := 1) (lo' := 21) (pc' := 99) C FM_isAttribute lmM_441 d_M_readsLeg_96 0 jM_0 kM_0 cM0 [] [] rfl rfl (Nat.le_of_ble_eq_true rfl) ⟨rfl, rfl⟩ (fun x h => cM_isAttribute _ g hi a16.2 x h) rfl (fun x18 _ => ?_)
        refine q_if_eq (tgt := 110) (pc' := 102) C d_M_readsLeg_99 rfl rfl ?_ ?_
        · exact Rt.sub [0, 1] rfl (hJ11 a16.1 a16.2)
        · refine q_aload_n (pc' := 103) C 0 d_M_readsLeg_102 rfl rfl ?_
          refine q_callVw (fr' := 5) (lo' := 113) (pc' := 106) C FM_readsAttribute lmM_444 d_M_readsLeg_103 0 jM_0 kM_0 cM0 [] [] rfl rfl (Nat.le_of_ble_eq_true rfl) ⟨rfl, rfl⟩ (fun x h => cM_readsAttribute _ g hi a16.2 x h) rfl (fun x19 _ => ?_)
          refine q_istore_n (pc' := 107) (lv' := [(2, .int x19.1), (0, .ref (g.1 0))]) C d_M_readsLeg_106 (by decide) rfl rfl ?_
          refine q_goto (tgt := 91) C d_M_readsLeg_107 rfl ?_
          exact Rt.sub [1, 0] rfl (hih17 (x19.1, x19.2))
    refine Rt.sub [2, 1, 0] rfl (q_lp (fun a20 : Int32 × St => [(0, .ref (g.1 0)), (1, .int x1), (2, .int a20.1)]) (fun a20 => []) (fun a20 => a20.2) (fun ih21 hih21 a20 => ?_) 4000 ((0 : Int32), σ))
    unfold lb_m_readsLeg_13
    refine q_iload_n (pc' := 14) C 2 d_M_readsLeg_13 rfl rfl ?_
    refine q_bipush (pc' := 16) C d_M_readsLeg_14 kb_14 rfl ?_
    refine q_icmp_ge (tgt := 40) (pc' := 19) C d_M_readsLeg_16 rfl rfl ?_ ?_
    · exact Rt.sub [0, 1] rfl (hJ3 a20.2)
    · refine q_aload_n (pc' := 20) C 0 d_M_readsLeg_19 rfl rfl ?_
      refine gM_153 (pc' := 23) C d_M_readsLeg_20 rfl rfl ?_
      refine q_bipush (pc' := 25) C d_M_readsLeg_23 kb_14 rfl ?_
      refine q_aload_n (pc' := 26) C 0 d_M_readsLeg_25 rfl rfl ?_
      refine gM_411 (pc' := 29) C d_M_readsLeg_26 rfl rfl ?_
      refine q_imul (pc' := 30) C d_M_readsLeg_29 rfl ?_
      refine q_iload_n (pc' := 31) C 2 d_M_readsLeg_30 rfl rfl ?_
      refine q_iadd (pc' := 32) C d_M_readsLeg_31 rfl ?_
      refine q_iconst (pc' := 33) C d_M_readsLeg_32 ki_0 rfl ?_
      refine q_iast (pc' := 34) C 43 jM_43 kM_43 d_M_readsLeg_33 rfl ?_
      refine q_let (fun σ22 e22 => ?_)
      refine q_state e22 ?_
      refine q_let (fun x23 e23 => ?_)
      refine q_iinc (pc' := 37) (lv' := [(2, .int x23), (0, .ref (g.1 0)), (1, .int x1)]) C 2 d_M_readsLeg_34 rfl (by rw [e23, ki_1]) (by decide) rfl rfl ?_
      refine q_goto (tgt := 13) C d_M_readsLeg_37 rfl ?_
      exact Rt.sub [1, 2, 0] rfl (hih21 (x23, σ22))
  · refine q_iconst (pc' := 10) C d_M_readsLeg_9 ki_0 rfl ?_
    exact q_zret C rfl (by decide) d_M_readsLeg_10 rfl
