/-! the methods of the program, 6 -/
theorem d_Rx_nextToken_0 : decode qC_Rx_nextToken.1 0 = .ok (.aload_n 0, 1) := by decide +kernel
theorem d_Rx_nextToken_1 : decode qC_Rx_nextToken.1 1 = .ok (.aload_n 0, 1) := by decide +kernel
theorem d_Rx_nextToken_2 : decode qC_Rx_nextToken.1 2 = .ok (.getfield 39, 3) := by decide +kernel
theorem d_Rx_nextToken_5 : decode qC_Rx_nextToken.1 5 = .ok (.putfield 36, 3) := by decide +kernel
theorem d_Rx_nextToken_8 : decode qC_Rx_nextToken.1 8 = .ok (.aload_n 0, 1) := by decide +kernel
theorem d_Rx_nextToken_9 : decode qC_Rx_nextToken.1 9 = .ok (.getfield 36, 3) := by decide +kernel
theorem d_Rx_nextToken_12 : decode qC_Rx_nextToken.1 12 = .ok (.aload_n 0, 1) := by decide +kernel
theorem d_Rx_nextToken_13 : decode qC_Rx_nextToken.1 13 = .ok (.getfield 26, 3) := by decide +kernel
theorem d_Rx_nextToken_16 : decode qC_Rx_nextToken.1 16 = .ok (.if_icmp .ge 29, 3) := by decide +kernel
theorem d_Rx_nextToken_19 : decode qC_Rx_nextToken.1 19 = .ok (.aload_n 0, 1) := by decide +kernel
theorem d_Rx_nextToken_20 : decode qC_Rx_nextToken.1 20 = .ok (.aload_n 0, 1) := by decide +kernel
theorem d_Rx_nextToken_21 : decode qC_Rx_nextToken.1 21 = .ok (.getfield 36, 3) := by decide +kernel
theorem d_Rx_nextToken_24 : decode qC_Rx_nextToken.1 24 = .ok (.invokevirtual 57, 3) := by decide +kernel
theorem d_Rx_nextToken_27 : decode qC_Rx_nextToken.1 27 = .ok (.bipush 32, 2) := by decide +kernel
theorem d_Rx_nextToken_29 : decode qC_Rx_nextToken.1 29 = .ok (.if_icmp .ne 16, 3) := by decide +kernel
theorem d_Rx_nextToken_32 : decode qC_Rx_nextToken.1 32 = .ok (.aload_n 0, 1) := by decide +kernel
theorem d_Rx_nextToken_33 : decode qC_Rx_nextToken.1 33 = .ok (.dup, 1) := by decide +kernel
theorem d_Rx_nextToken_34 : decode qC_Rx_nextToken.1 34 = .ok (.getfield 36, 3) := by decide +kernel
theorem d_Rx_nextToken_37 : decode qC_Rx_nextToken.1 37 = .ok (.iconst 1, 1) := by decide +kernel
theorem d_Rx_nextToken_38 : decode qC_Rx_nextToken.1 38 = .ok (.iadd, 1) := by decide +kernel
theorem d_Rx_nextToken_39 : decode qC_Rx_nextToken.1 39 = .ok (.putfield 36, 3) := by decide +kernel
theorem d_Rx_nextToken_42 : decode qC_Rx_nextToken.1 42 = .ok (.goto (-34), 3) := by decide +kernel
theorem d_Rx_nextToken_45 : decode qC_Rx_nextToken.1 45 = .ok (.aload_n 0, 1) := by decide +kernel
theorem d_Rx_nextToken_46 : decode qC_Rx_nextToken.1 46 = .ok (.aload_n 0, 1) := by decide +kernel
theorem d_Rx_nextToken_47 : decode qC_Rx_nextToken.1 47 = .ok (.aload_n 0, 1) := by decide +kernel
theorem d_Rx_nextToken_48 : decode qC_Rx_nextToken.1 48 = .ok (.getfield 36, 3) := by decide +kernel
theorem d_Rx_nextToken_51 : decode qC_Rx_nextToken.1 51 = .ok (.invokevirtual 57, 3) := by decide +kernel
theorem d_Rx_nextToken_54 : decode qC_Rx_nextToken.1 54 = .ok (.invokestatic 61, 3) := by decide +kernel
theorem d_Rx_nextToken_57 : decode qC_Rx_nextToken.1 57 = .ok (.putfield 33, 3) := by decide +kernel
theorem d_Rx_nextToken_60 : decode qC_Rx_nextToken.1 60 = .ok (.aload_n 0, 1) := by decide +kernel
theorem d_Rx_nextToken_61 : decode qC_Rx_nextToken.1 61 = .ok (.aload_n 0, 1) := by decide +kernel
theorem d_Rx_nextToken_62 : decode qC_Rx_nextToken.1 62 = .ok (.getfield 33, 3) := by decide +kernel
theorem d_Rx_nextToken_65 : decode qC_Rx_nextToken.1 65 = .ok (.ifCond .ne 10, 3) := by decide +kernel
theorem d_Rx_nextToken_68 : decode qC_Rx_nextToken.1 68 = .ok (.aload_n 0, 1) := by decide +kernel
theorem d_Rx_nextToken_69 : decode qC_Rx_nextToken.1 69 = .ok (.getfield 36, 3) := by decide +kernel
theorem d_Rx_nextToken_72 : decode qC_Rx_nextToken.1 72 = .ok (.goto 9, 3) := by decide +kernel
theorem d_Rx_nextToken_75 : decode qC_Rx_nextToken.1 75 = .ok (.aload_n 0, 1) := by decide +kernel
theorem d_Rx_nextToken_76 : decode qC_Rx_nextToken.1 76 = .ok (.getfield 36, 3) := by decide +kernel
theorem d_Rx_nextToken_79 : decode qC_Rx_nextToken.1 79 = .ok (.iconst 1, 1) := by decide +kernel
theorem d_Rx_nextToken_80 : decode qC_Rx_nextToken.1 80 = .ok (.iadd, 1) := by decide +kernel
theorem d_Rx_nextToken_81 : decode qC_Rx_nextToken.1 81 = .ok (.putfield 39, 3) := by decide +kernel
theorem d_Rx_nextToken_84 : decode qC_Rx_nextToken.1 84 = .ok (.aload_n 0, 1) := by decide +kernel
theorem d_Rx_nextToken_85 : decode qC_Rx_nextToken.1 85 = .ok (.getfield 33, 3) := by decide +kernel
theorem d_Rx_nextToken_88 : decode qC_Rx_nextToken.1 88 = .ok (.iconst 1, 1) := by decide +kernel
theorem d_Rx_nextToken_89 : decode qC_Rx_nextToken.1 89 = .ok (.if_icmp .eq 11, 3) := by decide +kernel
theorem d_Rx_nextToken_92 : decode qC_Rx_nextToken.1 92 = .ok (.aload_n 0, 1) := by decide +kernel
theorem d_Rx_nextToken_93 : decode qC_Rx_nextToken.1 93 = .ok (.getfield 33, 3) := by decide +kernel
theorem d_Rx_nextToken_96 : decode qC_Rx_nextToken.1 96 = .ok (.iconst 2, 1) := by decide +kernel
theorem d_Rx_nextToken_97 : decode qC_Rx_nextToken.1 97 = .ok (.if_icmp .ne 45, 3) := by decide +kernel
theorem d_Rx_nextToken_100 : decode qC_Rx_nextToken.1 100 = .ok (.aload_n 0, 1) := by decide +kernel
theorem d_Rx_nextToken_101 : decode qC_Rx_nextToken.1 101 = .ok (.getfield 39, 3) := by decide +kernel
theorem d_Rx_nextToken_104 : decode qC_Rx_nextToken.1 104 = .ok (.aload_n 0, 1) := by decide +kernel
theorem d_Rx_nextToken_105 : decode qC_Rx_nextToken.1 105 = .ok (.getfield 26, 3) := by decide +kernel
theorem d_Rx_nextToken_108 : decode qC_Rx_nextToken.1 108 = .ok (.if_icmp .ge 34, 3) := by decide +kernel
theorem d_Rx_nextToken_111 : decode qC_Rx_nextToken.1 111 = .ok (.aload_n 0, 1) := by decide +kernel
theorem d_Rx_nextToken_112 : decode qC_Rx_nextToken.1 112 = .ok (.aload_n 0, 1) := by decide +kernel
theorem d_Rx_nextToken_113 : decode qC_Rx_nextToken.1 113 = .ok (.getfield 39, 3) := by decide +kernel
theorem d_Rx_nextToken_116 : decode qC_Rx_nextToken.1 116 = .ok (.invokevirtual 57, 3) := by decide +kernel
theorem d_Rx_nextToken_119 : decode qC_Rx_nextToken.1 119 = .ok (.invokestatic 61, 3) := by decide +kernel
theorem d_Rx_nextToken_122 : decode qC_Rx_nextToken.1 122 = .ok (.aload_n 0, 1) := by decide +kernel
theorem d_Rx_nextToken_123 : decode qC_Rx_nextToken.1 123 = .ok (.getfield 33, 3) := by decide +kernel
theorem d_Rx_nextToken_126 : decode qC_Rx_nextToken.1 126 = .ok (.if_icmp .ne 16, 3) := by decide +kernel
theorem d_Rx_nextToken_129 : decode qC_Rx_nextToken.1 129 = .ok (.aload_n 0, 1) := by decide +kernel
theorem d_Rx_nextToken_130 : decode qC_Rx_nextToken.1 130 = .ok (.dup, 1) := by decide +kernel
theorem d_Rx_nextToken_131 : decode qC_Rx_nextToken.1 131 = .ok (.getfield 39, 3) := by decide +kernel
theorem d_Rx_nextToken_134 : decode qC_Rx_nextToken.1 134 = .ok (.iconst 1, 1) := by decide +kernel
theorem d_Rx_nextToken_135 : decode qC_Rx_nextToken.1 135 = .ok (.iadd, 1) := by decide +kernel
theorem d_Rx_nextToken_136 : decode qC_Rx_nextToken.1 136 = .ok (.putfield 39, 3) := by decide +kernel
theorem d_Rx_nextToken_139 : decode qC_Rx_nextToken.1 139 = .ok (.goto (-39), 3) := by decide +kernel
theorem d_Rx_nextToken_142 : decode qC_Rx_nextToken.1 142 = .ok (.return_, 1) := by decide +kernel
set_option maxRecDepth 100000 in
def lb_f_Rx_nextToken_100 (o : Nat) (J11 : St → Option (St)) (ih14 : St → Option (St)) (a13 : St) : Option (St) :=
  if ((a13 o 3) : Int32) ≤ (a13 o 7) then (
  J11 a13
  ) else (
  Option.bind (f_Rx_byteAt a13 o (a13 o 7)) fun x15 =>
  Option.bind (f_Rx_classOf x15) fun x16 =>
  if (x16 : Int32) = (a13 o 5) then (
  Lt (s2 a13 o 7 ((a13 o 7) + (1 : Int32))) fun σ17 =>
  ih14 σ17
  ) else (
  J11 a13
  )
  )
set_option maxRecDepth 100000 in
def lb_f_Rx_nextToken_8 (o : Nat) (J3 : St → Option (St)) (ih19 : St → Option (St)) (a18 : St) : Option (St) :=
  if ((a18 o 3) : Int32) ≤ (a18 o 6) then (
  J3 a18
  ) else (
  Option.bind (f_Rx_byteAt a18 o (a18 o 6)) fun x20 =>
  if (x20 : Int32) = (32 : Int32) then (
  Lt (s2 a18 o 6 ((a18 o 6) + (1 : Int32))) fun σ21 =>
  ih19 σ21
  ) else (
  J3 a18
  )
  )
set_option maxRecDepth 100000 in
def f_Rx_nextToken (σ : St) (o : Nat) : Option (St) :=
  Lt (s2 σ o 6 (σ o 7)) fun σ1 =>
  Jn (fun (σ2 : St) =>
  Option.bind (f_Rx_byteAt σ2 o (σ2 o 6)) fun x4 =>
  Option.bind (f_Rx_classOf x4) fun x5 =>
  Lt (s2 σ2 o 5 x5) fun σ6 =>
  Jn (fun (x7 : Int32) =>
  Lt (s2 σ6 o 7 x7) fun σ9 =>
  Jn (fun (σ10 : St) =>
  some σ10
  ) fun J11 =>
  Jn (fun (_ : Unit) =>
  lp (lb_f_Rx_nextToken_100 o J11) 4000 σ9
  ) fun J12 =>
  if ((σ9 o 5) : Int32) = (1 : Int32) then (
  J12 ()
  ) else (
  if ((σ9 o 5) : Int32) = (2 : Int32) then (
  J12 ()
  ) else (
  J11 σ9
  )
  )
  ) fun J8 =>
  if ((σ6 o 5) : Int32) = 0 then (
  J8 (σ6 o 6)
  ) else (
  J8 ((σ6 o 6) + (1 : Int32))
  )
  ) fun J3 =>
  lp (lb_f_Rx_nextToken_8 o J3) 4000 σ1
set_option maxHeartbeats 4000000 in
set_option maxRecDepth 100000 in
theorem cC_Rx_nextToken (l : Launch) (g : Ge) (hi : injB wC.2 g) (σ : St) (o : Nat) (ho : wC.2.2.1 o = .inr (6, 8)) (x : St) (h : f_Rx_nextToken σ o = some x) : Ct l wC g yC_Rx_nextToken qC_Rx_nextToken 1 21 [.ref (g.1 o)] σ (none, x) := by
  refine Ct.of (out := o_v) FC_Rx_nextToken rfl hi rfl h (fun z hz C => ?_)
  clear h
  subst hz
  unfold f_Rx_nextToken
  show Rt z qC_Rx_nextToken wC g o_v 0 [(0, .ref (g.1 o))] [] σ _
  refine q_aload_n (pc' := 1) C 0 d_Rx_nextToken_0 rfl rfl ?_
  refine q_aload_n (pc' := 2) C 0 d_Rx_nextToken_1 rfl rfl ?_
  refine gC_Rx_39 (pc' := 5) C o ho d_Rx_nextToken_2 rfl rfl ?_
  refine pC_Rx_36 (pc' := 8) C o ho d_Rx_nextToken_5 rfl rfl ?_
  refine q_let (fun σ1 e1 => ?_)
  refine q_state e1 ?_
  refine q_join (fun J3 : St → Option (St) => ∀ (σ2 : St), Rt z qC_Rx_nextToken wC g o_v 45 [(0, .ref (g.1 o))] [] σ2 (J3 σ2)) (fun σ2 => ?_) (fun J3 hJ3 => ?_)
  · refine q_aload_n (pc' := 46) C 0 d_Rx_nextToken_45 rfl rfl ?_
    refine q_aload_n (pc' := 47) C 0 d_Rx_nextToken_46 rfl rfl ?_
    refine q_aload_n (pc' := 48) C 0 d_Rx_nextToken_47 rfl rfl ?_
    refine gC_Rx_36 (pc' := 51) C o ho d_Rx_nextToken_48 rfl rfl ?_
    refine q_callVr (fr' := 0) (lo' := 0) (pc' := 54) C FC_Rx_byteAt lmC_Rx_57 d_Rx_nextToken_51 o (jCo ho) ho cC_6 [.int (σ2 o 6)] [.ref (g.1 o)] rfl rfl (Nat.le_of_ble_eq_true rfl) ⟨rfl, rfl⟩ (fun x h => cC_Rx_byteAt _ g hi σ2 o ho (σ2 o 6) x h) rfl (fun x4 hx4 => ?_)
    refine q_callSr (fr' := 0) (lo' := 0) (pc' := 57) C FC_Rx_classOf lmC_Rx_61 d_Rx_nextToken_54 [.int x4] [.ref (g.1 o)] rfl rfl (Nat.le_of_ble_eq_true rfl) ⟨rfl, rfl⟩ (fun x h => cC_Rx_classOf _ g hi σ2 x4 x h) rfl (fun x5 hx5 => ?_)
    refine pC_Rx_33 (pc' := 60) C o ho d_Rx_nextToken_57 rfl rfl ?_
    refine q_let (fun σ6 e6 => ?_)
    refine q_state e6 ?_
    refine q_aload_n (pc' := 61) C 0 d_Rx_nextToken_60 rfl rfl ?_
    refine q_aload_n (pc' := 62) C 0 d_Rx_nextToken_61 rfl rfl ?_
    refine gC_Rx_33 (pc' := 65) C o ho d_Rx_nextToken_62 rfl rfl ?_
    refine q_join (fun J8 : Int32 → Option (St) => ∀ (x7 : Int32), Rt z qC_Rx_nextToken wC g o_v 81 [(0, .ref (g.1 o))] [.int x7, .ref (g.1 o)] σ6 (J8 x7)) (fun x7 => ?_) (fun J8 hJ8 => ?_)
    · refine pC_Rx_39 (pc' := 84) C o ho d_Rx_nextToken_81 rfl rfl ?_
      refine q_let (fun σ9 e9 => ?_)
      refine q_state e9 ?_
      refine q_aload_n (pc' := 85) C 0 d_Rx_nextToken_84 rfl rfl ?_
      refine gC_Rx_33 (pc' := 88) C o ho d_Rx_nextToken_85 rfl rfl ?_
      refine q_iconst (pc' := 89) C d_Rx_nextToken_88 ki_1 rfl ?_
      refine q_join (fun J11 : St → Option (St) => ∀ (σ10 : St), Rt z qC_Rx_nextToken wC g o_v 142 [] [] σ10 (J11 σ10)) (fun σ10 => ?_) (fun J11 hJ11 => ?_)
      · exact q_vret C rfl d_Rx_nextToken_142 rfl
      refine q_join (fun J12 : Unit → Option (St) => ∀ (_ : Unit), Rt z qC_Rx_nextToken wC g o_v 100 [(0, .ref (g.1 o))] [] σ9 (J12 ())) (fun _ => ?_) (fun J12 hJ12 => ?_)
      · refine Rt.sub [0] rfl (q_lp (fun a13 : St => [(0, .ref (g.1 o))]) (fun a13 => []) (fun a13 => a13) (fun ih14 hih14 a13 => ?_) 4000 σ9)
        unfold lb_f_Rx_nextToken_100
        refine q_aload_n (pc' := 101) C 0 d_Rx_nextToken_100 rfl rfl ?_
        refine gC_Rx_39 (pc' := 104) C o ho d_Rx_nextToken_101 rfl rfl ?_
        refine q_aload_n (pc' := 105) C 0 d_Rx_nextToken_104 rfl rfl ?_
        refine gC_Rx_26 (pc' := 108) C o ho d_Rx_nextToken_105 rfl rfl ?_
        refine q_icmp_ge (tgt := 142) (pc' := 111) C d_Rx_nextToken_108 rfl rfl ?_ ?_
        · exact Rt.sub [] rfl (hJ11 a13)
        · refine q_aload_n (pc' := 112) C 0 d_Rx_nextToken_111 rfl rfl ?_
          refine q_aload_n (pc' := 113) C 0 d_Rx_nextToken_112 rfl rfl ?_
          refine gC_Rx_39 (pc' := 116) C o ho d_Rx_nextToken_113 rfl rfl ?_
          refine q_callVr (fr' := 0) (lo' := 0) (pc' := 119) C FC_Rx_byteAt lmC_Rx_57 d_Rx_nextToken_116 o (jCo ho) ho cC_6 [.int (a13 o 7)] [] rfl rfl (Nat.le_of_ble_eq_true rfl) ⟨rfl, rfl⟩ (fun x h => cC_Rx_byteAt _ g hi a13 o ho (a13 o 7) x h) rfl (fun x15 hx15 => ?_)
          refine q_callSr (fr' := 0) (lo' := 0) (pc' := 122) C FC_Rx_classOf lmC_Rx_61 d_Rx_nextToken_119 [.int x15] [] rfl rfl (Nat.le_of_ble_eq_true rfl) ⟨rfl, rfl⟩ (fun x h => cC_Rx_classOf _ g hi a13 x15 x h) rfl (fun x16 hx16 => ?_)
          refine q_aload_n (pc' := 123) C 0 d_Rx_nextToken_122 rfl rfl ?_
          refine gC_Rx_33 (pc' := 126) C o ho d_Rx_nextToken_123 rfl rfl ?_
          refine q_icmp_ne (tgt := 142) (pc' := 129) C d_Rx_nextToken_126 rfl rfl ?_ ?_
          · exact Rt.sub [] rfl (hJ11 a13)
          · refine q_aload_n (pc' := 130) C 0 d_Rx_nextToken_129 rfl rfl ?_
            refine q_dup (pc' := 131) C d_Rx_nextToken_130 rfl rfl ?_
            refine gC_Rx_39 (pc' := 134) C o ho d_Rx_nextToken_131 rfl rfl ?_
            refine q_iconst (pc' := 135) C d_Rx_nextToken_134 ki_1 rfl ?_
            refine q_iadd (pc' := 136) C d_Rx_nextToken_135 rfl ?_
            refine pC_Rx_39 (pc' := 139) C o ho d_Rx_nextToken_136 rfl rfl ?_
            refine q_let (fun σ17 e17 => ?_)
            refine q_state e17 ?_
            refine q_goto (tgt := 100) C d_Rx_nextToken_139 rfl ?_
            exact Rt.sub [0] rfl (hih14 σ17)
      refine q_icmp_eq (tgt := 100) (pc' := 92) C d_Rx_nextToken_89 rfl rfl ?_ ?_
      · exact Rt.sub [0] rfl (hJ12 ())
      · refine q_aload_n (pc' := 93) C 0 d_Rx_nextToken_92 rfl rfl ?_
        refine gC_Rx_33 (pc' := 96) C o ho d_Rx_nextToken_93 rfl rfl ?_
        refine q_iconst (pc' := 97) C d_Rx_nextToken_96 ki_2 rfl ?_
        refine q_icmp_ne (tgt := 142) (pc' := 100) C d_Rx_nextToken_97 rfl rfl ?_ ?_
        · exact Rt.sub [] rfl (hJ11 σ9)
        · exact Rt.sub [0] rfl (hJ12 ())
    refine q_if_ne (tgt := 75) (pc' := 68) C d_Rx_nextToken_65 rfl rfl ?_ ?_
    · refine q_aload_n (pc' := 76) C 0 d_Rx_nextToken_75 rfl rfl ?_
      refine gC_Rx_36 (pc' := 79) C o ho d_Rx_nextToken_76 rfl rfl ?_
      refine q_iconst (pc' := 80) C d_Rx_nextToken_79 ki_1 rfl ?_
      refine q_iadd (pc' := 81) C d_Rx_nextToken_80 rfl ?_
      exact Rt.sub [0] rfl (hJ8 ((σ6 o 6) + (1 : Int32)))
    · refine q_aload_n (pc' := 69) C 0 d_Rx_nextToken_68 rfl rfl ?_
      refine gC_Rx_36 (pc' := 72) C o ho d_Rx_nextToken_69 rfl rfl ?_
      refine q_goto (tgt := 81) C d_Rx_nextToken_72 rfl ?_
      exact Rt.sub [0] rfl (hJ8 (σ6 o 6))
  refine Rt.sub [0] rfl (q_lp (fun a18 : St => [(0, .ref (g.1 o))]) (fun a18 => []) (fun a18 => a18) (fun ih19 hih19 a18 => ?_) 4000 σ1)
  unfold lb_f_Rx_nextToken_8
  refine q_aload_n (pc' := 9) C 0 d_Rx_nextToken_8 rfl rfl ?_
  refine gC_Rx_36 (pc' := 12) C o ho d_Rx_nextToken_9 rfl rfl ?_
  refine q_aload_n (pc' := 13) C 0 d_Rx_nextToken_12 rfl rfl ?_
  refine gC_Rx_26 (pc' := 16) C o ho d_Rx_nextToken_13 rfl rfl ?_
  refine q_icmp_ge (tgt := 45) (pc' := 19) C d_Rx_nextToken_16 rfl rfl ?_ ?_
  · exact Rt.sub [0] rfl (hJ3 a18)
  · refine q_aload_n (pc' := 20) C 0 d_Rx_nextToken_19 rfl rfl ?_
    refine q_aload_n (pc' := 21) C 0 d_Rx_nextToken_20 rfl rfl ?_
    refine gC_Rx_36 (pc' := 24) C o ho d_Rx_nextToken_21 rfl rfl ?_
    refine q_callVr (fr' := 0) (lo' := 0) (pc' := 27) C FC_Rx_byteAt lmC_Rx_57 d_Rx_nextToken_24 o (jCo ho) ho cC_6 [.int (a18 o 6)] [] rfl rfl (Nat.le_of_ble_eq_true rfl) ⟨rfl, rfl⟩ (fun x h => cC_Rx_byteAt _ g hi a18 o ho (a18 o 6) x h) rfl (fun x20 hx20 => ?_)
    refine q_bipush (pc' := 29) C d_Rx_nextToken_27 kb_32 rfl ?_
    refine q_icmp_ne (tgt := 45) (pc' := 32) C d_Rx_nextToken_29 rfl rfl ?_ ?_
    · exact Rt.sub [0] rfl (hJ3 a18)
    · refine q_aload_n (pc' := 33) C 0 d_Rx_nextToken_32 rfl rfl ?_
      refine q_dup (pc' := 34) C d_Rx_nextToken_33 rfl rfl ?_
      refine gC_Rx_36 (pc' := 37) C o ho d_Rx_nextToken_34 rfl rfl ?_
      refine q_iconst (pc' := 38) C d_Rx_nextToken_37 ki_1 rfl ?_
      refine q_iadd (pc' := 39) C d_Rx_nextToken_38 rfl ?_
      refine pC_Rx_36 (pc' := 42) C o ho d_Rx_nextToken_39 rfl rfl ?_
      refine q_let (fun σ21 e21 => ?_)
      refine q_state e21 ?_
      refine q_goto (tgt := 8) C d_Rx_nextToken_42 rfl ?_
      exact Rt.sub [0] rfl (hih19 σ21)
theorem d_Rx_tokenLength_0 : decode qC_Rx_tokenLength.1 0 = .ok (.aload_n 0, 1) := by decide +kernel
theorem d_Rx_tokenLength_1 : decode qC_Rx_tokenLength.1 1 = .ok (.getfield 39, 3) := by decide +kernel
theorem d_Rx_tokenLength_4 : decode qC_Rx_tokenLength.1 4 = .ok (.aload_n 0, 1) := by decide +kernel
theorem d_Rx_tokenLength_5 : decode qC_Rx_tokenLength.1 5 = .ok (.getfield 36, 3) := by decide +kernel
theorem d_Rx_tokenLength_8 : decode qC_Rx_tokenLength.1 8 = .ok (.isub, 1) := by decide +kernel
theorem d_Rx_tokenLength_9 : decode qC_Rx_tokenLength.1 9 = .ok (.ireturn, 1) := by decide +kernel
set_option maxRecDepth 100000 in
def f_Rx_tokenLength (σ : St) (o : Nat) : Option (Int32) :=
  some ((σ o 7) - (σ o 6))
set_option maxHeartbeats 4000000 in
set_option maxRecDepth 100000 in
theorem cC_Rx_tokenLength (l : Launch) (g : Ge) (hi : injB wC.2 g) (σ : St) (o : Nat) (ho : wC.2.2.1 o = .inr (6, 8)) (x : Int32) (h : f_Rx_tokenLength σ o = some x) : Ct l wC g yC_Rx_tokenLength qC_Rx_tokenLength 0 0 [.ref (g.1 o)] σ (some (.int x), σ) := by
  refine Ct.of (out := (o_r σ)) FC_Rx_tokenLength rfl hi rfl h (fun z hz C => ?_)
  clear h
  subst hz
  unfold f_Rx_tokenLength
  show Rt z qC_Rx_tokenLength wC g (o_r σ) 0 [(0, .ref (g.1 o))] [] σ _
  refine q_aload_n (pc' := 1) C 0 d_Rx_tokenLength_0 rfl rfl ?_
  refine gC_Rx_39 (pc' := 4) C o ho d_Rx_tokenLength_1 rfl rfl ?_
  refine q_aload_n (pc' := 5) C 0 d_Rx_tokenLength_4 rfl rfl ?_
  refine gC_Rx_36 (pc' := 8) C o ho d_Rx_tokenLength_5 rfl rfl ?_
  refine q_isub (pc' := 9) C d_Rx_tokenLength_8 rfl ?_
  exact q_iret C rfl d_Rx_tokenLength_9 rfl
theorem d_Sn_coder_0 : decode qC_Sn_coder.1 0 = .ok (.getstatic 38, 3) := by decide +kernel
theorem d_Sn_coder_3 : decode qC_Sn_coder.1 3 = .ok (.ifCond .eq 10, 3) := by decide +kernel
theorem d_Sn_coder_6 : decode qC_Sn_coder.1 6 = .ok (.aload_n 0, 1) := by decide +kernel
theorem d_Sn_coder_7 : decode qC_Sn_coder.1 7 = .ok (.getfield 15, 3) := by decide +kernel
theorem d_Sn_coder_10 : decode qC_Sn_coder.1 10 = .ok (.goto 4, 3) := by decide +kernel
theorem d_Sn_coder_13 : decode qC_Sn_coder.1 13 = .ok (.iconst 1, 1) := by decide +kernel
theorem d_Sn_coder_14 : decode qC_Sn_coder.1 14 = .ok (.ireturn, 1) := by decide +kernel
set_option maxRecDepth 100000 in
def f_Sn_coder (σ : St) : Option (Int32) :=
  Jn (fun (x1 : Int32) =>
  Gd (narrow .byte (.int x1) = .int x1) <|
  some x1
  ) fun J2 =>
  if ((1 : Int32) : Int32) = 0 then (
  J2 (1 : Int32)
  ) else (
  J2 (0 : Int32)
  )
set_option maxHeartbeats 4000000 in
set_option maxRecDepth 100000 in
theorem cC_Sn_coder (l : Launch) (g : Ge) (hi : injB wC.2 g) (σ : St) (x : Int32) (h : f_Sn_coder σ = some x) : Ct l wC g yC_Sn_coder qC_Sn_coder 0 0 [.ref (g.2.2.2.1 2)] σ (some (.int x), σ) := by
  refine Ct.of (out := (o_r σ)) FC_Sn_coder rfl hi rfl h (fun z hz C => ?_)
  clear h
  subst hz
  unfold f_Sn_coder
  show Rt z qC_Sn_coder wC g (o_r σ) 0 [(0, .ref (g.2.2.2.1 2))] [] σ _
  refine q_gcmp (pc' := 3) C rfl lfC_Sn_38 d_Sn_coder_0 rfl ?_
  refine q_join (fun J2 : Int32 → Option (Int32) => ∀ (x1 : Int32), Rt z qC_Sn_coder wC g (o_r σ) 14 [] [.int x1] σ (J2 x1)) (fun x1 => ?_) (fun J2 hJ2 => ?_)
  · refine q_guard (fun gx3 => ?_)
    exact q_nret C rfl gx3 d_Sn_coder_14 rfl
  refine q_if_eq (tgt := 13) (pc' := 6) C d_Sn_coder_3 rfl rfl ?_ ?_
  · refine q_iconst (pc' := 14) C d_Sn_coder_13 ki_1 rfl ?_
    exact Rt.sub [] rfl (hJ2 (1 : Int32))
  · refine q_aload_n (pc' := 7) C 0 d_Sn_coder_6 rfl rfl ?_
    refine q_scoder (pc' := 10) C rfl lfC_Sn_15 d_Sn_coder_7 rfl ?_
    refine q_goto (tgt := 14) C d_Sn_coder_10 rfl ?_
    exact Rt.sub [] rfl (hJ2 (0 : Int32))
theorem d_Sn_length_0 : decode qC_Sn_length.1 0 = .ok (.aload_n 0, 1) := by decide +kernel
theorem d_Sn_length_1 : decode qC_Sn_length.1 1 = .ok (.getfield 9, 3) := by decide +kernel
theorem d_Sn_length_4 : decode qC_Sn_length.1 4 = .ok (.arraylength, 1) := by decide +kernel
theorem d_Sn_length_5 : decode qC_Sn_length.1 5 = .ok (.aload_n 0, 1) := by decide +kernel
theorem d_Sn_length_6 : decode qC_Sn_length.1 6 = .ok (.invokevirtual 335, 3) := by decide +kernel
theorem d_Sn_length_9 : decode qC_Sn_length.1 9 = .ok (.ishr, 1) := by decide +kernel
theorem d_Sn_length_10 : decode qC_Sn_length.1 10 = .ok (.ireturn, 1) := by decide +kernel
set_option maxRecDepth 100000 in
def f_Sn_length (σ : St) : Option (Int32) :=
  Option.bind (f_Sn_coder σ) fun x1 =>
  some ((16 : Int32) >>> (x1 &&& 31))
set_option maxHeartbeats 4000000 in
set_option maxRecDepth 100000 in
theorem cC_Sn_length (l : Launch) (g : Ge) (hi : injB wC.2 g) (σ : St) (x : Int32) (h : f_Sn_length σ = some x) : Ct l wC g yC_Sn_length qC_Sn_length 1 20 [.ref (g.2.2.2.1 2)] σ (some (.int x), σ) := by
  refine Ct.of (out := (o_r σ)) FC_Sn_length rfl hi rfl h (fun z hz C => ?_)
  clear h
  subst hz
  unfold f_Sn_length
  show Rt z qC_Sn_length wC g (o_r σ) 0 [(0, .ref (g.2.2.2.1 2))] [] σ _
  refine q_aload_n (pc' := 1) C 0 d_Sn_length_0 rfl rfl ?_
  refine q_svalue (pc' := 4) C rfl lfC_Sn_9 d_Sn_length_1 rfl ?_
  refine q_nbytes (pc' := 5) C rfl d_Sn_length_4 rfl ?_
  refine q_aload_n (pc' := 6) C 0 d_Sn_length_5 rfl rfl ?_
  refine q_callVSr (fr' := 0) (lo' := 0) (pc' := 9) C rfl FC_Sn_coder rfl lmC_Sn_335 d_Sn_length_6 [] [.int (16 : Int32)] rfl rfl (Nat.le_of_ble_eq_true rfl) ⟨rfl, rfl⟩ (fun x h => cC_Sn_coder _ g hi σ x h) rfl (fun x1 hx1 => ?_)
  refine q_ishr (pc' := 10) C d_Sn_length_9 rfl ?_
  exact q_iret C rfl d_Sn_length_10 rfl
theorem d_Sn_isLatin1_0 : decode qC_Sn_isLatin1.1 0 = .ok (.getstatic 38, 3) := by decide +kernel
theorem d_Sn_isLatin1_3 : decode qC_Sn_isLatin1.1 3 = .ok (.ifCond .eq 14, 3) := by decide +kernel
theorem d_Sn_isLatin1_6 : decode qC_Sn_isLatin1.1 6 = .ok (.aload_n 0, 1) := by decide +kernel
theorem d_Sn_isLatin1_7 : decode qC_Sn_isLatin1.1 7 = .ok (.getfield 15, 3) := by decide +kernel
theorem d_Sn_isLatin1_10 : decode qC_Sn_isLatin1.1 10 = .ok (.ifCond .ne 7, 3) := by decide +kernel
theorem d_Sn_isLatin1_13 : decode qC_Sn_isLatin1.1 13 = .ok (.iconst 1, 1) := by decide +kernel
theorem d_Sn_isLatin1_14 : decode qC_Sn_isLatin1.1 14 = .ok (.goto 4, 3) := by decide +kernel
theorem d_Sn_isLatin1_17 : decode qC_Sn_isLatin1.1 17 = .ok (.iconst 0, 1) := by decide +kernel
theorem d_Sn_isLatin1_18 : decode qC_Sn_isLatin1.1 18 = .ok (.ireturn, 1) := by decide +kernel
set_option maxRecDepth 100000 in
def f_Sn_isLatin1 (σ : St) : Option (Int32) :=
  Jn (fun (x1 : Int32) =>
  Gd ((x1 : Int32) &&& 1 = x1) <|
  some x1
  ) fun J2 =>
  Jn (fun (_ : Unit) =>
  J2 (0 : Int32)
  ) fun J4 =>
  if ((1 : Int32) : Int32) = 0 then (
  J4 ()
  ) else (
  if ((0 : Int32) : Int32) = 0 then (
  J2 (1 : Int32)
  ) else (
  J4 ()
  )
  )
set_option maxHeartbeats 4000000 in
set_option maxRecDepth 100000 in
theorem cC_Sn_isLatin1 (l : Launch) (g : Ge) (hi : injB wC.2 g) (σ : St) (x : Int32) (h : f_Sn_isLatin1 σ = some x) : Ct l wC g yC_Sn_isLatin1 qC_Sn_isLatin1 0 0 [.ref (g.2.2.2.1 2)] σ (some (.int x), σ) := by
  refine Ct.of (out := (o_r σ)) FC_Sn_isLatin1 rfl hi rfl h (fun z hz C => ?_)
  clear h
  subst hz
  unfold f_Sn_isLatin1
  show Rt z qC_Sn_isLatin1 wC g (o_r σ) 0 [(0, .ref (g.2.2.2.1 2))] [] σ _
  refine q_gcmp (pc' := 3) C rfl lfC_Sn_38 d_Sn_isLatin1_0 rfl ?_
  refine q_join (fun J2 : Int32 → Option (Int32) => ∀ (x1 : Int32), Rt z qC_Sn_isLatin1 wC g (o_r σ) 18 [] [.int x1] σ (J2 x1)) (fun x1 => ?_) (fun J2 hJ2 => ?_)
  · refine q_guard (fun gx3 => ?_)
    exact q_zret C rfl gx3 d_Sn_isLatin1_18 rfl
  refine q_join (fun J4 : Unit → Option (Int32) => ∀ (_ : Unit), Rt z qC_Sn_isLatin1 wC g (o_r σ) 17 [] [] σ (J4 ())) (fun _ => ?_) (fun J4 hJ4 => ?_)
  · refine q_iconst (pc' := 18) C d_Sn_isLatin1_17 ki_0 rfl ?_
    exact Rt.sub [] rfl (hJ2 (0 : Int32))
  refine q_if_eq (tgt := 17) (pc' := 6) C d_Sn_isLatin1_3 rfl rfl ?_ ?_
  · exact Rt.sub [] rfl (hJ4 ())
  · refine q_aload_n (pc' := 7) C 0 d_Sn_isLatin1_6 rfl rfl ?_
    refine q_scoder (pc' := 10) C rfl lfC_Sn_15 d_Sn_isLatin1_7 rfl ?_
    refine q_if_ne (tgt := 17) (pc' := 13) C d_Sn_isLatin1_10 rfl rfl ?_ ?_
    · exact Rt.sub [] rfl (hJ4 ())
    · refine q_iconst (pc' := 14) C d_Sn_isLatin1_13 ki_1 rfl ?_
      refine q_goto (tgt := 18) C d_Sn_isLatin1_14 rfl ?_
      exact Rt.sub [] rfl (hJ2 (1 : Int32))
theorem d_Pr_checkIndex_0 : decode qC_Pr_checkIndex.1 0 = .ok (.iload_n 0, 1) := by decide +kernel
theorem d_Pr_checkIndex_1 : decode qC_Pr_checkIndex.1 1 = .ok (.ifCond .lt 8, 3) := by decide +kernel
theorem d_Pr_checkIndex_4 : decode qC_Pr_checkIndex.1 4 = .ok (.iload_n 0, 1) := by decide +kernel
theorem d_Pr_checkIndex_5 : decode qC_Pr_checkIndex.1 5 = .ok (.iload_n 1, 1) := by decide +kernel
theorem d_Pr_checkIndex_6 : decode qC_Pr_checkIndex.1 6 = .ok (.if_icmp .lt 10, 3) := by decide +kernel
theorem d_Pr_checkIndex_9 : decode qC_Pr_checkIndex.1 9 = .ok (.aload_n 2, 1) := by decide +kernel
theorem d_Pr_checkIndex_10 : decode qC_Pr_checkIndex.1 10 = .ok (.iload_n 0, 1) := by decide +kernel
theorem d_Pr_checkIndex_11 : decode qC_Pr_checkIndex.1 11 = .ok (.iload_n 1, 1) := by decide +kernel
theorem d_Pr_checkIndex_12 : decode qC_Pr_checkIndex.1 12 = .ok (.invokestatic 95, 3) := by decide +kernel
theorem d_Pr_checkIndex_15 : decode qC_Pr_checkIndex.1 15 = .ok (.athrow, 1) := by decide +kernel
theorem d_Pr_checkIndex_16 : decode qC_Pr_checkIndex.1 16 = .ok (.iload_n 0, 1) := by decide +kernel
theorem d_Pr_checkIndex_17 : decode qC_Pr_checkIndex.1 17 = .ok (.ireturn, 1) := by decide +kernel
set_option maxRecDepth 100000 in
def f_Pr_checkIndex (p0 : Int32) (p1 : Int32) : Option (Int32) :=
  Jn (fun (_ : Unit) =>
  none
  ) fun J1 =>
  if (p0 : Int32) < 0 then (
  J1 ()
  ) else (
  if (p0 : Int32) < p1 then (
  some p0
  ) else (
  J1 ()
  )
  )
set_option maxHeartbeats 4000000 in
set_option maxRecDepth 100000 in
theorem cC_Pr_checkIndex (l : Launch) (g : Ge) (hi : injB wC.2 g) (σ : St) (p0 : Int32) (p1 : Int32) (x : Int32) (h : f_Pr_checkIndex p0 p1 = some x) : Ct l wC g yC_Pr_checkIndex qC_Pr_checkIndex 0 0 [.int p0, .int p1, va_rf g.2.2.2.2] σ (some (.int x), σ) := by
  refine Ct.of (out := (o_r σ)) FC_Pr_checkIndex rfl hi (by generalize g.2.2.2.2 = u; cases u <;> rfl) h (fun z hz C => ?_)
  clear h
  subst hz
  unfold f_Pr_checkIndex
  show Rt z qC_Pr_checkIndex wC g (o_r σ) 0 [(0, .int p0), (1, .int p1), (2, va_rf g.2.2.2.2)] [] σ _
  refine q_iload_n (pc' := 1) C 0 d_Pr_checkIndex_0 rfl rfl ?_
  refine q_join (fun J1 : Unit → Option (Int32) => ∀ (_ : Unit), Rt z qC_Pr_checkIndex wC g (o_r σ) 9 [(0, .int p0), (1, .int p1), (2, va_rf g.2.2.2.2)] [] σ (J1 ())) (fun _ => ?_) (fun J1 hJ1 => ?_)
  · exact q_none
  refine q_if_lt (tgt := 9) (pc' := 4) C d_Pr_checkIndex_1 rfl rfl ?_ ?_
  · exact Rt.sub [0, 1, 2] rfl (hJ1 ())
  · refine q_iload_n (pc' := 5) C 0 d_Pr_checkIndex_4 rfl rfl ?_
    refine q_iload_n (pc' := 6) C 1 d_Pr_checkIndex_5 rfl rfl ?_
    refine q_icmp_lt (tgt := 16) (pc' := 9) C d_Pr_checkIndex_6 rfl rfl ?_ ?_
    · refine q_iload_n (pc' := 17) C 0 d_Pr_checkIndex_16 rfl rfl ?_
      exact q_iret C rfl d_Pr_checkIndex_17 rfl
    · exact Rt.sub [0, 1, 2] rfl (hJ1 ())
theorem d_Sn_checkIndex_0 : decode qC_Sn_checkIndex.1 0 = .ok (.iload_n 0, 1) := by decide +kernel
theorem d_Sn_checkIndex_1 : decode qC_Sn_checkIndex.1 1 = .ok (.iload_n 1, 1) := by decide +kernel
theorem d_Sn_checkIndex_2 : decode qC_Sn_checkIndex.1 2 = .ok (.getstatic 1053, 3) := by decide +kernel
theorem d_Sn_checkIndex_5 : decode qC_Sn_checkIndex.1 5 = .ok (.invokestatic 1059, 3) := by decide +kernel
theorem d_Sn_checkIndex_8 : decode qC_Sn_checkIndex.1 8 = .ok (.pop, 1) := by decide +kernel
theorem d_Sn_checkIndex_9 : decode qC_Sn_checkIndex.1 9 = .ok (.return_, 1) := by decide +kernel
set_option maxRecDepth 100000 in
def f_Sn_checkIndex (p0 : Int32) (p1 : Int32) : Option (Unit) :=
  Option.bind (f_Pr_checkIndex p0 p1) fun x1 =>
  some ()
set_option maxHeartbeats 4000000 in
set_option maxRecDepth 100000 in
theorem cC_Sn_checkIndex (l : Launch) (g : Ge) (hi : injB wC.2 g) (σ : St) (p0 : Int32) (p1 : Int32) (x : Unit) (h : f_Sn_checkIndex p0 p1 = some x) : Ct l wC g yC_Sn_checkIndex qC_Sn_checkIndex 1 22 [.int p0, .int p1] σ (none, σ) := by
  refine Ct.of (out := (o_u σ)) FC_Sn_checkIndex rfl hi rfl h (fun z hz C => ?_)
  clear h
  subst hz
  unfold f_Sn_checkIndex
  show Rt z qC_Sn_checkIndex wC g (o_u σ) 0 [(0, .int p0), (1, .int p1)] [] σ _
  refine q_iload_n (pc' := 1) C 0 d_Sn_checkIndex_0 rfl rfl ?_
  refine q_iload_n (pc' := 2) C 1 d_Sn_checkIndex_1 rfl rfl ?_
  refine q_gfmt (pc' := 5) C rfl lfC_Sn_1053 d_Sn_checkIndex_2 rfl ?_
  refine q_callSr (fr' := 0) (lo' := 0) (pc' := 8) C FC_Pr_checkIndex lmC_Sn_1059 d_Sn_checkIndex_5 [.int p0, .int p1, va_rf g.2.2.2.2] [] rfl rfl (Nat.le_of_ble_eq_true rfl) ⟨rfl, rfl⟩ (fun x h => cC_Pr_checkIndex _ g hi σ p0 p1 x h) rfl (fun x1 hx1 => ?_)
  refine q_pop (pc' := 9) C d_Sn_checkIndex_8 rfl rfl ?_
  exact q_vret C rfl d_Sn_checkIndex_9 rfl
theorem d_SL_charAt_0 : decode qC_SL_charAt.1 0 = .ok (.iload_n 1, 1) := by decide +kernel
theorem d_SL_charAt_1 : decode qC_SL_charAt.1 1 = .ok (.aload_n 0, 1) := by decide +kernel
theorem d_SL_charAt_2 : decode qC_SL_charAt.1 2 = .ok (.arraylength, 1) := by decide +kernel
theorem d_SL_charAt_3 : decode qC_SL_charAt.1 3 = .ok (.invokestatic 9, 3) := by decide +kernel
theorem d_SL_charAt_6 : decode qC_SL_charAt.1 6 = .ok (.aload_n 0, 1) := by decide +kernel
theorem d_SL_charAt_7 : decode qC_SL_charAt.1 7 = .ok (.iload_n 1, 1) := by decide +kernel
theorem d_SL_charAt_8 : decode qC_SL_charAt.1 8 = .ok (.baload, 1) := by decide +kernel
theorem d_SL_charAt_9 : decode qC_SL_charAt.1 9 = .ok (.sipush 255, 3) := by decide +kernel
theorem d_SL_charAt_12 : decode qC_SL_charAt.1 12 = .ok (.iand, 1) := by decide +kernel
theorem d_SL_charAt_13 : decode qC_SL_charAt.1 13 = .ok (.i2c, 1) := by decide +kernel
theorem d_SL_charAt_14 : decode qC_SL_charAt.1 14 = .ok (.ireturn, 1) := by decide +kernel
set_option maxRecDepth 100000 in
def f_SL_charAt (σ : St) (p1 : Int32) : Option (Int32) :=
  Option.bind (f_Sn_checkIndex p1 (16 : Int32)) fun x1 =>
  Gd (Ix p1 16) <|
  Gd (narrow .char (.int (UInt32.toInt32 (Int32.toUInt32 ((KNDS.getD (Int32.toNatClampNeg p1) 0) &&& (255 : Int32)) % 65536))) = .int (UInt32.toInt32 (Int32.toUInt32 ((KNDS.getD (Int32.toNatClampNeg p1) 0) &&& (255 : Int32)) % 65536))) <|
  some (UInt32.toInt32 (Int32.toUInt32 ((KNDS.getD (Int32.toNatClampNeg p1) 0) &&& (255 : Int32)) % 65536))
set_option maxHeartbeats 4000000 in
set_option maxRecDepth 100000 in
theorem cC_SL_charAt (l : Launch) (g : Ge) (hi : injB wC.2 g) (σ : St) (p1 : Int32) (x : Int32) (h : f_SL_charAt σ p1 = some x) : Ct l wC g yC_SL_charAt qC_SL_charAt 2 43 [.ref (g.2.2.2.1 3), .int p1] σ (some (.int x), σ) := by
  refine Ct.of (out := (o_r σ)) FC_SL_charAt rfl hi rfl h (fun z hz C => ?_)
  clear h
  subst hz
  unfold f_SL_charAt
  show Rt z qC_SL_charAt wC g (o_r σ) 0 [(0, .ref (g.2.2.2.1 3)), (1, .int p1)] [] σ _
  refine q_iload_n (pc' := 1) C 1 d_SL_charAt_0 rfl rfl ?_
  refine q_aload_n (pc' := 2) C 0 d_SL_charAt_1 rfl rfl ?_
  refine q_nbytes (pc' := 3) C rfl d_SL_charAt_2 rfl ?_
  refine q_callSu (fr' := 1) (lo' := 22) (pc' := 6) C FC_Sn_checkIndex lmC_SL_9 d_SL_charAt_3 [.int p1, .int (16 : Int32)] [] rfl rfl (Nat.le_of_ble_eq_true rfl) ⟨rfl, rfl⟩ (fun x h => cC_Sn_checkIndex _ g hi σ p1 (16 : Int32) x h) rfl (fun x1 hx1 => ?_)
  refine q_aload_n (pc' := 7) C 0 d_SL_charAt_6 rfl rfl ?_
  refine q_iload_n (pc' := 8) C 1 d_SL_charAt_7 rfl rfl ?_
  refine q_tbytes (pc' := 9) C rfl d_SL_charAt_8 rfl ?_
  refine q_sipush (pc' := 12) C d_SL_charAt_9 ks_255 rfl ?_
  refine q_iand (pc' := 13) C d_SL_charAt_12 rfl ?_
  refine q_i2c (pc' := 14) C d_SL_charAt_13 rfl ?_
  refine q_guard (fun gx2 => ?_)
  exact q_nret C rfl gx2 d_SL_charAt_14 rfl
theorem d_Sn_charAt_0 : decode qC_Sn_charAt.1 0 = .ok (.aload_n 0, 1) := by decide +kernel
theorem d_Sn_charAt_1 : decode qC_Sn_charAt.1 1 = .ok (.invokevirtual 492, 3) := by decide +kernel
theorem d_Sn_charAt_4 : decode qC_Sn_charAt.1 4 = .ok (.ifCond .eq 12, 3) := by decide +kernel
theorem d_Sn_charAt_7 : decode qC_Sn_charAt.1 7 = .ok (.aload_n 0, 1) := by decide +kernel
theorem d_Sn_charAt_8 : decode qC_Sn_charAt.1 8 = .ok (.getfield 9, 3) := by decide +kernel
theorem d_Sn_charAt_11 : decode qC_Sn_charAt.1 11 = .ok (.iload_n 1, 1) := by decide +kernel
theorem d_Sn_charAt_12 : decode qC_Sn_charAt.1 12 = .ok (.invokestatic 495, 3) := by decide +kernel
theorem d_Sn_charAt_15 : decode qC_Sn_charAt.1 15 = .ok (.ireturn, 1) := by decide +kernel
theorem d_Sn_charAt_16 : decode qC_Sn_charAt.1 16 = .ok (.aload_n 0, 1) := by decide +kernel
theorem d_Sn_charAt_17 : decode qC_Sn_charAt.1 17 = .ok (.getfield 9, 3) := by decide +kernel
theorem d_Sn_charAt_20 : decode qC_Sn_charAt.1 20 = .ok (.iload_n 1, 1) := by decide +kernel
theorem d_Sn_charAt_21 : decode qC_Sn_charAt.1 21 = .ok (.invokestatic 498, 3) := by decide +kernel
theorem d_Sn_charAt_24 : decode qC_Sn_charAt.1 24 = .ok (.ireturn, 1) := by decide +kernel
set_option maxRecDepth 100000 in
def f_Sn_charAt (σ : St) (p1 : Int32) : Option (Int32) :=
  Option.bind (f_Sn_isLatin1 σ) fun x1 =>
  if (x1 : Int32) = 0 then (
  none
  ) else (
  Option.bind (f_SL_charAt σ p1) fun x2 =>
  Gd (narrow .char (.int x2) = .int x2) <|
  some x2
  )
set_option maxHeartbeats 4000000 in
set_option maxRecDepth 100000 in
theorem cC_Sn_charAt (l : Launch) (g : Ge) (hi : injB wC.2 g) (σ : St) (p1 : Int32) (x : Int32) (h : f_Sn_charAt σ p1 = some x) : Ct l wC g yC_Sn_charAt qC_Sn_charAt 4 85 [.ref (g.2.2.2.1 2), .int p1] σ (some (.int x), σ) := by
  refine Ct.of (out := (o_r σ)) FC_Sn_charAt rfl hi rfl h (fun z hz C => ?_)
  clear h
  subst hz
  unfold f_Sn_charAt
  show Rt z qC_Sn_charAt wC g (o_r σ) 0 [(0, .ref (g.2.2.2.1 2)), (1, .int p1)] [] σ _
  refine q_aload_n (pc' := 1) C 0 d_Sn_charAt_0 rfl rfl ?_
  refine q_callVSr (fr' := 0) (lo' := 0) (pc' := 4) C rfl FC_Sn_isLatin1 rfl lmC_Sn_492 d_Sn_charAt_1 [] [] rfl rfl (Nat.le_of_ble_eq_true rfl) ⟨rfl, rfl⟩ (fun x h => cC_Sn_isLatin1 _ g hi σ x h) rfl (fun x1 hx1 => ?_)
  refine q_if_eq (tgt := 16) (pc' := 7) C d_Sn_charAt_4 rfl rfl ?_ ?_
  · refine q_aload_n (pc' := 17) C 0 d_Sn_charAt_16 rfl rfl ?_
    refine q_svalue (pc' := 20) C rfl lfC_Sn_9 d_Sn_charAt_17 rfl ?_
    refine q_iload_n (pc' := 21) C 1 d_Sn_charAt_20 rfl rfl ?_
    exact q_none
  · refine q_aload_n (pc' := 8) C 0 d_Sn_charAt_7 rfl rfl ?_
    refine q_svalue (pc' := 11) C rfl lfC_Sn_9 d_Sn_charAt_8 rfl ?_
    refine q_iload_n (pc' := 12) C 1 d_Sn_charAt_11 rfl rfl ?_
    refine q_callSr (fr' := 2) (lo' := 43) (pc' := 15) C FC_SL_charAt lmC_Sn_495 d_Sn_charAt_12 [.ref (g.2.2.2.1 3), .int p1] [] rfl rfl (Nat.le_of_ble_eq_true rfl) ⟨rfl, rfl⟩ (fun x h => cC_SL_charAt _ g hi σ p1 x h) rfl (fun x2 hx2 => ?_)
    refine q_guard (fun gx3 => ?_)
    exact q_nret C rfl gx3 d_Sn_charAt_15 rfl
theorem d_Rx_kindNamed_0 : decode qC_Rx_kindNamed.1 0 = .ok (.aload_n 0, 1) := by decide +kernel
theorem d_Rx_kindNamed_1 : decode qC_Rx_kindNamed.1 1 = .ok (.getfield 33, 3) := by decide +kernel
theorem d_Rx_kindNamed_4 : decode qC_Rx_kindNamed.1 4 = .ok (.iconst 1, 1) := by decide +kernel
theorem d_Rx_kindNamed_5 : decode qC_Rx_kindNamed.1 5 = .ok (.if_icmp .ne 11, 3) := by decide +kernel
theorem d_Rx_kindNamed_8 : decode qC_Rx_kindNamed.1 8 = .ok (.aload_n 0, 1) := by decide +kernel
theorem d_Rx_kindNamed_9 : decode qC_Rx_kindNamed.1 9 = .ok (.invokevirtual 82, 3) := by decide +kernel
theorem d_Rx_kindNamed_12 : decode qC_Rx_kindNamed.1 12 = .ok (.iconst 2, 1) := by decide +kernel
theorem d_Rx_kindNamed_13 : decode qC_Rx_kindNamed.1 13 = .ok (.if_icmp .eq 5, 3) := by decide +kernel
theorem d_Rx_kindNamed_16 : decode qC_Rx_kindNamed.1 16 = .ok (.iconst (-1), 1) := by decide +kernel
theorem d_Rx_kindNamed_17 : decode qC_Rx_kindNamed.1 17 = .ok (.ireturn, 1) := by decide +kernel
theorem d_Rx_kindNamed_18 : decode qC_Rx_kindNamed.1 18 = .ok (.iconst 0, 1) := by decide +kernel
theorem d_Rx_kindNamed_19 : decode qC_Rx_kindNamed.1 19 = .ok (.istore_n 1, 1) := by decide +kernel
theorem d_Rx_kindNamed_20 : decode qC_Rx_kindNamed.1 20 = .ok (.iconst 2, 1) := by decide +kernel
theorem d_Rx_kindNamed_21 : decode qC_Rx_kindNamed.1 21 = .ok (.iload_n 1, 1) := by decide +kernel
theorem d_Rx_kindNamed_22 : decode qC_Rx_kindNamed.1 22 = .ok (.imul, 1) := by decide +kernel
theorem d_Rx_kindNamed_23 : decode qC_Rx_kindNamed.1 23 = .ok (.iconst 1, 1) := by decide +kernel
theorem d_Rx_kindNamed_24 : decode qC_Rx_kindNamed.1 24 = .ok (.iadd, 1) := by decide +kernel
theorem d_Rx_kindNamed_25 : decode qC_Rx_kindNamed.1 25 = .ok (.ldc 85, 2) := by decide +kernel
theorem d_Rx_kindNamed_27 : decode qC_Rx_kindNamed.1 27 = .ok (.invokevirtual 87, 3) := by decide +kernel
theorem d_Rx_kindNamed_30 : decode qC_Rx_kindNamed.1 30 = .ok (.if_icmp .ge 53, 3) := by decide +kernel
theorem d_Rx_kindNamed_33 : decode qC_Rx_kindNamed.1 33 = .ok (.aload_n 0, 1) := by decide +kernel
theorem d_Rx_kindNamed_34 : decode qC_Rx_kindNamed.1 34 = .ok (.aload_n 0, 1) := by decide +kernel
theorem d_Rx_kindNamed_35 : decode qC_Rx_kindNamed.1 35 = .ok (.getfield 36, 3) := by decide +kernel
theorem d_Rx_kindNamed_38 : decode qC_Rx_kindNamed.1 38 = .ok (.invokevirtual 57, 3) := by decide +kernel
theorem d_Rx_kindNamed_41 : decode qC_Rx_kindNamed.1 41 = .ok (.ldc 85, 2) := by decide +kernel
theorem d_Rx_kindNamed_43 : decode qC_Rx_kindNamed.1 43 = .ok (.iconst 2, 1) := by decide +kernel
theorem d_Rx_kindNamed_44 : decode qC_Rx_kindNamed.1 44 = .ok (.iload_n 1, 1) := by decide +kernel
theorem d_Rx_kindNamed_45 : decode qC_Rx_kindNamed.1 45 = .ok (.imul, 1) := by decide +kernel
theorem d_Rx_kindNamed_46 : decode qC_Rx_kindNamed.1 46 = .ok (.invokevirtual 91, 3) := by decide +kernel
theorem d_Rx_kindNamed_49 : decode qC_Rx_kindNamed.1 49 = .ok (.if_icmp .ne 28, 3) := by decide +kernel
theorem d_Rx_kindNamed_52 : decode qC_Rx_kindNamed.1 52 = .ok (.aload_n 0, 1) := by decide +kernel
theorem d_Rx_kindNamed_53 : decode qC_Rx_kindNamed.1 53 = .ok (.aload_n 0, 1) := by decide +kernel
theorem d_Rx_kindNamed_54 : decode qC_Rx_kindNamed.1 54 = .ok (.getfield 36, 3) := by decide +kernel
theorem d_Rx_kindNamed_57 : decode qC_Rx_kindNamed.1 57 = .ok (.iconst 1, 1) := by decide +kernel
theorem d_Rx_kindNamed_58 : decode qC_Rx_kindNamed.1 58 = .ok (.iadd, 1) := by decide +kernel
theorem d_Rx_kindNamed_59 : decode qC_Rx_kindNamed.1 59 = .ok (.invokevirtual 57, 3) := by decide +kernel
theorem d_Rx_kindNamed_62 : decode qC_Rx_kindNamed.1 62 = .ok (.ldc 85, 2) := by decide +kernel
theorem d_Rx_kindNamed_64 : decode qC_Rx_kindNamed.1 64 = .ok (.iconst 2, 1) := by decide +kernel
theorem d_Rx_kindNamed_65 : decode qC_Rx_kindNamed.1 65 = .ok (.iload_n 1, 1) := by decide +kernel
theorem d_Rx_kindNamed_66 : decode qC_Rx_kindNamed.1 66 = .ok (.imul, 1) := by decide +kernel
theorem d_Rx_kindNamed_67 : decode qC_Rx_kindNamed.1 67 = .ok (.iconst 1, 1) := by decide +kernel
theorem d_Rx_kindNamed_68 : decode qC_Rx_kindNamed.1 68 = .ok (.iadd, 1) := by decide +kernel
theorem d_Rx_kindNamed_69 : decode qC_Rx_kindNamed.1 69 = .ok (.invokevirtual 91, 3) := by decide +kernel
theorem d_Rx_kindNamed_72 : decode qC_Rx_kindNamed.1 72 = .ok (.if_icmp .ne 5, 3) := by decide +kernel
theorem d_Rx_kindNamed_75 : decode qC_Rx_kindNamed.1 75 = .ok (.iload_n 1, 1) := by decide +kernel
theorem d_Rx_kindNamed_76 : decode qC_Rx_kindNamed.1 76 = .ok (.ireturn, 1) := by decide +kernel
theorem d_Rx_kindNamed_77 : decode qC_Rx_kindNamed.1 77 = .ok (.iinc 1 1, 3) := by decide +kernel
theorem d_Rx_kindNamed_80 : decode qC_Rx_kindNamed.1 80 = .ok (.goto (-60), 3) := by decide +kernel
theorem d_Rx_kindNamed_83 : decode qC_Rx_kindNamed.1 83 = .ok (.iconst (-1), 1) := by decide +kernel
theorem d_Rx_kindNamed_84 : decode qC_Rx_kindNamed.1 84 = .ok (.ireturn, 1) := by decide +kernel
set_option maxRecDepth 100000 in
def lb_f_Rx_kindNamed_20 (σ : St) (o : Nat) (J4 : Int32 → Option (Int32)) (J5 : Unit → Option (Int32)) (ih7 : Int32 → Option (Int32)) (a6 : Int32) : Option (Int32) :=
  Option.bind (f_Sn_length σ) fun x8 =>
  if (x8 : Int32) ≤ (((2 : Int32) * a6) + (1 : Int32)) then (
  J5 ()
  ) else (
  Option.bind (f_Rx_byteAt σ o (σ o 6)) fun x9 =>
  Option.bind (f_Sn_charAt σ ((2 : Int32) * a6)) fun x10 =>
  Jn (fun (_ : Unit) =>
  Lt (a6 + (1 : Int32) : Int32) fun x12 =>
  ih7 x12
  ) fun J11 =>
  if (x9 : Int32) = x10 then (
  Option.bind (f_Rx_byteAt σ o ((σ o 6) + (1 : Int32))) fun x13 =>
  Option.bind (f_Sn_charAt σ (((2 : Int32) * a6) + (1 : Int32))) fun x14 =>
  if (x13 : Int32) = x14 then (
  J4 a6
  ) else (
  J11 ()
  )
  ) else (
  J11 ()
  )
  )
set_option maxRecDepth 100000 in
def f_Rx_kindNamed (σ : St) (o : Nat) : Option (Int32) :=
  Jn (fun (_ : Unit) =>
  some (-1 : Int32)
  ) fun J1 =>
  if ((σ o 5) : Int32) = (1 : Int32) then (
  Option.bind (f_Rx_tokenLength σ o) fun x2 =>
  if (x2 : Int32) = (2 : Int32) then (
  Jn (fun (x3 : Int32) =>
  some x3
  ) fun J4 =>
  Jn (fun (_ : Unit) =>
  some (-1 : Int32)
  ) fun J5 =>
  lp (lb_f_Rx_kindNamed_20 σ o J4 J5) 4000 (0 : Int32)
  ) else (
  J1 ()
  )
  ) else (
  J1 ()
  )
set_option maxHeartbeats 4000000 in
set_option maxRecDepth 100000 in
theorem cC_Rx_kindNamed (l : Launch) (g : Ge) (hi : injB wC.2 g) (σ : St) (o : Nat) (ho : wC.2.2.1 o = .inr (6, 8)) (x : Int32) (h : f_Rx_kindNamed σ o = some x) : Ct l wC g yC_Rx_kindNamed qC_Rx_kindNamed 5 106 [.ref (g.1 o)] σ (some (.int x), σ) := by
  refine Ct.of (out := (o_r σ)) FC_Rx_kindNamed rfl hi rfl h (fun z hz C => ?_)
  clear h
  subst hz
  unfold f_Rx_kindNamed
  show Rt z qC_Rx_kindNamed wC g (o_r σ) 0 [(0, .ref (g.1 o))] [] σ _
  refine q_aload_n (pc' := 1) C 0 d_Rx_kindNamed_0 rfl rfl ?_
  refine gC_Rx_33 (pc' := 4) C o ho d_Rx_kindNamed_1 rfl rfl ?_
  refine q_iconst (pc' := 5) C d_Rx_kindNamed_4 ki_1 rfl ?_
  refine q_join (fun J1 : Unit → Option (Int32) => ∀ (_ : Unit), Rt z qC_Rx_kindNamed wC g (o_r σ) 16 [] [] σ (J1 ())) (fun _ => ?_) (fun J1 hJ1 => ?_)
  · refine q_iconst (pc' := 17) C d_Rx_kindNamed_16 ki_m1 rfl ?_
    exact q_iret C rfl d_Rx_kindNamed_17 rfl
  refine q_icmp_ne (tgt := 16) (pc' := 8) C d_Rx_kindNamed_5 rfl rfl ?_ ?_
  · exact Rt.sub [] rfl (hJ1 ())
  · refine q_aload_n (pc' := 9) C 0 d_Rx_kindNamed_8 rfl rfl ?_
    refine q_callVr (fr' := 0) (lo' := 0) (pc' := 12) C FC_Rx_tokenLength lmC_Rx_82 d_Rx_kindNamed_9 o (jCo ho) ho cC_6 [] [] rfl rfl (Nat.le_of_ble_eq_true rfl) ⟨rfl, rfl⟩ (fun x h => cC_Rx_tokenLength _ g hi σ o ho x h) rfl (fun x2 hx2 => ?_)
    refine q_iconst (pc' := 13) C d_Rx_kindNamed_12 ki_2 rfl ?_
    refine q_icmp_eq (tgt := 18) (pc' := 16) C d_Rx_kindNamed_13 rfl rfl ?_ ?_
    · refine q_iconst (pc' := 19) C d_Rx_kindNamed_18 ki_0 rfl ?_
      refine q_istore_n (pc' := 20) (lv' := [(1, .int (0 : Int32)), (0, .ref (g.1 o))]) C d_Rx_kindNamed_19 (by decide) rfl rfl ?_
      refine q_join (fun J4 : Int32 → Option (Int32) => ∀ (x3 : Int32), Rt z qC_Rx_kindNamed wC g (o_r σ) 75 [(1, .int x3)] [] σ (J4 x3)) (fun x3 => ?_) (fun J4 hJ4 => ?_)
      · refine q_iload_n (pc' := 76) C 0 d_Rx_kindNamed_75 rfl rfl ?_
        exact q_iret C rfl d_Rx_kindNamed_76 rfl
      refine q_join (fun J5 : Unit → Option (Int32) => ∀ (_ : Unit), Rt z qC_Rx_kindNamed wC g (o_r σ) 83 [] [] σ (J5 ())) (fun _ => ?_) (fun J5 hJ5 => ?_)
      · refine q_iconst (pc' := 84) C d_Rx_kindNamed_83 ki_m1 rfl ?_
        exact q_iret C rfl d_Rx_kindNamed_84 rfl
      refine Rt.sub [1, 0] rfl (q_lp (fun a6 : Int32 => [(0, .ref (g.1 o)), (1, .int a6)]) (fun a6 => []) (fun a6 => σ) (fun ih7 hih7 a6 => ?_) 4000 (0 : Int32))
      unfold lb_f_Rx_kindNamed_20
      refine q_iconst (pc' := 21) C d_Rx_kindNamed_20 ki_2 rfl ?_
      refine q_iload_n (pc' := 22) C 1 d_Rx_kindNamed_21 rfl rfl ?_
      refine q_imul (pc' := 23) C d_Rx_kindNamed_22 rfl ?_
      refine q_iconst (pc' := 24) C d_Rx_kindNamed_23 ki_1 rfl ?_
      refine q_iadd (pc' := 25) C d_Rx_kindNamed_24 rfl ?_
      refine q_ldcS (pc' := 27) C rfl rfl d_Rx_kindNamed_25 rfl ?_
      refine q_callVSr (fr' := 1) (lo' := 20) (pc' := 30) C rfl FC_Sn_length rfl lmC_Rx_87 d_Rx_kindNamed_27 [] [.int (((2 : Int32) * a6) + (1 : Int32))] rfl rfl (Nat.le_of_ble_eq_true rfl) ⟨rfl, rfl⟩ (fun x h => cC_Sn_length _ g hi σ x h) rfl (fun x8 hx8 => ?_)
      refine q_icmp_ge (tgt := 83) (pc' := 33) C d_Rx_kindNamed_30 rfl rfl ?_ ?_
      · exact Rt.sub [] rfl (hJ5 ())
      · refine q_aload_n (pc' := 34) C 0 d_Rx_kindNamed_33 rfl rfl ?_
        refine q_aload_n (pc' := 35) C 0 d_Rx_kindNamed_34 rfl rfl ?_
        refine gC_Rx_36 (pc' := 38) C o ho d_Rx_kindNamed_35 rfl rfl ?_
        refine q_callVr (fr' := 0) (lo' := 0) (pc' := 41) C FC_Rx_byteAt lmC_Rx_57 d_Rx_kindNamed_38 o (jCo ho) ho cC_6 [.int (σ o 6)] [] rfl rfl (Nat.le_of_ble_eq_true rfl) ⟨rfl, rfl⟩ (fun x h => cC_Rx_byteAt _ g hi σ o ho (σ o 6) x h) rfl (fun x9 hx9 => ?_)
        refine q_ldcS (pc' := 43) C rfl rfl d_Rx_kindNamed_41 rfl ?_
        refine q_iconst (pc' := 44) C d_Rx_kindNamed_43 ki_2 rfl ?_
        refine q_iload_n (pc' := 45) C 1 d_Rx_kindNamed_44 rfl rfl ?_
        refine q_imul (pc' := 46) C d_Rx_kindNamed_45 rfl ?_
        refine q_callVSr (fr' := 4) (lo' := 85) (pc' := 49) C rfl FC_Sn_charAt rfl lmC_Rx_91 d_Rx_kindNamed_46 [.int ((2 : Int32) * a6)] [.int x9] rfl rfl (Nat.le_of_ble_eq_true rfl) ⟨rfl, rfl⟩ (fun x h => cC_Sn_charAt _ g hi σ ((2 : Int32) * a6) x h) rfl (fun x10 hx10 => ?_)
        refine q_join (fun J11 : Unit → Option (Int32) => ∀ (_ : Unit), Rt z qC_Rx_kindNamed wC g (o_r σ) 77 [(0, .ref (g.1 o)), (1, .int a6)] [] σ (J11 ())) (fun _ => ?_) (fun J11 hJ11 => ?_)
        · refine q_let (fun x12 e12 => ?_)
          refine q_iinc (pc' := 80) (lv' := [(1, .int x12), (0, .ref (g.1 o))]) C 1 d_Rx_kindNamed_77 rfl (by rw [e12, ki_1]) (by decide) rfl rfl ?_
          refine q_goto (tgt := 20) C d_Rx_kindNamed_80 rfl ?_
          exact Rt.sub [1, 0] rfl (hih7 x12)
        refine q_icmp_ne (tgt := 77) (pc' := 52) C d_Rx_kindNamed_49 rfl rfl ?_ ?_
        · exact Rt.sub [0, 1] rfl (hJ11 ())
        · refine q_aload_n (pc' := 53) C 0 d_Rx_kindNamed_52 rfl rfl ?_
          refine q_aload_n (pc' := 54) C 0 d_Rx_kindNamed_53 rfl rfl ?_
          refine gC_Rx_36 (pc' := 57) C o ho d_Rx_kindNamed_54 rfl rfl ?_
          refine q_iconst (pc' := 58) C d_Rx_kindNamed_57 ki_1 rfl ?_
          refine q_iadd (pc' := 59) C d_Rx_kindNamed_58 rfl ?_
          refine q_callVr (fr' := 0) (lo' := 0) (pc' := 62) C FC_Rx_byteAt lmC_Rx_57 d_Rx_kindNamed_59 o (jCo ho) ho cC_6 [.int ((σ o 6) + (1 : Int32))] [] rfl rfl (Nat.le_of_ble_eq_true rfl) ⟨rfl, rfl⟩ (fun x h => cC_Rx_byteAt _ g hi σ o ho ((σ o 6) + (1 : Int32)) x h) rfl (fun x13 hx13 => ?_)
          refine q_ldcS (pc' := 64) C rfl rfl d_Rx_kindNamed_62 rfl ?_
          refine q_iconst (pc' := 65) C d_Rx_kindNamed_64 ki_2 rfl ?_
          refine q_iload_n (pc' := 66) C 1 d_Rx_kindNamed_65 rfl rfl ?_
          refine q_imul (pc' := 67) C d_Rx_kindNamed_66 rfl ?_
          refine q_iconst (pc' := 68) C d_Rx_kindNamed_67 ki_1 rfl ?_
          refine q_iadd (pc' := 69) C d_Rx_kindNamed_68 rfl ?_
          refine q_callVSr (fr' := 4) (lo' := 85) (pc' := 72) C rfl FC_Sn_charAt rfl lmC_Rx_91 d_Rx_kindNamed_69 [.int (((2 : Int32) * a6) + (1 : Int32))] [.int x13] rfl rfl (Nat.le_of_ble_eq_true rfl) ⟨rfl, rfl⟩ (fun x h => cC_Sn_charAt _ g hi σ (((2 : Int32) * a6) + (1 : Int32)) x h) rfl (fun x14 hx14 => ?_)
          refine q_icmp_ne (tgt := 77) (pc' := 75) C d_Rx_kindNamed_72 rfl rfl ?_ ?_
          · exact Rt.sub [0, 1] rfl (hJ11 ())
          · exact Rt.sub [1] rfl (hJ4 a6)
    · exact Rt.sub [] rfl (hJ1 ())
theorem d_Rx_readFix_0 : decode qC_Rx_readFix.1 0 = .ok (.aload_n 0, 1) := by decide +kernel
theorem d_Rx_readFix_1 : decode qC_Rx_readFix.1 1 = .ok (.aload_n 0, 1) := by decide +kernel
theorem d_Rx_readFix_2 : decode qC_Rx_readFix.1 2 = .ok (.getfield 36, 3) := by decide +kernel
theorem d_Rx_readFix_5 : decode qC_Rx_readFix.1 5 = .ok (.invokevirtual 57, 3) := by decide +kernel
theorem d_Rx_readFix_8 : decode qC_Rx_readFix.1 8 = .ok (.bipush 65, 2) := by decide +kernel
theorem d_Rx_readFix_10 : decode qC_Rx_readFix.1 10 = .ok (.isub, 1) := by decide +kernel
theorem d_Rx_readFix_11 : decode qC_Rx_readFix.1 11 = .ok (.istore_n 2, 1) := by decide +kernel
theorem d_Rx_readFix_12 : decode qC_Rx_readFix.1 12 = .ok (.aload_n 0, 1) := by decide +kernel
theorem d_Rx_readFix_13 : decode qC_Rx_readFix.1 13 = .ok (.getfield 33, 3) := by decide +kernel
theorem d_Rx_readFix_16 : decode qC_Rx_readFix.1 16 = .ok (.iconst 1, 1) := by decide +kernel
theorem d_Rx_readFix_17 : decode qC_Rx_readFix.1 17 = .ok (.if_icmp .ne 22, 3) := by decide +kernel
theorem d_Rx_readFix_20 : decode qC_Rx_readFix.1 20 = .ok (.aload_n 0, 1) := by decide +kernel
theorem d_Rx_readFix_21 : decode qC_Rx_readFix.1 21 = .ok (.invokevirtual 82, 3) := by decide +kernel
theorem d_Rx_readFix_24 : decode qC_Rx_readFix.1 24 = .ok (.iconst 1, 1) := by decide +kernel
theorem d_Rx_readFix_25 : decode qC_Rx_readFix.1 25 = .ok (.if_icmp .ne 14, 3) := by decide +kernel
theorem d_Rx_readFix_28 : decode qC_Rx_readFix.1 28 = .ok (.iload_n 2, 1) := by decide +kernel
theorem d_Rx_readFix_29 : decode qC_Rx_readFix.1 29 = .ok (.aload_n 0, 1) := by decide +kernel
theorem d_Rx_readFix_30 : decode qC_Rx_readFix.1 30 = .ok (.getfield 42, 3) := by decide +kernel
theorem d_Rx_readFix_33 : decode qC_Rx_readFix.1 33 = .ok (.getfield 95, 3) := by decide +kernel
theorem d_Rx_readFix_36 : decode qC_Rx_readFix.1 36 = .ok (.if_icmp .lt 5, 3) := by decide +kernel
theorem d_Rx_readFix_39 : decode qC_Rx_readFix.1 39 = .ok (.iconst 0, 1) := by decide +kernel
theorem d_Rx_readFix_40 : decode qC_Rx_readFix.1 40 = .ok (.ireturn, 1) := by decide +kernel
theorem d_Rx_readFix_41 : decode qC_Rx_readFix.1 41 = .ok (.aload_n 0, 1) := by decide +kernel
theorem d_Rx_readFix_42 : decode qC_Rx_readFix.1 42 = .ok (.invokevirtual 46, 3) := by decide +kernel
theorem d_Rx_readFix_45 : decode qC_Rx_readFix.1 45 = .ok (.aload_n 0, 1) := by decide +kernel
theorem d_Rx_readFix_46 : decode qC_Rx_readFix.1 46 = .ok (.getfield 22, 3) := by decide +kernel
theorem d_Rx_readFix_49 : decode qC_Rx_readFix.1 49 = .ok (.iload_n 1, 1) := by decide +kernel
theorem d_Rx_readFix_50 : decode qC_Rx_readFix.1 50 = .ok (.iconst 1, 1) := by decide +kernel
theorem d_Rx_readFix_51 : decode qC_Rx_readFix.1 51 = .ok (.iload_n 2, 1) := by decide +kernel
theorem d_Rx_readFix_52 : decode qC_Rx_readFix.1 52 = .ok (.invokevirtual 100, 3) := by decide +kernel
theorem d_Rx_readFix_55 : decode qC_Rx_readFix.1 55 = .ok (.aload_n 0, 1) := by decide +kernel
theorem d_Rx_readFix_56 : decode qC_Rx_readFix.1 56 = .ok (.getfield 22, 3) := by decide +kernel
theorem d_Rx_readFix_59 : decode qC_Rx_readFix.1 59 = .ok (.iload_n 1, 1) := by decide +kernel
theorem d_Rx_readFix_60 : decode qC_Rx_readFix.1 60 = .ok (.bipush 7, 2) := by decide +kernel
theorem d_Rx_readFix_62 : decode qC_Rx_readFix.1 62 = .ok (.aload_n 0, 1) := by decide +kernel
theorem d_Rx_readFix_63 : decode qC_Rx_readFix.1 63 = .ok (.getfield 42, 3) := by decide +kernel
theorem d_Rx_readFix_66 : decode qC_Rx_readFix.1 66 = .ok (.getfield 104, 3) := by decide +kernel
theorem d_Rx_readFix_69 : decode qC_Rx_readFix.1 69 = .ok (.iload_n 2, 1) := by decide +kernel
theorem d_Rx_readFix_70 : decode qC_Rx_readFix.1 70 = .ok (.iconst 0, 1) := by decide +kernel
theorem d_Rx_readFix_71 : decode qC_Rx_readFix.1 71 = .ok (.invokevirtual 107, 3) := by decide +kernel
theorem d_Rx_readFix_74 : decode qC_Rx_readFix.1 74 = .ok (.invokevirtual 100, 3) := by decide +kernel
theorem d_Rx_readFix_77 : decode qC_Rx_readFix.1 77 = .ok (.aload_n 0, 1) := by decide +kernel
theorem d_Rx_readFix_78 : decode qC_Rx_readFix.1 78 = .ok (.getfield 22, 3) := by decide +kernel
theorem d_Rx_readFix_81 : decode qC_Rx_readFix.1 81 = .ok (.iload_n 1, 1) := by decide +kernel
theorem d_Rx_readFix_82 : decode qC_Rx_readFix.1 82 = .ok (.bipush 8, 2) := by decide +kernel
theorem d_Rx_readFix_84 : decode qC_Rx_readFix.1 84 = .ok (.aload_n 0, 1) := by decide +kernel
theorem d_Rx_readFix_85 : decode qC_Rx_readFix.1 85 = .ok (.getfield 42, 3) := by decide +kernel
theorem d_Rx_readFix_88 : decode qC_Rx_readFix.1 88 = .ok (.getfield 104, 3) := by decide +kernel
theorem d_Rx_readFix_91 : decode qC_Rx_readFix.1 91 = .ok (.iload_n 2, 1) := by decide +kernel
theorem d_Rx_readFix_92 : decode qC_Rx_readFix.1 92 = .ok (.iconst 1, 1) := by decide +kernel
theorem d_Rx_readFix_93 : decode qC_Rx_readFix.1 93 = .ok (.invokevirtual 107, 3) := by decide +kernel
theorem d_Rx_readFix_96 : decode qC_Rx_readFix.1 96 = .ok (.invokevirtual 100, 3) := by decide +kernel
theorem d_Rx_readFix_99 : decode qC_Rx_readFix.1 99 = .ok (.iconst 1, 1) := by decide +kernel
theorem d_Rx_readFix_100 : decode qC_Rx_readFix.1 100 = .ok (.ireturn, 1) := by decide +kernel
set_option maxRecDepth 100000 in
def f_Rx_readFix (σ : St) (o : Nat) (p1 : Int32) : Option (Int32 × St) :=
  Option.bind (f_Rx_byteAt σ o (σ o 6)) fun x1 =>
  Lt ((x1 - (65 : Int32)) : Int32) fun x2 =>
  Jn (fun (_ : Unit) =>
  some ((0 : Int32), σ)
  ) fun J3 =>
  if ((σ o 5) : Int32) = (1 : Int32) then (
  Option.bind (f_Rx_tokenLength σ o) fun x4 =>
  if (x4 : Int32) = (1 : Int32) then (
  if (x2 : Int32) < (σ (rc o 0) 1) then (
  Option.bind (f_Rx_nextToken σ o) fun x5 =>
  Option.bind (f_Tb_put x5 (rc o 2) p1 (1 : Int32) x2) fun x6 =>
  Option.bind (f_Tb_get x6 (rc (rc o 0) 0) x2 (0 : Int32)) fun x7 =>
  Option.bind (f_Tb_put x6 (rc o 2) p1 (7 : Int32) x7) fun x8 =>
  Option.bind (f_Tb_get x8 (rc (rc o 0) 0) x2 (1 : Int32)) fun x9 =>
  Option.bind (f_Tb_put x8 (rc o 2) p1 (8 : Int32) x9) fun x10 =>
  some ((1 : Int32), x10)
  ) else (
  J3 ()
  )
  ) else (
  J3 ()
  )
  ) else (
  J3 ()
  )
set_option maxHeartbeats 4000000 in
set_option maxRecDepth 100000 in
theorem cC_Rx_readFix (l : Launch) (g : Ge) (hi : injB wC.2 g) (σ : St) (o : Nat) (ho : wC.2.2.1 o = .inr (6, 8)) (p1 : Int32) (x : Int32 × St) (h : f_Rx_readFix σ o p1 = some x) : Ct l wC g yC_Rx_readFix qC_Rx_readFix 2 41 [.ref (g.1 o), .int p1] σ (some (.int x.1), x.2) := by
  refine Ct.of (out := o_w) FC_Rx_readFix rfl hi rfl h (fun z hz C => ?_)
  clear h
  subst hz
  unfold f_Rx_readFix
  show Rt z qC_Rx_readFix wC g o_w 0 [(0, .ref (g.1 o)), (1, .int p1)] [] σ _
  refine q_aload_n (pc' := 1) C 0 d_Rx_readFix_0 rfl rfl ?_
  refine q_aload_n (pc' := 2) C 0 d_Rx_readFix_1 rfl rfl ?_
  refine gC_Rx_36 (pc' := 5) C o ho d_Rx_readFix_2 rfl rfl ?_
  refine q_callVr (fr' := 0) (lo' := 0) (pc' := 8) C FC_Rx_byteAt lmC_Rx_57 d_Rx_readFix_5 o (jCo ho) ho cC_6 [.int (σ o 6)] [] rfl rfl (Nat.le_of_ble_eq_true rfl) ⟨rfl, rfl⟩ (fun x h => cC_Rx_byteAt _ g hi σ o ho (σ o 6) x h) rfl (fun x1 hx1 => ?_)
  refine q_bipush (pc' := 10) C d_Rx_readFix_8 kb_65 rfl ?_
  refine q_isub (pc' := 11) C d_Rx_readFix_10 rfl ?_
  refine q_let (fun x2 e2 => ?_)
  refine q_topi e2 ?_
  refine q_istore_n (pc' := 12) (lv' := [(2, .int x2), (0, .ref (g.1 o)), (1, .int p1)]) C d_Rx_readFix_11 (by decide) rfl rfl ?_
  refine q_aload_n (pc' := 13) C 1 d_Rx_readFix_12 rfl rfl ?_
  refine gC_Rx_33 (pc' := 16) C o ho d_Rx_readFix_13 rfl rfl ?_
  refine q_iconst (pc' := 17) C d_Rx_readFix_16 ki_1 rfl ?_
  refine q_join (fun J3 : Unit → Option (Int32 × St) => ∀ (_ : Unit), Rt z qC_Rx_readFix wC g o_w 39 [] [] σ (J3 ())) (fun _ => ?_) (fun J3 hJ3 => ?_)
  · refine q_iconst (pc' := 40) C d_Rx_readFix_39 ki_0 rfl ?_
    exact q_zret C rfl (by decide) d_Rx_readFix_40 rfl
  refine q_icmp_ne (tgt := 39) (pc' := 20) C d_Rx_readFix_17 rfl rfl ?_ ?_
  · exact Rt.sub [] rfl (hJ3 ())
  · refine q_aload_n (pc' := 21) C 1 d_Rx_readFix_20 rfl rfl ?_
    refine q_callVr (fr' := 0) (lo' := 0) (pc' := 24) C FC_Rx_tokenLength lmC_Rx_82 d_Rx_readFix_21 o (jCo ho) ho cC_6 [] [] rfl rfl (Nat.le_of_ble_eq_true rfl) ⟨rfl, rfl⟩ (fun x h => cC_Rx_tokenLength _ g hi σ o ho x h) rfl (fun x4 hx4 => ?_)
    refine q_iconst (pc' := 25) C d_Rx_readFix_24 ki_1 rfl ?_
    refine q_icmp_ne (tgt := 39) (pc' := 28) C d_Rx_readFix_25 rfl rfl ?_ ?_
    · exact Rt.sub [] rfl (hJ3 ())
    · refine q_iload_n (pc' := 29) C 0 d_Rx_readFix_28 rfl rfl ?_
      refine q_aload_n (pc' := 30) C 1 d_Rx_readFix_29 rfl rfl ?_
      refine gC_Rx_42 (pc' := 33) C o (rc o 0) ho (ly_6_0 ho).1 d_Rx_readFix_30 rfl rfl ?_
      refine gC_Rx_95 (pc' := 36) C (rc o 0) (ly_6_0 ho).2 d_Rx_readFix_33 rfl rfl ?_
      refine q_icmp_lt (tgt := 41) (pc' := 39) C d_Rx_readFix_36 rfl rfl ?_ ?_
      · refine q_aload_n (pc' := 42) C 1 d_Rx_readFix_41 rfl rfl ?_
        refine q_callVv (fr' := 1) (lo' := 21) (pc' := 45) C FC_Rx_nextToken lmC_Rx_46 d_Rx_readFix_42 o (jCo ho) ho cC_6 [] [] rfl rfl (Nat.le_of_ble_eq_true rfl) ⟨rfl, rfl⟩ (fun x h => cC_Rx_nextToken _ g hi σ o ho x h) rfl (fun x5 hx5 => ?_)
        refine q_aload_n (pc' := 46) C 1 d_Rx_readFix_45 rfl rfl ?_
        refine gC_Rx_22 (pc' := 49) C o (rc o 2) ho (ly_6_2 ho).1 d_Rx_readFix_46 rfl rfl ?_
        refine q_iload_n (pc' := 50) C 2 d_Rx_readFix_49 rfl rfl ?_
        refine q_iconst (pc' := 51) C d_Rx_readFix_50 ki_1 rfl ?_
        refine q_iload_n (pc' := 52) C 0 d_Rx_readFix_51 rfl rfl ?_
        refine q_callVv (fr' := 0) (lo' := 0) (pc' := 55) C FC_Tb_put lmC_Rx_100 d_Rx_readFix_52 (rc o 2) (jCo (ly_6_2 ho).2) (ly_6_2 ho).2 cC_8 [.int p1, .int (1 : Int32), .int x2] [] rfl rfl (Nat.le_of_ble_eq_true rfl) ⟨rfl, rfl⟩ (fun x h => cC_Tb_put _ g hi x5 (rc o 2) (ly_6_2 ho).2 p1 (1 : Int32) x2 x h) rfl (fun x6 hx6 => ?_)
        refine q_aload_n (pc' := 56) C 1 d_Rx_readFix_55 rfl rfl ?_
        refine gC_Rx_22 (pc' := 59) C o (rc o 2) ho (ly_6_2 ho).1 d_Rx_readFix_56 rfl rfl ?_
        refine q_iload_n (pc' := 60) C 2 d_Rx_readFix_59 rfl rfl ?_
        refine q_bipush (pc' := 62) C d_Rx_readFix_60 kb_7 rfl ?_
        refine q_aload_n (pc' := 63) C 1 d_Rx_readFix_62 rfl rfl ?_
        refine gC_Rx_42 (pc' := 66) C o (rc o 0) ho (ly_6_0 ho).1 d_Rx_readFix_63 rfl rfl ?_
        refine gC_Rx_104 (pc' := 69) C (rc o 0) (rc (rc o 0) 0) (ly_6_0 ho).2 (ly_7_0 (ly_6_0 ho).2).1 d_Rx_readFix_66 rfl rfl ?_
        refine q_iload_n (pc' := 70) C 0 d_Rx_readFix_69 rfl rfl ?_
        refine q_iconst (pc' := 71) C d_Rx_readFix_70 ki_0 rfl ?_
        refine q_callVr (fr' := 0) (lo' := 0) (pc' := 74) C FC_Tb_get lmC_Rx_107 d_Rx_readFix_71 (rc (rc o 0) 0) (jCo (ly_7_0 (ly_6_0 ho).2).2) (ly_7_0 (ly_6_0 ho).2).2 cC_8 [.int x2, .int (0 : Int32)] [.int (7 : Int32), .int p1, .ref (g.1 (rc o 2))] rfl rfl (Nat.le_of_ble_eq_true rfl) ⟨rfl, rfl⟩ (fun x h => cC_Tb_get _ g hi x6 (rc (rc o 0) 0) (ly_7_0 (ly_6_0 ho).2).2 x2 (0 : Int32) x h) rfl (fun x7 hx7 => ?_)
        refine q_callVv (fr' := 0) (lo' := 0) (pc' := 77) C FC_Tb_put lmC_Rx_100 d_Rx_readFix_74 (rc o 2) (jCo (ly_6_2 ho).2) (ly_6_2 ho).2 cC_8 [.int p1, .int (7 : Int32), .int x7] [] rfl rfl (Nat.le_of_ble_eq_true rfl) ⟨rfl, rfl⟩ (fun x h => cC_Tb_put _ g hi x6 (rc o 2) (ly_6_2 ho).2 p1 (7 : Int32) x7 x h) rfl (fun x8 hx8 => ?_)
        refine q_aload_n (pc' := 78) C 1 d_Rx_readFix_77 rfl rfl ?_
        refine gC_Rx_22 (pc' := 81) C o (rc o 2) ho (ly_6_2 ho).1 d_Rx_readFix_78 rfl rfl ?_
        refine q_iload_n (pc' := 82) C 2 d_Rx_readFix_81 rfl rfl ?_
        refine q_bipush (pc' := 84) C d_Rx_readFix_82 kb_8 rfl ?_
        refine q_aload_n (pc' := 85) C 1 d_Rx_readFix_84 rfl rfl ?_
        refine gC_Rx_42 (pc' := 88) C o (rc o 0) ho (ly_6_0 ho).1 d_Rx_readFix_85 rfl rfl ?_
        refine gC_Rx_104 (pc' := 91) C (rc o 0) (rc (rc o 0) 0) (ly_6_0 ho).2 (ly_7_0 (ly_6_0 ho).2).1 d_Rx_readFix_88 rfl rfl ?_
        refine q_iload_n (pc' := 92) C 0 d_Rx_readFix_91 rfl rfl ?_
        refine q_iconst (pc' := 93) C d_Rx_readFix_92 ki_1 rfl ?_
        refine q_callVr (fr' := 0) (lo' := 0) (pc' := 96) C FC_Tb_get lmC_Rx_107 d_Rx_readFix_93 (rc (rc o 0) 0) (jCo (ly_7_0 (ly_6_0 ho).2).2) (ly_7_0 (ly_6_0 ho).2).2 cC_8 [.int x2, .int (1 : Int32)] [.int (8 : Int32), .int p1, .ref (g.1 (rc o 2))] rfl rfl (Nat.le_of_ble_eq_true rfl) ⟨rfl, rfl⟩ (fun x h => cC_Tb_get _ g hi x8 (rc (rc o 0) 0) (ly_7_0 (ly_6_0 ho).2).2 x2 (1 : Int32) x h) rfl (fun x9 hx9 => ?_)
        refine q_callVv (fr' := 0) (lo' := 0) (pc' := 99) C FC_Tb_put lmC_Rx_100 d_Rx_readFix_96 (rc o 2) (jCo (ly_6_2 ho).2) (ly_6_2 ho).2 cC_8 [.int p1, .int (8 : Int32), .int x9] [] rfl rfl (Nat.le_of_ble_eq_true rfl) ⟨rfl, rfl⟩ (fun x h => cC_Tb_put _ g hi x8 (rc o 2) (ly_6_2 ho).2 p1 (8 : Int32) x9 x h) rfl (fun x10 hx10 => ?_)
        refine q_iconst (pc' := 100) C d_Rx_readFix_99 ki_1 rfl ?_
        exact q_zret C rfl (by decide) d_Rx_readFix_100 rfl
      · exact Rt.sub [] rfl (hJ3 ())
theorem d_FL_within_0 : decode qC_FL_within.1 0 = .ok (.iload_n 0, 1) := by decide +kernel
theorem d_FL_within_1 : decode qC_FL_within.1 1 = .ok (.iload_n 1, 1) := by decide +kernel
theorem d_FL_within_2 : decode qC_FL_within.1 2 = .ok (.if_icmp .lt 12, 3) := by decide +kernel
theorem d_FL_within_5 : decode qC_FL_within.1 5 = .ok (.iload_n 0, 1) := by decide +kernel
theorem d_FL_within_6 : decode qC_FL_within.1 6 = .ok (.iload_n 2, 1) := by decide +kernel
theorem d_FL_within_7 : decode qC_FL_within.1 7 = .ok (.if_icmp .gt 7, 3) := by decide +kernel
theorem d_FL_within_10 : decode qC_FL_within.1 10 = .ok (.iconst 1, 1) := by decide +kernel
theorem d_FL_within_11 : decode qC_FL_within.1 11 = .ok (.goto 4, 3) := by decide +kernel
theorem d_FL_within_14 : decode qC_FL_within.1 14 = .ok (.iconst 0, 1) := by decide +kernel
theorem d_FL_within_15 : decode qC_FL_within.1 15 = .ok (.ireturn, 1) := by decide +kernel
set_option maxRecDepth 100000 in
def f_FL_within (p0 : Int32) (p1 : Int32) (p2 : Int32) : Option (Int32) :=
  Jn (fun (x1 : Int32) =>
  Gd ((x1 : Int32) &&& 1 = x1) <|
  some x1
  ) fun J2 =>
  Jn (fun (_ : Unit) =>
  J2 (0 : Int32)
  ) fun J4 =>
  if (p0 : Int32) < p1 then (
  J4 ()
  ) else (
  if (p2 : Int32) < p0 then (
  J4 ()
  ) else (
  J2 (1 : Int32)
  )
  )
set_option maxHeartbeats 4000000 in
set_option maxRecDepth 100000 in
theorem cC_FL_within (l : Launch) (g : Ge) (hi : injB wC.2 g) (σ : St) (p0 : Int32) (p1 : Int32) (p2 : Int32) (x : Int32) (h : f_FL_within p0 p1 p2 = some x) : Ct l wC g yC_FL_within qC_FL_within 0 0 [.int p0, .int p1, .int p2] σ (some (.int x), σ) := by
  refine Ct.of (out := (o_r σ)) FC_FL_within rfl hi rfl h (fun z hz C => ?_)
  clear h
  subst hz
  unfold f_FL_within
  show Rt z qC_FL_within wC g (o_r σ) 0 [(0, .int p0), (1, .int p1), (2, .int p2)] [] σ _
  refine q_iload_n (pc' := 1) C 0 d_FL_within_0 rfl rfl ?_
  refine q_iload_n (pc' := 2) C 1 d_FL_within_1 rfl rfl ?_
  refine q_join (fun J2 : Int32 → Option (Int32) => ∀ (x1 : Int32), Rt z qC_FL_within wC g (o_r σ) 15 [] [.int x1] σ (J2 x1)) (fun x1 => ?_) (fun J2 hJ2 => ?_)
  · refine q_guard (fun gx3 => ?_)
    exact q_zret C rfl gx3 d_FL_within_15 rfl
  refine q_join (fun J4 : Unit → Option (Int32) => ∀ (_ : Unit), Rt z qC_FL_within wC g (o_r σ) 14 [] [] σ (J4 ())) (fun _ => ?_) (fun J4 hJ4 => ?_)
  · refine q_iconst (pc' := 15) C d_FL_within_14 ki_0 rfl ?_
    exact Rt.sub [] rfl (hJ2 (0 : Int32))
  refine q_icmp_lt (tgt := 14) (pc' := 5) C d_FL_within_2 rfl rfl ?_ ?_
  · exact Rt.sub [] rfl (hJ4 ())
  · refine q_iload_n (pc' := 6) C 0 d_FL_within_5 rfl rfl ?_
    refine q_iload_n (pc' := 7) C 2 d_FL_within_6 rfl rfl ?_
    refine q_icmp_gt (tgt := 14) (pc' := 10) C d_FL_within_7 rfl rfl ?_ ?_
    · exact Rt.sub [] rfl (hJ4 ())
    · refine q_iconst (pc' := 11) C d_FL_within_10 ki_1 rfl ?_
      refine q_goto (tgt := 15) C d_FL_within_11 rfl ?_
      exact Rt.sub [] rfl (hJ2 (1 : Int32))
theorem d_Rx_readNumber_0 : decode qC_Rx_readNumber.1 0 = .ok (.aload_n 0, 1) := by decide +kernel
theorem d_Rx_readNumber_1 : decode qC_Rx_readNumber.1 1 = .ok (.getfield 33, 3) := by decide +kernel
theorem d_Rx_readNumber_4 : decode qC_Rx_readNumber.1 4 = .ok (.iconst 2, 1) := by decide +kernel
theorem d_Rx_readNumber_5 : decode qC_Rx_readNumber.1 5 = .ok (.if_icmp .ne 11, 3) := by decide +kernel
theorem d_Rx_readNumber_8 : decode qC_Rx_readNumber.1 8 = .ok (.aload_n 0, 1) := by decide +kernel
theorem d_Rx_readNumber_9 : decode qC_Rx_readNumber.1 9 = .ok (.invokevirtual 82, 3) := by decide +kernel
theorem d_Rx_readNumber_12 : decode qC_Rx_readNumber.1 12 = .ok (.iconst 3, 1) := by decide +kernel
theorem d_Rx_readNumber_13 : decode qC_Rx_readNumber.1 13 = .ok (.if_icmp .le 5, 3) := by decide +kernel
theorem d_Rx_readNumber_16 : decode qC_Rx_readNumber.1 16 = .ok (.iconst 0, 1) := by decide +kernel
theorem d_Rx_readNumber_17 : decode qC_Rx_readNumber.1 17 = .ok (.ireturn, 1) := by decide +kernel
theorem d_Rx_readNumber_18 : decode qC_Rx_readNumber.1 18 = .ok (.iconst 0, 1) := by decide +kernel
theorem d_Rx_readNumber_19 : decode qC_Rx_readNumber.1 19 = .ok (.istore 5, 2) := by decide +kernel
theorem d_Rx_readNumber_21 : decode qC_Rx_readNumber.1 21 = .ok (.aload_n 0, 1) := by decide +kernel
theorem d_Rx_readNumber_22 : decode qC_Rx_readNumber.1 22 = .ok (.getfield 36, 3) := by decide +kernel
theorem d_Rx_readNumber_25 : decode qC_Rx_readNumber.1 25 = .ok (.istore 6, 2) := by decide +kernel
theorem d_Rx_readNumber_27 : decode qC_Rx_readNumber.1 27 = .ok (.iload 6, 2) := by decide +kernel
theorem d_Rx_readNumber_29 : decode qC_Rx_readNumber.1 29 = .ok (.aload_n 0, 1) := by decide +kernel
theorem d_Rx_readNumber_30 : decode qC_Rx_readNumber.1 30 = .ok (.getfield 39, 3) := by decide +kernel
theorem d_Rx_readNumber_33 : decode qC_Rx_readNumber.1 33 = .ok (.if_icmp .ge 26, 3) := by decide +kernel
theorem d_Rx_readNumber_36 : decode qC_Rx_readNumber.1 36 = .ok (.iload 5, 2) := by decide +kernel
theorem d_Rx_readNumber_38 : decode qC_Rx_readNumber.1 38 = .ok (.bipush 10, 2) := by decide +kernel
theorem d_Rx_readNumber_40 : decode qC_Rx_readNumber.1 40 = .ok (.imul, 1) := by decide +kernel
theorem d_Rx_readNumber_41 : decode qC_Rx_readNumber.1 41 = .ok (.aload_n 0, 1) := by decide +kernel
theorem d_Rx_readNumber_42 : decode qC_Rx_readNumber.1 42 = .ok (.iload 6, 2) := by decide +kernel
theorem d_Rx_readNumber_44 : decode qC_Rx_readNumber.1 44 = .ok (.invokevirtual 57, 3) := by decide +kernel
theorem d_Rx_readNumber_47 : decode qC_Rx_readNumber.1 47 = .ok (.iadd, 1) := by decide +kernel
theorem d_Rx_readNumber_48 : decode qC_Rx_readNumber.1 48 = .ok (.bipush 48, 2) := by decide +kernel
theorem d_Rx_readNumber_50 : decode qC_Rx_readNumber.1 50 = .ok (.isub, 1) := by decide +kernel
theorem d_Rx_readNumber_51 : decode qC_Rx_readNumber.1 51 = .ok (.istore 5, 2) := by decide +kernel
theorem d_Rx_readNumber_53 : decode qC_Rx_readNumber.1 53 = .ok (.iinc 6 1, 3) := by decide +kernel
theorem d_Rx_readNumber_56 : decode qC_Rx_readNumber.1 56 = .ok (.goto (-29), 3) := by decide +kernel
theorem d_Rx_readNumber_59 : decode qC_Rx_readNumber.1 59 = .ok (.iload 5, 2) := by decide +kernel
theorem d_Rx_readNumber_61 : decode qC_Rx_readNumber.1 61 = .ok (.iload_n 3, 1) := by decide +kernel
theorem d_Rx_readNumber_62 : decode qC_Rx_readNumber.1 62 = .ok (.iload 4, 2) := by decide +kernel
theorem d_Rx_readNumber_64 : decode qC_Rx_readNumber.1 64 = .ok (.invokestatic 114, 3) := by decide +kernel
theorem d_Rx_readNumber_67 : decode qC_Rx_readNumber.1 67 = .ok (.ifCond .ne 5, 3) := by decide +kernel
theorem d_Rx_readNumber_70 : decode qC_Rx_readNumber.1 70 = .ok (.iconst 0, 1) := by decide +kernel
theorem d_Rx_readNumber_71 : decode qC_Rx_readNumber.1 71 = .ok (.ireturn, 1) := by decide +kernel
theorem d_Rx_readNumber_72 : decode qC_Rx_readNumber.1 72 = .ok (.aload_n 0, 1) := by decide +kernel
theorem d_Rx_readNumber_73 : decode qC_Rx_readNumber.1 73 = .ok (.invokevirtual 46, 3) := by decide +kernel
theorem d_Rx_readNumber_76 : decode qC_Rx_readNumber.1 76 = .ok (.aload_n 0, 1) := by decide +kernel
theorem d_Rx_readNumber_77 : decode qC_Rx_readNumber.1 77 = .ok (.getfield 22, 3) := by decide +kernel
theorem d_Rx_readNumber_80 : decode qC_Rx_readNumber.1 80 = .ok (.iload_n 1, 1) := by decide +kernel
theorem d_Rx_readNumber_81 : decode qC_Rx_readNumber.1 81 = .ok (.iload_n 2, 1) := by decide +kernel
theorem d_Rx_readNumber_82 : decode qC_Rx_readNumber.1 82 = .ok (.iload 5, 2) := by decide +kernel
theorem d_Rx_readNumber_84 : decode qC_Rx_readNumber.1 84 = .ok (.invokevirtual 100, 3) := by decide +kernel
theorem d_Rx_readNumber_87 : decode qC_Rx_readNumber.1 87 = .ok (.iconst 1, 1) := by decide +kernel
theorem d_Rx_readNumber_88 : decode qC_Rx_readNumber.1 88 = .ok (.ireturn, 1) := by decide +kernel
set_option maxRecDepth 100000 in
def lb_f_Rx_readNumber_27 (σ : St) (o : Nat) (J5 : Int32 → Option (Int32 × St)) (ih10 : Int32 × Int32 → Option (Int32 × St)) (a9 : Int32 × Int32) : Option (Int32 × St) :=
  if ((σ o 7) : Int32) ≤ a9.2 then (
  J5 a9.1
  ) else (
  Option.bind (f_Rx_byteAt σ o a9.2) fun x11 =>
  Lt ((((a9.1 * (10 : Int32)) + x11) - (48 : Int32)) : Int32) fun x12 =>
  Lt (a9.2 + (1 : Int32) : Int32) fun x13 =>
  ih10 (x12, x13)
  )
set_option maxRecDepth 100000 in
def f_Rx_readNumber (σ : St) (o : Nat) (p1 : Int32) (p2 : Int32) (p3 : Int32) (p4 : Int32) : Option (Int32 × St) :=
  Jn (fun (_ : Unit) =>
  some ((0 : Int32), σ)
  ) fun J1 =>
  if ((σ o 5) : Int32) = (2 : Int32) then (
  Option.bind (f_Rx_tokenLength σ o) fun x2 =>
  if (x2 : Int32) ≤ (3 : Int32) then (
  Lt ((σ o 6) : Int32) fun x3 =>
  Jn (fun (x4 : Int32) =>
  Option.bind (f_FL_within x4 p3 p4) fun x6 =>
  if (x6 : Int32) = 0 then (
  some ((0 : Int32), σ)
  ) else (
  Option.bind (f_Rx_nextToken σ o) fun x7 =>
  Option.bind (f_Tb_put x7 (rc o 2) p1 p2 x4) fun x8 =>
  some ((1 : Int32), x8)
  )
  ) fun J5 =>
  lp (lb_f_Rx_readNumber_27 σ o J5) 4000 ((0 : Int32), x3)
  ) else (
  J1 ()
  )
  ) else (
  J1 ()
  )
set_option maxHeartbeats 4000000 in
set_option maxRecDepth 100000 in
theorem cC_Rx_readNumber (l : Launch) (g : Ge) (hi : injB wC.2 g) (σ : St) (o : Nat) (ho : wC.2.2.1 o = .inr (6, 8)) (p1 : Int32) (p2 : Int32) (p3 : Int32) (p4 : Int32) (x : Int32 × St) (h : f_Rx_readNumber σ o p1 p2 p3 p4 = some x) : Ct l wC g yC_Rx_readNumber qC_Rx_readNumber 2 41 [.ref (g.1 o), .int p1, .int p2, .int p3, .int p4] σ (some (.int x.1), x.2) := by
  refine Ct.of (out := o_w) FC_Rx_readNumber rfl hi rfl h (fun z hz C => ?_)
  clear h
  subst hz
  unfold f_Rx_readNumber
  show Rt z qC_Rx_readNumber wC g o_w 0 [(0, .ref (g.1 o)), (1, .int p1), (2, .int p2), (3, .int p3), (4, .int p4)] [] σ _
  refine q_aload_n (pc' := 1) C 0 d_Rx_readNumber_0 rfl rfl ?_
  refine gC_Rx_33 (pc' := 4) C o ho d_Rx_readNumber_1 rfl rfl ?_
  refine q_iconst (pc' := 5) C d_Rx_readNumber_4 ki_2 rfl ?_
  refine q_join (fun J1 : Unit → Option (Int32 × St) => ∀ (_ : Unit), Rt z qC_Rx_readNumber wC g o_w 16 [] [] σ (J1 ())) (fun _ => ?_) (fun J1 hJ1 => ?_)
  · refine q_iconst (pc' := 17) C d_Rx_readNumber_16 ki_0 rfl ?_
    exact q_zret C rfl (by decide) d_Rx_readNumber_17 rfl
  refine q_icmp_ne (tgt := 16) (pc' := 8) C d_Rx_readNumber_5 rfl rfl ?_ ?_
  · exact Rt.sub [] rfl (hJ1 ())
  · refine q_aload_n (pc' := 9) C 0 d_Rx_readNumber_8 rfl rfl ?_
    refine q_callVr (fr' := 0) (lo' := 0) (pc' := 12) C FC_Rx_tokenLength lmC_Rx_82 d_Rx_readNumber_9 o (jCo ho) ho cC_6 [] [] rfl rfl (Nat.le_of_ble_eq_true rfl) ⟨rfl, rfl⟩ (fun x h => cC_Rx_tokenLength _ g hi σ o ho x h) rfl (fun x2 hx2 => ?_)
    refine q_iconst (pc' := 13) C d_Rx_readNumber_12 ki_3 rfl ?_
    refine q_icmp_le (tgt := 18) (pc' := 16) C d_Rx_readNumber_13 rfl rfl ?_ ?_
    · refine q_iconst (pc' := 19) C d_Rx_readNumber_18 ki_0 rfl ?_
      refine q_istore (pc' := 21) (lv' := [(5, .int (0 : Int32)), (0, .ref (g.1 o)), (1, .int p1), (2, .int p2), (3, .int p3), (4, .int p4)]) C d_Rx_readNumber_19 (by decide) rfl rfl ?_
      refine q_aload_n (pc' := 22) C 1 d_Rx_readNumber_21 rfl rfl ?_
      refine gC_Rx_36 (pc' := 25) C o ho d_Rx_readNumber_22 rfl rfl ?_
      refine q_let (fun x3 e3 => ?_)
      refine q_topi e3 ?_
      refine q_istore (pc' := 27) (lv' := [(6, .int x3), (5, .int (0 : Int32)), (0, .ref (g.1 o)), (1, .int p1), (2, .int p2), (3, .int p3), (4, .int p4)]) C d_Rx_readNumber_25 (by decide) rfl rfl ?_
      refine q_join (fun J5 : Int32 → Option (Int32 × St) => ∀ (x4 : Int32), Rt z qC_Rx_readNumber wC g o_w 59 [(0, .ref (g.1 o)), (1, .int p1), (2, .int p2), (3, .int p3), (4, .int p4), (5, .int x4)] [] σ (J5 x4)) (fun x4 => ?_) (fun J5 hJ5 => ?_)
      · refine q_iload (pc' := 61) C 5 d_Rx_readNumber_59 rfl rfl ?_
        refine q_iload_n (pc' := 62) C 3 d_Rx_readNumber_61 rfl rfl ?_
        refine q_iload (pc' := 64) C 4 d_Rx_readNumber_62 rfl rfl ?_
        refine q_callSNr (fr' := 0) (lo' := 0) (pc' := 67) C FC_FL_within (C.2.2.2.2.2.2.2.2.2.2 rfl).2.2.2.2.2.2.2.2.2 d_Rx_readNumber_64 [.int x4, .int p3, .int p4] [] rfl rfl (Nat.le_of_ble_eq_true rfl) ⟨rfl, rfl⟩ (fun x h => cC_FL_within _ g hi σ x4 p3 p4 x h) rfl (fun x6 hx6 => ?_)
        refine q_if_ne (tgt := 72) (pc' := 70) C d_Rx_readNumber_67 rfl rfl ?_ ?_
        · refine q_aload_n (pc' := 73) C 0 d_Rx_readNumber_72 rfl rfl ?_
          refine q_callVv (fr' := 1) (lo' := 21) (pc' := 76) C FC_Rx_nextToken lmC_Rx_46 d_Rx_readNumber_73 o (jCo ho) ho cC_6 [] [] rfl rfl (Nat.le_of_ble_eq_true rfl) ⟨rfl, rfl⟩ (fun x h => cC_Rx_nextToken _ g hi σ o ho x h) rfl (fun x7 hx7 => ?_)
          refine q_aload_n (pc' := 77) C 0 d_Rx_readNumber_76 rfl rfl ?_
          refine gC_Rx_22 (pc' := 80) C o (rc o 2) ho (ly_6_2 ho).1 d_Rx_readNumber_77 rfl rfl ?_
          refine q_iload_n (pc' := 81) C 1 d_Rx_readNumber_80 rfl rfl ?_
          refine q_iload_n (pc' := 82) C 2 d_Rx_readNumber_81 rfl rfl ?_
          refine q_iload (pc' := 84) C 5 d_Rx_readNumber_82 rfl rfl ?_
          refine q_callVv (fr' := 0) (lo' := 0) (pc' := 87) C FC_Tb_put lmC_Rx_100 d_Rx_readNumber_84 (rc o 2) (jCo (ly_6_2 ho).2) (ly_6_2 ho).2 cC_8 [.int p1, .int p2, .int x4] [] rfl rfl (Nat.le_of_ble_eq_true rfl) ⟨rfl, rfl⟩ (fun x h => cC_Tb_put _ g hi x7 (rc o 2) (ly_6_2 ho).2 p1 p2 x4 x h) rfl (fun x8 hx8 => ?_)
          refine q_iconst (pc' := 88) C d_Rx_readNumber_87 ki_1 rfl ?_
          exact q_zret C rfl (by decide) d_Rx_readNumber_88 rfl
        · refine q_iconst (pc' := 71) C d_Rx_readNumber_70 ki_0 rfl ?_
          exact q_zret C rfl (by decide) d_Rx_readNumber_71 rfl
      refine Rt.sub [2, 3, 4, 5, 6, 1, 0] rfl (q_lp (fun a9 : Int32 × Int32 => [(0, .ref (g.1 o)), (1, .int p1), (2, .int p2), (3, .int p3), (4, .int p4), (5, .int a9.1), (6, .int a9.2)]) (fun a9 => []) (fun a9 => σ) (fun ih10 hih10 a9 => ?_) 4000 ((0 : Int32), x3))
      unfold lb_f_Rx_readNumber_27
      refine q_iload (pc' := 29) C 6 d_Rx_readNumber_27 rfl rfl ?_
      refine q_aload_n (pc' := 30) C 0 d_Rx_readNumber_29 rfl rfl ?_
      refine gC_Rx_39 (pc' := 33) C o ho d_Rx_readNumber_30 rfl rfl ?_
      refine q_icmp_ge (tgt := 59) (pc' := 36) C d_Rx_readNumber_33 rfl rfl ?_ ?_
      · exact Rt.sub [0, 1, 2, 3, 4, 5] rfl (hJ5 a9.1)
      · refine q_iload (pc' := 38) C 5 d_Rx_readNumber_36 rfl rfl ?_
        refine q_bipush (pc' := 40) C d_Rx_readNumber_38 kb_10 rfl ?_
        refine q_imul (pc' := 41) C d_Rx_readNumber_40 rfl ?_
        refine q_aload_n (pc' := 42) C 0 d_Rx_readNumber_41 rfl rfl ?_
        refine q_iload (pc' := 44) C 6 d_Rx_readNumber_42 rfl rfl ?_
        refine q_callVr (fr' := 0) (lo' := 0) (pc' := 47) C FC_Rx_byteAt lmC_Rx_57 d_Rx_readNumber_44 o (jCo ho) ho cC_6 [.int a9.2] [.int (a9.1 * (10 : Int32))] rfl rfl (Nat.le_of_ble_eq_true rfl) ⟨rfl, rfl⟩ (fun x h => cC_Rx_byteAt _ g hi σ o ho a9.2 x h) rfl (fun x11 hx11 => ?_)
        refine q_iadd (pc' := 48) C d_Rx_readNumber_47 rfl ?_
        refine q_bipush (pc' := 50) C d_Rx_readNumber_48 kb_48 rfl ?_
        refine q_isub (pc' := 51) C d_Rx_readNumber_50 rfl ?_
        refine q_let (fun x12 e12 => ?_)
        refine q_topi e12 ?_
        refine q_istore (pc' := 53) (lv' := [(5, .int x12), (0, .ref (g.1 o)), (1, .int p1), (2, .int p2), (3, .int p3), (4, .int p4), (6, .int a9.2)]) C d_Rx_readNumber_51 (by decide) rfl rfl ?_
        refine q_let (fun x13 e13 => ?_)
        refine q_iinc (pc' := 56) (lv' := [(6, .int x13), (5, .int x12), (0, .ref (g.1 o)), (1, .int p1), (2, .int p2), (3, .int p3), (4, .int p4)]) C 6 d_Rx_readNumber_53 rfl (by rw [e13, ki_1]) (by decide) rfl rfl ?_
        refine q_goto (tgt := 27) C d_Rx_readNumber_56 rfl ?_
        exact Rt.sub [2, 3, 4, 5, 6, 1, 0] rfl (hih10 (x12, x13))
    · exact Rt.sub [] rfl (hJ1 ())
theorem d_Rx_readSide_0 : decode qC_Rx_readSide.1 0 = .ok (.aload_n 0, 1) := by decide +kernel
theorem d_Rx_readSide_1 : decode qC_Rx_readSide.1 1 = .ok (.aload_n 0, 1) := by decide +kernel
theorem d_Rx_readSide_2 : decode qC_Rx_readSide.1 2 = .ok (.getfield 36, 3) := by decide +kernel
theorem d_Rx_readSide_5 : decode qC_Rx_readSide.1 5 = .ok (.invokevirtual 57, 3) := by decide +kernel
theorem d_Rx_readSide_8 : decode qC_Rx_readSide.1 8 = .ok (.istore_n 2, 1) := by decide +kernel
theorem d_Rx_readSide_9 : decode qC_Rx_readSide.1 9 = .ok (.aload_n 0, 1) := by decide +kernel
theorem d_Rx_readSide_10 : decode qC_Rx_readSide.1 10 = .ok (.invokevirtual 82, 3) := by decide +kernel
theorem d_Rx_readSide_13 : decode qC_Rx_readSide.1 13 = .ok (.iconst 1, 1) := by decide +kernel
theorem d_Rx_readSide_14 : decode qC_Rx_readSide.1 14 = .ok (.if_icmp .ne 15, 3) := by decide +kernel
theorem d_Rx_readSide_17 : decode qC_Rx_readSide.1 17 = .ok (.iload_n 2, 1) := by decide +kernel
theorem d_Rx_readSide_18 : decode qC_Rx_readSide.1 18 = .ok (.bipush 76, 2) := by decide +kernel
theorem d_Rx_readSide_20 : decode qC_Rx_readSide.1 20 = .ok (.if_icmp .eq 11, 3) := by decide +kernel
theorem d_Rx_readSide_23 : decode qC_Rx_readSide.1 23 = .ok (.iload_n 2, 1) := by decide +kernel
theorem d_Rx_readSide_24 : decode qC_Rx_readSide.1 24 = .ok (.bipush 82, 2) := by decide +kernel
theorem d_Rx_readSide_26 : decode qC_Rx_readSide.1 26 = .ok (.if_icmp .eq 5, 3) := by decide +kernel
theorem d_Rx_readSide_29 : decode qC_Rx_readSide.1 29 = .ok (.iconst 0, 1) := by decide +kernel
theorem d_Rx_readSide_30 : decode qC_Rx_readSide.1 30 = .ok (.ireturn, 1) := by decide +kernel
theorem d_Rx_readSide_31 : decode qC_Rx_readSide.1 31 = .ok (.aload_n 0, 1) := by decide +kernel
theorem d_Rx_readSide_32 : decode qC_Rx_readSide.1 32 = .ok (.invokevirtual 46, 3) := by decide +kernel
theorem d_Rx_readSide_35 : decode qC_Rx_readSide.1 35 = .ok (.aload_n 0, 1) := by decide +kernel
theorem d_Rx_readSide_36 : decode qC_Rx_readSide.1 36 = .ok (.getfield 22, 3) := by decide +kernel
theorem d_Rx_readSide_39 : decode qC_Rx_readSide.1 39 = .ok (.iload_n 1, 1) := by decide +kernel
theorem d_Rx_readSide_40 : decode qC_Rx_readSide.1 40 = .ok (.iconst 4, 1) := by decide +kernel
theorem d_Rx_readSide_41 : decode qC_Rx_readSide.1 41 = .ok (.iload_n 2, 1) := by decide +kernel
theorem d_Rx_readSide_42 : decode qC_Rx_readSide.1 42 = .ok (.bipush 82, 2) := by decide +kernel
theorem d_Rx_readSide_44 : decode qC_Rx_readSide.1 44 = .ok (.if_icmp .ne 7, 3) := by decide +kernel
theorem d_Rx_readSide_47 : decode qC_Rx_readSide.1 47 = .ok (.iconst 1, 1) := by decide +kernel
theorem d_Rx_readSide_48 : decode qC_Rx_readSide.1 48 = .ok (.goto 4, 3) := by decide +kernel
theorem d_Rx_readSide_51 : decode qC_Rx_readSide.1 51 = .ok (.iconst 0, 1) := by decide +kernel
theorem d_Rx_readSide_52 : decode qC_Rx_readSide.1 52 = .ok (.invokevirtual 100, 3) := by decide +kernel
theorem d_Rx_readSide_55 : decode qC_Rx_readSide.1 55 = .ok (.iconst 1, 1) := by decide +kernel
theorem d_Rx_readSide_56 : decode qC_Rx_readSide.1 56 = .ok (.ireturn, 1) := by decide +kernel
set_option maxRecDepth 100000 in
def f_Rx_readSide (σ : St) (o : Nat) (p1 : Int32) : Option (Int32 × St) :=
  Option.bind (f_Rx_byteAt σ o (σ o 6)) fun x1 =>
  Option.bind (f_Rx_tokenLength σ o) fun x2 =>
  Jn (fun (_ : Unit) =>
  some ((0 : Int32), σ)
  ) fun J3 =>
  if (x2 : Int32) = (1 : Int32) then (
  Jn (fun (_ : Unit) =>
  Option.bind (f_Rx_nextToken σ o) fun x5 =>
  Jn (fun (x6 : Int32) =>
  Option.bind (f_Tb_put x5 (rc o 2) p1 (4 : Int32) x6) fun x8 =>
  some ((1 : Int32), x8)
  ) fun J7 =>
  if (x1 : Int32) = (82 : Int32) then (
  J7 (1 : Int32)
  ) else (
  J7 (0 : Int32)
  )
  ) fun J4 =>
  if (x1 : Int32) = (76 : Int32) then (
  J4 ()
  ) else (
  if (x1 : Int32) = (82 : Int32) then (
  J4 ()
  ) else (
  J3 ()
  )
  )
  ) else (
  J3 ()
  )
set_option maxHeartbeats 4000000 in
set_option maxRecDepth 100000 in
theorem cC_Rx_readSide (l : Launch) (g : Ge) (hi : injB wC.2 g) (σ : St) (o : Nat) (ho : wC.2.2.1 o = .inr (6, 8)) (p1 : Int32) (x : Int32 × St) (h : f_Rx_readSide σ o p1 = some x) : Ct l wC g yC_Rx_readSide qC_Rx_readSide 2 41 [.ref (g.1 o), .int p1] σ (some (.int x.1), x.2) := by
  refine Ct.of (out := o_w) FC_Rx_readSide rfl hi rfl h (fun z hz C => ?_)
  clear h
  subst hz
  unfold f_Rx_readSide
  show Rt z qC_Rx_readSide wC g o_w 0 [(0, .ref (g.1 o)), (1, .int p1)] [] σ _
  refine q_aload_n (pc' := 1) C 0 d_Rx_readSide_0 rfl rfl ?_
  refine q_aload_n (pc' := 2) C 0 d_Rx_readSide_1 rfl rfl ?_
  refine gC_Rx_36 (pc' := 5) C o ho d_Rx_readSide_2 rfl rfl ?_
  refine q_callVr (fr' := 0) (lo' := 0) (pc' := 8) C FC_Rx_byteAt lmC_Rx_57 d_Rx_readSide_5 o (jCo ho) ho cC_6 [.int (σ o 6)] [] rfl rfl (Nat.le_of_ble_eq_true rfl) ⟨rfl, rfl⟩ (fun x h => cC_Rx_byteAt _ g hi σ o ho (σ o 6) x h) rfl (fun x1 hx1 => ?_)
  refine q_istore_n (pc' := 9) (lv' := [(2, .int x1), (0, .ref (g.1 o)), (1, .int p1)]) C d_Rx_readSide_8 (by decide) rfl rfl ?_
  refine q_aload_n (pc' := 10) C 1 d_Rx_readSide_9 rfl rfl ?_
  refine q_callVr (fr' := 0) (lo' := 0) (pc' := 13) C FC_Rx_tokenLength lmC_Rx_82 d_Rx_readSide_10 o (jCo ho) ho cC_6 [] [] rfl rfl (Nat.le_of_ble_eq_true rfl) ⟨rfl, rfl⟩ (fun x h => cC_Rx_tokenLength _ g hi σ o ho x h) rfl (fun x2 hx2 => ?_)
  refine q_iconst (pc' := 14) C d_Rx_readSide_13 ki_1 rfl ?_
  refine q_join (fun J3 : Unit → Option (Int32 × St) => ∀ (_ : Unit), Rt z qC_Rx_readSide wC g o_w 29 [] [] σ (J3 ())) (fun _ => ?_) (fun J3 hJ3 => ?_)
  · refine q_iconst (pc' := 30) C d_Rx_readSide_29 ki_0 rfl ?_
    exact q_zret C rfl (by decide) d_Rx_readSide_30 rfl
  refine q_icmp_ne (tgt := 29) (pc' := 17) C d_Rx_readSide_14 rfl rfl ?_ ?_
  · exact Rt.sub [] rfl (hJ3 ())
  · refine q_iload_n (pc' := 18) C 0 d_Rx_readSide_17 rfl rfl ?_
    refine q_bipush (pc' := 20) C d_Rx_readSide_18 kb_76 rfl ?_
    refine q_join (fun J4 : Unit → Option (Int32 × St) => ∀ (_ : Unit), Rt z qC_Rx_readSide wC g o_w 31 [(0, .ref (g.1 o)), (1, .int p1), (2, .int x1)] [] σ (J4 ())) (fun _ => ?_) (fun J4 hJ4 => ?_)
    · refine q_aload_n (pc' := 32) C 0 d_Rx_readSide_31 rfl rfl ?_
      refine q_callVv (fr' := 1) (lo' := 21) (pc' := 35) C FC_Rx_nextToken lmC_Rx_46 d_Rx_readSide_32 o (jCo ho) ho cC_6 [] [] rfl rfl (Nat.le_of_ble_eq_true rfl) ⟨rfl, rfl⟩ (fun x h => cC_Rx_nextToken _ g hi σ o ho x h) rfl (fun x5 hx5 => ?_)
      refine q_aload_n (pc' := 36) C 0 d_Rx_readSide_35 rfl rfl ?_
      refine gC_Rx_22 (pc' := 39) C o (rc o 2) ho (ly_6_2 ho).1 d_Rx_readSide_36 rfl rfl ?_
      refine q_iload_n (pc' := 40) C 1 d_Rx_readSide_39 rfl rfl ?_
      refine q_iconst (pc' := 41) C d_Rx_readSide_40 ki_4 rfl ?_
      refine q_iload_n (pc' := 42) C 2 d_Rx_readSide_41 rfl rfl ?_
      refine q_bipush (pc' := 44) C d_Rx_readSide_42 kb_82 rfl ?_
      refine q_join (fun J7 : Int32 → Option (Int32 × St) => ∀ (x6 : Int32), Rt z qC_Rx_readSide wC g o_w 52 [] [.int x6, .int (4 : Int32), .int p1, .ref (g.1 (rc o 2))] x5 (J7 x6)) (fun x6 => ?_) (fun J7 hJ7 => ?_)
      · refine q_callVv (fr' := 0) (lo' := 0) (pc' := 55) C FC_Tb_put lmC_Rx_100 d_Rx_readSide_52 (rc o 2) (jCo (ly_6_2 ho).2) (ly_6_2 ho).2 cC_8 [.int p1, .int (4 : Int32), .int x6] [] rfl rfl (Nat.le_of_ble_eq_true rfl) ⟨rfl, rfl⟩ (fun x h => cC_Tb_put _ g hi x5 (rc o 2) (ly_6_2 ho).2 p1 (4 : Int32) x6 x h) rfl (fun x8 hx8 => ?_)
        refine q_iconst (pc' := 56) C d_Rx_readSide_55 ki_1 rfl ?_
        exact q_zret C rfl (by decide) d_Rx_readSide_56 rfl
      refine q_icmp_ne (tgt := 51) (pc' := 47) C d_Rx_readSide_44 rfl rfl ?_ ?_
      · refine q_iconst (pc' := 52) C d_Rx_readSide_51 ki_0 rfl ?_
        exact Rt.sub [] rfl (hJ7 (0 : Int32))
      · refine q_iconst (pc' := 48) C d_Rx_readSide_47 ki_1 rfl ?_
        refine q_goto (tgt := 52) C d_Rx_readSide_48 rfl ?_
        exact Rt.sub [] rfl (hJ7 (1 : Int32))
    refine q_icmp_eq (tgt := 31) (pc' := 23) C d_Rx_readSide_20 rfl rfl ?_ ?_
    · exact Rt.sub [1, 2, 0] rfl (hJ4 ())
    · refine q_iload_n (pc' := 24) C 0 d_Rx_readSide_23 rfl rfl ?_
      refine q_bipush (pc' := 26) C d_Rx_readSide_24 kb_82 rfl ?_
      refine q_icmp_eq (tgt := 31) (pc' := 29) C d_Rx_readSide_26 rfl rfl ?_ ?_
      · exact Rt.sub [1, 2, 0] rfl (hJ4 ())
      · exact Rt.sub [] rfl (hJ3 ())
theorem d_Rx_readPattern_0 : decode qC_Rx_readPattern.1 0 = .ok (.aload_n 0, 1) := by decide +kernel
theorem d_Rx_readPattern_1 : decode qC_Rx_readPattern.1 1 = .ok (.iload_n 1, 1) := by decide +kernel
theorem d_Rx_readPattern_2 : decode qC_Rx_readPattern.1 2 = .ok (.invokevirtual 111, 3) := by decide +kernel
theorem d_Rx_readPattern_5 : decode qC_Rx_readPattern.1 5 = .ok (.ifCond .eq 34, 3) := by decide +kernel
theorem d_Rx_readPattern_8 : decode qC_Rx_readPattern.1 8 = .ok (.aload_n 0, 1) := by decide +kernel
theorem d_Rx_readPattern_9 : decode qC_Rx_readPattern.1 9 = .ok (.iload_n 1, 1) := by decide +kernel
theorem d_Rx_readPattern_10 : decode qC_Rx_readPattern.1 10 = .ok (.iconst 5, 1) := by decide +kernel
theorem d_Rx_readPattern_11 : decode qC_Rx_readPattern.1 11 = .ok (.bipush 10, 2) := by decide +kernel
theorem d_Rx_readPattern_13 : decode qC_Rx_readPattern.1 13 = .ok (.sipush 200, 3) := by decide +kernel
theorem d_Rx_readPattern_16 : decode qC_Rx_readPattern.1 16 = .ok (.invokevirtual 75, 3) := by decide +kernel
theorem d_Rx_readPattern_19 : decode qC_Rx_readPattern.1 19 = .ok (.ifCond .eq 20, 3) := by decide +kernel
theorem d_Rx_readPattern_22 : decode qC_Rx_readPattern.1 22 = .ok (.aload_n 0, 1) := by decide +kernel
theorem d_Rx_readPattern_23 : decode qC_Rx_readPattern.1 23 = .ok (.iload_n 1, 1) := by decide +kernel
theorem d_Rx_readPattern_24 : decode qC_Rx_readPattern.1 24 = .ok (.bipush 6, 2) := by decide +kernel
theorem d_Rx_readPattern_26 : decode qC_Rx_readPattern.1 26 = .ok (.iconst 1, 1) := by decide +kernel
theorem d_Rx_readPattern_27 : decode qC_Rx_readPattern.1 27 = .ok (.bipush 9, 2) := by decide +kernel
theorem d_Rx_readPattern_29 : decode qC_Rx_readPattern.1 29 = .ok (.invokevirtual 75, 3) := by decide +kernel
theorem d_Rx_readPattern_32 : decode qC_Rx_readPattern.1 32 = .ok (.ifCond .eq 7, 3) := by decide +kernel
theorem d_Rx_readPattern_35 : decode qC_Rx_readPattern.1 35 = .ok (.iconst 1, 1) := by decide +kernel
theorem d_Rx_readPattern_36 : decode qC_Rx_readPattern.1 36 = .ok (.goto 4, 3) := by decide +kernel
theorem d_Rx_readPattern_39 : decode qC_Rx_readPattern.1 39 = .ok (.iconst 0, 1) := by decide +kernel
theorem d_Rx_readPattern_40 : decode qC_Rx_readPattern.1 40 = .ok (.ireturn, 1) := by decide +kernel
set_option maxRecDepth 100000 in
def f_Rx_readPattern (σ : St) (o : Nat) (p1 : Int32) : Option (Int32 × St) :=
  Option.bind (f_Rx_readSide σ o p1) fun x1 =>
  Jn (fun (x2 : Int32) (σ3 : St) =>
  Gd ((x2 : Int32) &&& 1 = x2) <|
  some (x2, σ3)
  ) fun J4 =>
  Jn (fun (σ6 : St) =>
  J4 (0 : Int32) σ6
  ) fun J7 =>
  if (x1.1 : Int32) = 0 then (
  J7 x1.2
  ) else (
  Option.bind (f_Rx_readNumber x1.2 o p1 (5 : Int32) (10 : Int32) (200 : Int32)) fun x8 =>
  if (x8.1 : Int32) = 0 then (
  J7 x8.2
  ) else (
  Option.bind (f_Rx_readNumber x8.2 o p1 (6 : Int32) (1 : Int32) (9 : Int32)) fun x9 =>
  if (x9.1 : Int32) = 0 then (
  J7 x9.2
  ) else (
  J4 (1 : Int32) x9.2
  )
  )
  )
set_option maxHeartbeats 4000000 in
set_option maxRecDepth 100000 in
theorem cC_Rx_readPattern (l : Launch) (g : Ge) (hi : injB wC.2 g) (σ : St) (o : Nat) (ho : wC.2.2.1 o = .inr (6, 8)) (p1 : Int32) (x : Int32 × St) (h : f_Rx_readPattern σ o p1 = some x) : Ct l wC g yC_Rx_readPattern qC_Rx_readPattern 3 67 [.ref (g.1 o), .int p1] σ (some (.int x.1), x.2) := by
  refine Ct.of (out := o_w) FC_Rx_readPattern rfl hi rfl h (fun z hz C => ?_)
  clear h
  subst hz
  unfold f_Rx_readPattern
  show Rt z qC_Rx_readPattern wC g o_w 0 [(0, .ref (g.1 o)), (1, .int p1)] [] σ _
  refine q_aload_n (pc' := 1) C 0 d_Rx_readPattern_0 rfl rfl ?_
  refine q_iload_n (pc' := 2) C 1 d_Rx_readPattern_1 rfl rfl ?_
  refine q_callVw (fr' := 2) (lo' := 41) (pc' := 5) C FC_Rx_readSide lmC_Rx_111 d_Rx_readPattern_2 o (jCo ho) ho cC_6 [.int p1] [] rfl rfl (Nat.le_of_ble_eq_true rfl) ⟨rfl, rfl⟩ (fun x h => cC_Rx_readSide _ g hi σ o ho p1 x h) rfl (fun x1 hx1 => ?_)
  refine q_join (fun J4 : Int32 → St → Option (Int32 × St) => ∀ (x2 : Int32) (σ3 : St), Rt z qC_Rx_readPattern wC g o_w 40 [] [.int x2] σ3 (J4 x2 σ3)) (fun x2 σ3 => ?_) (fun J4 hJ4 => ?_)
  · refine q_guard (fun gx5 => ?_)
    exact q_zret C rfl gx5 d_Rx_readPattern_40 rfl
  refine q_join (fun J7 : St → Option (Int32 × St) => ∀ (σ6 : St), Rt z qC_Rx_readPattern wC g o_w 39 [] [] σ6 (J7 σ6)) (fun σ6 => ?_) (fun J7 hJ7 => ?_)
  · refine q_iconst (pc' := 40) C d_Rx_readPattern_39 ki_0 rfl ?_
    exact Rt.sub [] rfl (hJ4 (0 : Int32) σ6)
  refine q_if_eq (tgt := 39) (pc' := 8) C d_Rx_readPattern_5 rfl rfl ?_ ?_
  · exact Rt.sub [] rfl (hJ7 x1.2)
  · refine q_aload_n (pc' := 9) C 0 d_Rx_readPattern_8 rfl rfl ?_
    refine q_iload_n (pc' := 10) C 1 d_Rx_readPattern_9 rfl rfl ?_
    refine q_iconst (pc' := 11) C d_Rx_readPattern_10 ki_5 rfl ?_
    refine q_bipush (pc' := 13) C d_Rx_readPattern_11 kb_10 rfl ?_
    refine q_sipush (pc' := 16) C d_Rx_readPattern_13 ks_200 rfl ?_
    refine q_callVw (fr' := 2) (lo' := 41) (pc' := 19) C FC_Rx_readNumber lmC_Rx_75 d_Rx_readPattern_16 o (jCo ho) ho cC_6 [.int p1, .int (5 : Int32), .int (10 : Int32), .int (200 : Int32)] [] rfl rfl (Nat.le_of_ble_eq_true rfl) ⟨rfl, rfl⟩ (fun x h => cC_Rx_readNumber _ g hi x1.2 o ho p1 (5 : Int32) (10 : Int32) (200 : Int32) x h) rfl (fun x8 hx8 => ?_)
    refine q_if_eq (tgt := 39) (pc' := 22) C d_Rx_readPattern_19 rfl rfl ?_ ?_
    · exact Rt.sub [] rfl (hJ7 x8.2)
    · refine q_aload_n (pc' := 23) C 0 d_Rx_readPattern_22 rfl rfl ?_
      refine q_iload_n (pc' := 24) C 1 d_Rx_readPattern_23 rfl rfl ?_
      refine q_bipush (pc' := 26) C d_Rx_readPattern_24 kb_6 rfl ?_
      refine q_iconst (pc' := 27) C d_Rx_readPattern_26 ki_1 rfl ?_
      refine q_bipush (pc' := 29) C d_Rx_readPattern_27 kb_9 rfl ?_
      refine q_callVw (fr' := 2) (lo' := 41) (pc' := 32) C FC_Rx_readNumber lmC_Rx_75 d_Rx_readPattern_29 o (jCo ho) ho cC_6 [.int p1, .int (6 : Int32), .int (1 : Int32), .int (9 : Int32)] [] rfl rfl (Nat.le_of_ble_eq_true rfl) ⟨rfl, rfl⟩ (fun x h => cC_Rx_readNumber _ g hi x8.2 o ho p1 (6 : Int32) (1 : Int32) (9 : Int32) x h) rfl (fun x9 hx9 => ?_)
      refine q_if_eq (tgt := 39) (pc' := 35) C d_Rx_readPattern_32 rfl rfl ?_ ?_
      · exact Rt.sub [] rfl (hJ7 x9.2)
      · refine q_iconst (pc' := 36) C d_Rx_readPattern_35 ki_1 rfl ?_
        refine q_goto (tgt := 40) C d_Rx_readPattern_36 rfl ?_
        exact Rt.sub [] rfl (hJ4 (1 : Int32) x9.2)
theorem d_Rx_readKind_0 : decode qC_Rx_readKind.1 0 = .ok (.aload_n 0, 1) := by decide +kernel
theorem d_Rx_readKind_1 : decode qC_Rx_readKind.1 1 = .ok (.invokevirtual 64, 3) := by decide +kernel
theorem d_Rx_readKind_4 : decode qC_Rx_readKind.1 4 = .ok (.istore_n 2, 1) := by decide +kernel
theorem d_Rx_readKind_5 : decode qC_Rx_readKind.1 5 = .ok (.iload_n 2, 1) := by decide +kernel
theorem d_Rx_readKind_6 : decode qC_Rx_readKind.1 6 = .ok (.iconst (-1), 1) := by decide +kernel
theorem d_Rx_readKind_7 : decode qC_Rx_readKind.1 7 = .ok (.if_icmp .ne 5, 3) := by decide +kernel
theorem d_Rx_readKind_10 : decode qC_Rx_readKind.1 10 = .ok (.iconst 0, 1) := by decide +kernel
theorem d_Rx_readKind_11 : decode qC_Rx_readKind.1 11 = .ok (.ireturn, 1) := by decide +kernel
theorem d_Rx_readKind_12 : decode qC_Rx_readKind.1 12 = .ok (.aload_n 0, 1) := by decide +kernel
theorem d_Rx_readKind_13 : decode qC_Rx_readKind.1 13 = .ok (.invokevirtual 46, 3) := by decide +kernel
theorem d_Rx_readKind_16 : decode qC_Rx_readKind.1 16 = .ok (.aload_n 0, 1) := by decide +kernel
theorem d_Rx_readKind_17 : decode qC_Rx_readKind.1 17 = .ok (.getfield 22, 3) := by decide +kernel
theorem d_Rx_readKind_20 : decode qC_Rx_readKind.1 20 = .ok (.iload_n 1, 1) := by decide +kernel
theorem d_Rx_readKind_21 : decode qC_Rx_readKind.1 21 = .ok (.iload_n 2, 1) := by decide +kernel
theorem d_Rx_readKind_22 : decode qC_Rx_readKind.1 22 = .ok (.invokestatic 68, 3) := by decide +kernel
theorem d_Rx_readKind_25 : decode qC_Rx_readKind.1 25 = .ok (.iload_n 2, 1) := by decide +kernel
theorem d_Rx_readKind_26 : decode qC_Rx_readKind.1 26 = .ok (.iconst 4, 1) := by decide +kernel
theorem d_Rx_readKind_27 : decode qC_Rx_readKind.1 27 = .ok (.if_icmp .eq 24, 3) := by decide +kernel
theorem d_Rx_readKind_30 : decode qC_Rx_readKind.1 30 = .ok (.iload_n 2, 1) := by decide +kernel
theorem d_Rx_readKind_31 : decode qC_Rx_readKind.1 31 = .ok (.iconst 5, 1) := by decide +kernel
theorem d_Rx_readKind_32 : decode qC_Rx_readKind.1 32 = .ok (.if_icmp .eq 19, 3) := by decide +kernel
theorem d_Rx_readKind_35 : decode qC_Rx_readKind.1 35 = .ok (.iload_n 2, 1) := by decide +kernel
theorem d_Rx_readKind_36 : decode qC_Rx_readKind.1 36 = .ok (.bipush 6, 2) := by decide +kernel
theorem d_Rx_readKind_38 : decode qC_Rx_readKind.1 38 = .ok (.if_icmp .eq 13, 3) := by decide +kernel
theorem d_Rx_readKind_41 : decode qC_Rx_readKind.1 41 = .ok (.aload_n 0, 1) := by decide +kernel
theorem d_Rx_readKind_42 : decode qC_Rx_readKind.1 42 = .ok (.iload_n 1, 1) := by decide +kernel
theorem d_Rx_readKind_43 : decode qC_Rx_readKind.1 43 = .ok (.invokevirtual 72, 3) := by decide +kernel
theorem d_Rx_readKind_46 : decode qC_Rx_readKind.1 46 = .ok (.ifCond .ne 5, 3) := by decide +kernel
theorem d_Rx_readKind_49 : decode qC_Rx_readKind.1 49 = .ok (.iconst 0, 1) := by decide +kernel
theorem d_Rx_readKind_50 : decode qC_Rx_readKind.1 50 = .ok (.ireturn, 1) := by decide +kernel
theorem d_Rx_readKind_51 : decode qC_Rx_readKind.1 51 = .ok (.iload_n 2, 1) := by decide +kernel
theorem d_Rx_readKind_52 : decode qC_Rx_readKind.1 52 = .ok (.iconst 3, 1) := by decide +kernel
theorem d_Rx_readKind_53 : decode qC_Rx_readKind.1 53 = .ok (.if_icmp .lt 17, 3) := by decide +kernel
theorem d_Rx_readKind_56 : decode qC_Rx_readKind.1 56 = .ok (.aload_n 0, 1) := by decide +kernel
theorem d_Rx_readKind_57 : decode qC_Rx_readKind.1 57 = .ok (.iload_n 1, 1) := by decide +kernel
theorem d_Rx_readKind_58 : decode qC_Rx_readKind.1 58 = .ok (.iconst 2, 1) := by decide +kernel
theorem d_Rx_readKind_59 : decode qC_Rx_readKind.1 59 = .ok (.iconst 0, 1) := by decide +kernel
theorem d_Rx_readKind_60 : decode qC_Rx_readKind.1 60 = .ok (.bipush 23, 2) := by decide +kernel
theorem d_Rx_readKind_62 : decode qC_Rx_readKind.1 62 = .ok (.invokevirtual 75, 3) := by decide +kernel
theorem d_Rx_readKind_65 : decode qC_Rx_readKind.1 65 = .ok (.ifCond .ne 5, 3) := by decide +kernel
theorem d_Rx_readKind_68 : decode qC_Rx_readKind.1 68 = .ok (.iconst 0, 1) := by decide +kernel
theorem d_Rx_readKind_69 : decode qC_Rx_readKind.1 69 = .ok (.ireturn, 1) := by decide +kernel
theorem d_Rx_readKind_70 : decode qC_Rx_readKind.1 70 = .ok (.iload_n 2, 1) := by decide +kernel
theorem d_Rx_readKind_71 : decode qC_Rx_readKind.1 71 = .ok (.iconst 4, 1) := by decide +kernel
theorem d_Rx_readKind_72 : decode qC_Rx_readKind.1 72 = .ok (.if_icmp .ne 14, 3) := by decide +kernel
theorem d_Rx_readKind_75 : decode qC_Rx_readKind.1 75 = .ok (.aload_n 0, 1) := by decide +kernel
theorem d_Rx_readKind_76 : decode qC_Rx_readKind.1 76 = .ok (.iload_n 1, 1) := by decide +kernel
theorem d_Rx_readKind_77 : decode qC_Rx_readKind.1 77 = .ok (.iconst 3, 1) := by decide +kernel
theorem d_Rx_readKind_78 : decode qC_Rx_readKind.1 78 = .ok (.iconst 0, 1) := by decide +kernel
theorem d_Rx_readKind_79 : decode qC_Rx_readKind.1 79 = .ok (.sipush 450, 3) := by decide +kernel
theorem d_Rx_readKind_82 : decode qC_Rx_readKind.1 82 = .ok (.invokevirtual 75, 3) := by decide +kernel
theorem d_Rx_readKind_85 : decode qC_Rx_readKind.1 85 = .ok (.ireturn, 1) := by decide +kernel
theorem d_Rx_readKind_86 : decode qC_Rx_readKind.1 86 = .ok (.iload_n 2, 1) := by decide +kernel
theorem d_Rx_readKind_87 : decode qC_Rx_readKind.1 87 = .ok (.bipush 7, 2) := by decide +kernel
theorem d_Rx_readKind_89 : decode qC_Rx_readKind.1 89 = .ok (.if_icmp .ne 11, 3) := by decide +kernel
theorem d_Rx_readKind_92 : decode qC_Rx_readKind.1 92 = .ok (.aload_n 0, 1) := by decide +kernel
theorem d_Rx_readKind_93 : decode qC_Rx_readKind.1 93 = .ok (.iload_n 1, 1) := by decide +kernel
theorem d_Rx_readKind_94 : decode qC_Rx_readKind.1 94 = .ok (.invokevirtual 79, 3) := by decide +kernel
theorem d_Rx_readKind_97 : decode qC_Rx_readKind.1 97 = .ok (.ifCond .eq 7, 3) := by decide +kernel
theorem d_Rx_readKind_100 : decode qC_Rx_readKind.1 100 = .ok (.iconst 1, 1) := by decide +kernel
theorem d_Rx_readKind_101 : decode qC_Rx_readKind.1 101 = .ok (.goto 4, 3) := by decide +kernel
theorem d_Rx_readKind_104 : decode qC_Rx_readKind.1 104 = .ok (.iconst 0, 1) := by decide +kernel
theorem d_Rx_readKind_105 : decode qC_Rx_readKind.1 105 = .ok (.ireturn, 1) := by decide +kernel
set_option maxRecDepth 100000 in
def f_Rx_readKind (σ : St) (o : Nat) (p1 : Int32) : Option (Int32 × St) :=
  Option.bind (f_Rx_kindNamed σ o) fun x1 =>
  if (x1 : Int32) = (-1 : Int32) then (
  some ((0 : Int32), σ)
  ) else (
  Option.bind (f_Rx_nextToken σ o) fun x2 =>
  Option.bind (f_Pl_putPlainLeg x2 (rc o 2) p1 x1) fun x3 =>
  Jn (fun (σ4 : St) =>
  Jn (fun (σ6 : St) =>
  if (x1 : Int32) = (4 : Int32) then (
  Option.bind (f_Rx_readNumber σ6 o p1 (3 : Int32) (0 : Int32) (450 : Int32)) fun x15 =>
  Gd ((x15.1 : Int32) &&& 1 = x15.1) <|
  some (x15.1, x15.2)
  ) else (
  Jn (fun (x8 : Int32) (σ9 : St) =>
  Gd ((x8 : Int32) &&& 1 = x8) <|
  some (x8, σ9)
  ) fun J10 =>
  Jn (fun (σ12 : St) =>
  J10 (1 : Int32) σ12
  ) fun J13 =>
  if (x1 : Int32) = (7 : Int32) then (
  Option.bind (f_Rx_readPattern σ6 o p1) fun x14 =>
  if (x14.1 : Int32) = 0 then (
  J10 (0 : Int32) x14.2
  ) else (
  J13 x14.2
  )
  ) else (
  J13 σ6
  )
  )
  ) fun J7 =>
  if (x1 : Int32) < (3 : Int32) then (
  J7 σ4
  ) else (
  Option.bind (f_Rx_readNumber σ4 o p1 (2 : Int32) (0 : Int32) (23 : Int32)) fun x17 =>
  if (x17.1 : Int32) = 0 then (
  some ((0 : Int32), x17.2)
  ) else (
  J7 x17.2
  )
  )
  ) fun J5 =>
  if (x1 : Int32) = (4 : Int32) then (
  J5 x3
  ) else (
  if (x1 : Int32) = (5 : Int32) then (
  J5 x3
  ) else (
  if (x1 : Int32) = (6 : Int32) then (
  J5 x3
  ) else (
  Option.bind (f_Rx_readFix x3 o p1) fun x18 =>
  if (x18.1 : Int32) = 0 then (
  some ((0 : Int32), x18.2)
  ) else (
  J5 x18.2
  )
  )
  )
  )
  )
set_option maxHeartbeats 4000000 in
set_option maxRecDepth 100000 in
theorem cC_Rx_readKind (l : Launch) (g : Ge) (hi : injB wC.2 g) (σ : St) (o : Nat) (ho : wC.2.2.1 o = .inr (6, 8)) (p1 : Int32) (x : Int32 × St) (h : f_Rx_readKind σ o p1 = some x) : Ct l wC g yC_Rx_readKind qC_Rx_readKind 6 127 [.ref (g.1 o), .int p1] σ (some (.int x.1), x.2) := by
  refine Ct.of (out := o_w) FC_Rx_readKind rfl hi rfl h (fun z hz C => ?_)
  clear h
  subst hz
  unfold f_Rx_readKind
  show Rt z qC_Rx_readKind wC g o_w 0 [(0, .ref (g.1 o)), (1, .int p1)] [] σ _
  refine q_aload_n (pc' := 1) C 0 d_Rx_readKind_0 rfl rfl ?_
  refine q_callVr (fr' := 5) (lo' := 106) (pc' := 4) C FC_Rx_kindNamed lmC_Rx_64 d_Rx_readKind_1 o (jCo ho) ho cC_6 [] [] rfl rfl (Nat.le_of_ble_eq_true rfl) ⟨rfl, rfl⟩ (fun x h => cC_Rx_kindNamed _ g hi σ o ho x h) rfl (fun x1 hx1 => ?_)
  refine q_istore_n (pc' := 5) (lv' := [(2, .int x1), (0, .ref (g.1 o)), (1, .int p1)]) C d_Rx_readKind_4 (by decide) rfl rfl ?_
  refine q_iload_n (pc' := 6) C 0 d_Rx_readKind_5 rfl rfl ?_
  refine q_iconst (pc' := 7) C d_Rx_readKind_6 ki_m1 rfl ?_
  refine q_icmp_ne (tgt := 12) (pc' := 10) C d_Rx_readKind_7 rfl rfl ?_ ?_
  · refine q_aload_n (pc' := 13) C 1 d_Rx_readKind_12 rfl rfl ?_
    refine q_callVv (fr' := 1) (lo' := 21) (pc' := 16) C FC_Rx_nextToken lmC_Rx_46 d_Rx_readKind_13 o (jCo ho) ho cC_6 [] [] rfl rfl (Nat.le_of_ble_eq_true rfl) ⟨rfl, rfl⟩ (fun x h => cC_Rx_nextToken _ g hi σ o ho x h) rfl (fun x2 hx2 => ?_)
    refine q_aload_n (pc' := 17) C 1 d_Rx_readKind_16 rfl rfl ?_
    refine gC_Rx_22 (pc' := 20) C o (rc o 2) ho (ly_6_2 ho).1 d_Rx_readKind_17 rfl rfl ?_
    refine q_iload_n (pc' := 21) C 2 d_Rx_readKind_20 rfl rfl ?_
    refine q_iload_n (pc' := 22) C 0 d_Rx_readKind_21 rfl rfl ?_
    refine q_callSv (fr' := 1) (lo' := 23) (pc' := 25) C FC_Pl_putPlainLeg lmC_Rx_68 d_Rx_readKind_22 [.ref (g.1 (rc o 2)), .int p1, .int x1] [] rfl rfl (Nat.le_of_ble_eq_true rfl) ⟨rfl, rfl⟩ (fun x h => cC_Pl_putPlainLeg _ g hi x2 (rc o 2) (ly_6_2 ho).2 p1 x1 x h) rfl (fun x3 hx3 => ?_)
    refine q_iload_n (pc' := 26) C 0 d_Rx_readKind_25 rfl rfl ?_
    refine q_iconst (pc' := 27) C d_Rx_readKind_26 ki_4 rfl ?_
    refine q_join (fun J5 : St → Option (Int32 × St) => ∀ (σ4 : St), Rt z qC_Rx_readKind wC g o_w 51 [(0, .ref (g.1 o)), (1, .int p1), (2, .int x1)] [] σ4 (J5 σ4)) (fun σ4 => ?_) (fun J5 hJ5 => ?_)
    · refine q_iload_n (pc' := 52) C 2 d_Rx_readKind_51 rfl rfl ?_
      refine q_iconst (pc' := 53) C d_Rx_readKind_52 ki_3 rfl ?_
      refine q_join (fun J7 : St → Option (Int32 × St) => ∀ (σ6 : St), Rt z qC_Rx_readKind wC g o_w 70 [(0, .ref (g.1 o)), (1, .int p1), (2, .int x1)] [] σ6 (J7 σ6)) (fun σ6 => ?_) (fun J7 hJ7 => ?_)
      · refine q_iload_n (pc' := 71) C 2 d_Rx_readKind_70 rfl rfl ?_
        refine q_iconst (pc' := 72) C d_Rx_readKind_71 ki_4 rfl ?_
        refine q_icmp_ne (tgt := 86) (pc' := 75) C d_Rx_readKind_72 rfl rfl ?_ ?_
        · refine q_iload_n (pc' := 87) C 2 d_Rx_readKind_86 rfl rfl ?_
          refine q_bipush (pc' := 89) C d_Rx_readKind_87 kb_7 rfl ?_
          refine q_join (fun J10 : Int32 → St → Option (Int32 × St) => ∀ (x8 : Int32) (σ9 : St), Rt z qC_Rx_readKind wC g o_w 105 [] [.int x8] σ9 (J10 x8 σ9)) (fun x8 σ9 => ?_) (fun J10 hJ10 => ?_)
          · refine q_guard (fun gx11 => ?_)
            exact q_zret C rfl gx11 d_Rx_readKind_105 rfl
          refine q_join (fun J13 : St → Option (Int32 × St) => ∀ (σ12 : St), Rt z qC_Rx_readKind wC g o_w 100 [] [] σ12 (J13 σ12)) (fun σ12 => ?_) (fun J13 hJ13 => ?_)
          · refine q_iconst (pc' := 101) C d_Rx_readKind_100 ki_1 rfl ?_
            refine q_goto (tgt := 105) C d_Rx_readKind_101 rfl ?_
            exact Rt.sub [] rfl (hJ10 (1 : Int32) σ12)
          refine q_icmp_ne (tgt := 100) (pc' := 92) C d_Rx_readKind_89 rfl rfl ?_ ?_
          · exact Rt.sub [] rfl (hJ13 σ6)
          · refine q_aload_n (pc' := 93) C 0 d_Rx_readKind_92 rfl rfl ?_
            refine q_iload_n (pc' := 94) C 1 d_Rx_readKind_93 rfl rfl ?_
            refine q_callVw (fr' := 3) (lo' := 67) (pc' := 97) C FC_Rx_readPattern lmC_Rx_79 d_Rx_readKind_94 o (jCo ho) ho cC_6 [.int p1] [] rfl rfl (Nat.le_of_ble_eq_true rfl) ⟨rfl, rfl⟩ (fun x h => cC_Rx_readPattern _ g hi σ6 o ho p1 x h) rfl (fun x14 hx14 => ?_)
            refine q_if_eq (tgt := 104) (pc' := 100) C d_Rx_readKind_97 rfl rfl ?_ ?_
            · refine q_iconst (pc' := 105) C d_Rx_readKind_104 ki_0 rfl ?_
              exact Rt.sub [] rfl (hJ10 (0 : Int32) x14.2)
            · exact Rt.sub [] rfl (hJ13 x14.2)
        · refine q_aload_n (pc' := 76) C 0 d_Rx_readKind_75 rfl rfl ?_
          refine q_iload_n (pc' := 77) C 1 d_Rx_readKind_76 rfl rfl ?_
          refine q_iconst (pc' := 78) C d_Rx_readKind_77 ki_3 rfl ?_
          refine q_iconst (pc' := 79) C d_Rx_readKind_78 ki_0 rfl ?_
          refine q_sipush (pc' := 82) C d_Rx_readKind_79 ks_450 rfl ?_
          refine q_callVw (fr' := 2) (lo' := 41) (pc' := 85) C FC_Rx_readNumber lmC_Rx_75 d_Rx_readKind_82 o (jCo ho) ho cC_6 [.int p1, .int (3 : Int32), .int (0 : Int32), .int (450 : Int32)] [] rfl rfl (Nat.le_of_ble_eq_true rfl) ⟨rfl, rfl⟩ (fun x h => cC_Rx_readNumber _ g hi σ6 o ho p1 (3 : Int32) (0 : Int32) (450 : Int32) x h) rfl (fun x15 hx15 => ?_)
          refine q_guard (fun gx16 => ?_)
          exact q_zret C rfl gx16 d_Rx_readKind_85 rfl
      refine q_icmp_lt (tgt := 70) (pc' := 56) C d_Rx_readKind_53 rfl rfl ?_ ?_
      · exact Rt.sub [0, 1, 2] rfl (hJ7 σ4)
      · refine q_aload_n (pc' := 57) C 0 d_Rx_readKind_56 rfl rfl ?_
        refine q_iload_n (pc' := 58) C 1 d_Rx_readKind_57 rfl rfl ?_
        refine q_iconst (pc' := 59) C d_Rx_readKind_58 ki_2 rfl ?_
        refine q_iconst (pc' := 60) C d_Rx_readKind_59 ki_0 rfl ?_
        refine q_bipush (pc' := 62) C d_Rx_readKind_60 kb_23 rfl ?_
        refine q_callVw (fr' := 2) (lo' := 41) (pc' := 65) C FC_Rx_readNumber lmC_Rx_75 d_Rx_readKind_62 o (jCo ho) ho cC_6 [.int p1, .int (2 : Int32), .int (0 : Int32), .int (23 : Int32)] [] rfl rfl (Nat.le_of_ble_eq_true rfl) ⟨rfl, rfl⟩ (fun x h => cC_Rx_readNumber _ g hi σ4 o ho p1 (2 : Int32) (0 : Int32) (23 : Int32) x h) rfl (fun x17 hx17 => ?_)
        refine q_if_ne (tgt := 70) (pc' := 68) C d_Rx_readKind_65 rfl rfl ?_ ?_
        · exact Rt.sub [0, 1, 2] rfl (hJ7 x17.2)
        · refine q_iconst (pc' := 69) C d_Rx_readKind_68 ki_0 rfl ?_
          exact q_zret C rfl (by decide) d_Rx_readKind_69 rfl
    refine q_icmp_eq (tgt := 51) (pc' := 30) C d_Rx_readKind_27 rfl rfl ?_ ?_
    · exact Rt.sub [1, 2, 0] rfl (hJ5 x3)
    · refine q_iload_n (pc' := 31) C 0 d_Rx_readKind_30 rfl rfl ?_
      refine q_iconst (pc' := 32) C d_Rx_readKind_31 ki_5 rfl ?_
      refine q_icmp_eq (tgt := 51) (pc' := 35) C d_Rx_readKind_32 rfl rfl ?_ ?_
      · exact Rt.sub [1, 2, 0] rfl (hJ5 x3)
      · refine q_iload_n (pc' := 36) C 0 d_Rx_readKind_35 rfl rfl ?_
        refine q_bipush (pc' := 38) C d_Rx_readKind_36 kb_6 rfl ?_
        refine q_icmp_eq (tgt := 51) (pc' := 41) C d_Rx_readKind_38 rfl rfl ?_ ?_
        · exact Rt.sub [1, 2, 0] rfl (hJ5 x3)
        · refine q_aload_n (pc' := 42) C 1 d_Rx_readKind_41 rfl rfl ?_
          refine q_iload_n (pc' := 43) C 2 d_Rx_readKind_42 rfl rfl ?_
          refine q_callVw (fr' := 2) (lo' := 41) (pc' := 46) C FC_Rx_readFix lmC_Rx_72 d_Rx_readKind_43 o (jCo ho) ho cC_6 [.int p1] [] rfl rfl (Nat.le_of_ble_eq_true rfl) ⟨rfl, rfl⟩ (fun x h => cC_Rx_readFix _ g hi x3 o ho p1 x h) rfl (fun x18 hx18 => ?_)
          refine q_if_ne (tgt := 51) (pc' := 49) C d_Rx_readKind_46 rfl rfl ?_ ?_
          · exact Rt.sub [1, 2, 0] rfl (hJ5 x18.2)
          · refine q_iconst (pc' := 50) C d_Rx_readKind_49 ki_0 rfl ?_
            exact q_zret C rfl (by decide) d_Rx_readKind_50 rfl
  · refine q_iconst (pc' := 11) C d_Rx_readKind_10 ki_0 rfl ?_
    exact q_zret C rfl (by decide) d_Rx_readKind_11 rfl
theorem d_Rx_atLegEnd_0 : decode qC_Rx_atLegEnd.1 0 = .ok (.aload_n 0, 1) := by decide +kernel
theorem d_Rx_atLegEnd_1 : decode qC_Rx_atLegEnd.1 1 = .ok (.getfield 33, 3) := by decide +kernel
theorem d_Rx_atLegEnd_4 : decode qC_Rx_atLegEnd.1 4 = .ok (.ifCond .eq 16, 3) := by decide +kernel
theorem d_Rx_atLegEnd_7 : decode qC_Rx_atLegEnd.1 7 = .ok (.aload_n 0, 1) := by decide +kernel
theorem d_Rx_atLegEnd_8 : decode qC_Rx_atLegEnd.1 8 = .ok (.aload_n 0, 1) := by decide +kernel
theorem d_Rx_atLegEnd_9 : decode qC_Rx_atLegEnd.1 9 = .ok (.getfield 36, 3) := by decide +kernel
theorem d_Rx_atLegEnd_12 : decode qC_Rx_atLegEnd.1 12 = .ok (.invokevirtual 57, 3) := by decide +kernel
theorem d_Rx_atLegEnd_15 : decode qC_Rx_atLegEnd.1 15 = .ok (.bipush 59, 2) := by decide +kernel
theorem d_Rx_atLegEnd_17 : decode qC_Rx_atLegEnd.1 17 = .ok (.if_icmp .ne 7, 3) := by decide +kernel
theorem d_Rx_atLegEnd_20 : decode qC_Rx_atLegEnd.1 20 = .ok (.iconst 1, 1) := by decide +kernel
theorem d_Rx_atLegEnd_21 : decode qC_Rx_atLegEnd.1 21 = .ok (.goto 4, 3) := by decide +kernel
theorem d_Rx_atLegEnd_24 : decode qC_Rx_atLegEnd.1 24 = .ok (.iconst 0, 1) := by decide +kernel
theorem d_Rx_atLegEnd_25 : decode qC_Rx_atLegEnd.1 25 = .ok (.ireturn, 1) := by decide +kernel
set_option maxRecDepth 100000 in
def f_Rx_atLegEnd (σ : St) (o : Nat) : Option (Int32) :=
  Jn (fun (x1 : Int32) =>
  Gd ((x1 : Int32) &&& 1 = x1) <|
  some x1
  ) fun J2 =>
  Jn (fun (_ : Unit) =>
  J2 (1 : Int32)
  ) fun J4 =>
  if ((σ o 5) : Int32) = 0 then (
  J4 ()
  ) else (
  Option.bind (f_Rx_byteAt σ o (σ o 6)) fun x5 =>
  if (x5 : Int32) = (59 : Int32) then (
  J4 ()
  ) else (
  J2 (0 : Int32)
  )
  )
set_option maxHeartbeats 4000000 in
set_option maxRecDepth 100000 in
theorem cC_Rx_atLegEnd (l : Launch) (g : Ge) (hi : injB wC.2 g) (σ : St) (o : Nat) (ho : wC.2.2.1 o = .inr (6, 8)) (x : Int32) (h : f_Rx_atLegEnd σ o = some x) : Ct l wC g yC_Rx_atLegEnd qC_Rx_atLegEnd 1 21 [.ref (g.1 o)] σ (some (.int x), σ) := by
  refine Ct.of (out := (o_r σ)) FC_Rx_atLegEnd rfl hi rfl h (fun z hz C => ?_)
  clear h
  subst hz
  unfold f_Rx_atLegEnd
  show Rt z qC_Rx_atLegEnd wC g (o_r σ) 0 [(0, .ref (g.1 o))] [] σ _
  refine q_aload_n (pc' := 1) C 0 d_Rx_atLegEnd_0 rfl rfl ?_
  refine gC_Rx_33 (pc' := 4) C o ho d_Rx_atLegEnd_1 rfl rfl ?_
  refine q_join (fun J2 : Int32 → Option (Int32) => ∀ (x1 : Int32), Rt z qC_Rx_atLegEnd wC g (o_r σ) 25 [] [.int x1] σ (J2 x1)) (fun x1 => ?_) (fun J2 hJ2 => ?_)
  · refine q_guard (fun gx3 => ?_)
    exact q_zret C rfl gx3 d_Rx_atLegEnd_25 rfl
  refine q_join (fun J4 : Unit → Option (Int32) => ∀ (_ : Unit), Rt z qC_Rx_atLegEnd wC g (o_r σ) 20 [] [] σ (J4 ())) (fun _ => ?_) (fun J4 hJ4 => ?_)
  · refine q_iconst (pc' := 21) C d_Rx_atLegEnd_20 ki_1 rfl ?_
    refine q_goto (tgt := 25) C d_Rx_atLegEnd_21 rfl ?_
    exact Rt.sub [] rfl (hJ2 (1 : Int32))
  refine q_if_eq (tgt := 20) (pc' := 7) C d_Rx_atLegEnd_4 rfl rfl ?_ ?_
  · exact Rt.sub [] rfl (hJ4 ())
  · refine q_aload_n (pc' := 8) C 0 d_Rx_atLegEnd_7 rfl rfl ?_
    refine q_aload_n (pc' := 9) C 0 d_Rx_atLegEnd_8 rfl rfl ?_
    refine gC_Rx_36 (pc' := 12) C o ho d_Rx_atLegEnd_9 rfl rfl ?_
    refine q_callVr (fr' := 0) (lo' := 0) (pc' := 15) C FC_Rx_byteAt lmC_Rx_57 d_Rx_atLegEnd_12 o (jCo ho) ho cC_6 [.int (σ o 6)] [] rfl rfl (Nat.le_of_ble_eq_true rfl) ⟨rfl, rfl⟩ (fun x h => cC_Rx_byteAt _ g hi σ o ho (σ o 6) x h) rfl (fun x5 hx5 => ?_)
    refine q_bipush (pc' := 17) C d_Rx_atLegEnd_15 kb_59 rfl ?_
    refine q_icmp_ne (tgt := 24) (pc' := 20) C d_Rx_atLegEnd_17 rfl rfl ?_ ?_
    · refine q_iconst (pc' := 25) C d_Rx_atLegEnd_24 ki_0 rfl ?_
      exact Rt.sub [] rfl (hJ2 (0 : Int32))
    · exact Rt.sub [] rfl (hJ4 ())
theorem d_Rx_readWindow_0 : decode qC_Rx_readWindow.1 0 = .ok (.iload_n 2, 1) := by decide +kernel
theorem d_Rx_readWindow_1 : decode qC_Rx_readWindow.1 1 = .ok (.bipush 45, 2) := by decide +kernel
theorem d_Rx_readWindow_3 : decode qC_Rx_readWindow.1 3 = .ok (.if_icmp .ne 8, 3) := by decide +kernel
theorem d_Rx_readWindow_6 : decode qC_Rx_readWindow.1 6 = .ok (.bipush 10, 2) := by decide +kernel
theorem d_Rx_readWindow_8 : decode qC_Rx_readWindow.1 8 = .ok (.goto 5, 3) := by decide +kernel
theorem d_Rx_readWindow_11 : decode qC_Rx_readWindow.1 11 = .ok (.bipush 9, 2) := by decide +kernel
theorem d_Rx_readWindow_13 : decode qC_Rx_readWindow.1 13 = .ok (.istore_n 3, 1) := by decide +kernel
theorem d_Rx_readWindow_14 : decode qC_Rx_readWindow.1 14 = .ok (.aload_n 0, 1) := by decide +kernel
theorem d_Rx_readWindow_15 : decode qC_Rx_readWindow.1 15 = .ok (.iload_n 1, 1) := by decide +kernel
theorem d_Rx_readWindow_16 : decode qC_Rx_readWindow.1 16 = .ok (.iload_n 3, 1) := by decide +kernel
theorem d_Rx_readWindow_17 : decode qC_Rx_readWindow.1 17 = .ok (.iconst 0, 1) := by decide +kernel
theorem d_Rx_readWindow_18 : decode qC_Rx_readWindow.1 18 = .ok (.sipush 450, 3) := by decide +kernel
theorem d_Rx_readWindow_21 : decode qC_Rx_readWindow.1 21 = .ok (.invokevirtual 75, 3) := by decide +kernel
theorem d_Rx_readWindow_24 : decode qC_Rx_readWindow.1 24 = .ok (.ifCond .ne 5, 3) := by decide +kernel
theorem d_Rx_readWindow_27 : decode qC_Rx_readWindow.1 27 = .ok (.iconst 0, 1) := by decide +kernel
theorem d_Rx_readWindow_28 : decode qC_Rx_readWindow.1 28 = .ok (.ireturn, 1) := by decide +kernel
theorem d_Rx_readWindow_29 : decode qC_Rx_readWindow.1 29 = .ok (.iload_n 2, 1) := by decide +kernel
theorem d_Rx_readWindow_30 : decode qC_Rx_readWindow.1 30 = .ok (.bipush 66, 2) := by decide +kernel
theorem d_Rx_readWindow_32 : decode qC_Rx_readWindow.1 32 = .ok (.if_icmp .ne 24, 3) := by decide +kernel
theorem d_Rx_readWindow_35 : decode qC_Rx_readWindow.1 35 = .ok (.aload_n 0, 1) := by decide +kernel
theorem d_Rx_readWindow_36 : decode qC_Rx_readWindow.1 36 = .ok (.iload_n 1, 1) := by decide +kernel
theorem d_Rx_readWindow_37 : decode qC_Rx_readWindow.1 37 = .ok (.bipush 10, 2) := by decide +kernel
theorem d_Rx_readWindow_39 : decode qC_Rx_readWindow.1 39 = .ok (.aload_n 0, 1) := by decide +kernel
theorem d_Rx_readWindow_40 : decode qC_Rx_readWindow.1 40 = .ok (.getfield 22, 3) := by decide +kernel
theorem d_Rx_readWindow_43 : decode qC_Rx_readWindow.1 43 = .ok (.iload_n 1, 1) := by decide +kernel
theorem d_Rx_readWindow_44 : decode qC_Rx_readWindow.1 44 = .ok (.bipush 9, 2) := by decide +kernel
theorem d_Rx_readWindow_46 : decode qC_Rx_readWindow.1 46 = .ok (.invokevirtual 107, 3) := by decide +kernel
theorem d_Rx_readWindow_49 : decode qC_Rx_readWindow.1 49 = .ok (.sipush 450, 3) := by decide +kernel
theorem d_Rx_readWindow_52 : decode qC_Rx_readWindow.1 52 = .ok (.invokevirtual 75, 3) := by decide +kernel
theorem d_Rx_readWindow_55 : decode qC_Rx_readWindow.1 55 = .ok (.ireturn, 1) := by decide +kernel
theorem d_Rx_readWindow_56 : decode qC_Rx_readWindow.1 56 = .ok (.iload_n 2, 1) := by decide +kernel
theorem d_Rx_readWindow_57 : decode qC_Rx_readWindow.1 57 = .ok (.bipush 65, 2) := by decide +kernel
theorem d_Rx_readWindow_59 : decode qC_Rx_readWindow.1 59 = .ok (.if_icmp .ne 26, 3) := by decide +kernel
theorem d_Rx_readWindow_62 : decode qC_Rx_readWindow.1 62 = .ok (.aload_n 0, 1) := by decide +kernel
theorem d_Rx_readWindow_63 : decode qC_Rx_readWindow.1 63 = .ok (.getfield 22, 3) := by decide +kernel
theorem d_Rx_readWindow_66 : decode qC_Rx_readWindow.1 66 = .ok (.iload_n 1, 1) := by decide +kernel
theorem d_Rx_readWindow_67 : decode qC_Rx_readWindow.1 67 = .ok (.bipush 10, 2) := by decide +kernel
theorem d_Rx_readWindow_69 : decode qC_Rx_readWindow.1 69 = .ok (.aload_n 0, 1) := by decide +kernel
theorem d_Rx_readWindow_70 : decode qC_Rx_readWindow.1 70 = .ok (.getfield 22, 3) := by decide +kernel
theorem d_Rx_readWindow_73 : decode qC_Rx_readWindow.1 73 = .ok (.iload_n 1, 1) := by decide +kernel
theorem d_Rx_readWindow_74 : decode qC_Rx_readWindow.1 74 = .ok (.bipush 9, 2) := by decide +kernel
theorem d_Rx_readWindow_76 : decode qC_Rx_readWindow.1 76 = .ok (.invokevirtual 107, 3) := by decide +kernel
theorem d_Rx_readWindow_79 : decode qC_Rx_readWindow.1 79 = .ok (.invokevirtual 100, 3) := by decide +kernel
theorem d_Rx_readWindow_82 : decode qC_Rx_readWindow.1 82 = .ok (.goto 36, 3) := by decide +kernel
theorem d_Rx_readWindow_85 : decode qC_Rx_readWindow.1 85 = .ok (.iload_n 2, 1) := by decide +kernel
theorem d_Rx_readWindow_86 : decode qC_Rx_readWindow.1 86 = .ok (.bipush 43, 2) := by decide +kernel
theorem d_Rx_readWindow_88 : decode qC_Rx_readWindow.1 88 = .ok (.if_icmp .ne 19, 3) := by decide +kernel
theorem d_Rx_readWindow_91 : decode qC_Rx_readWindow.1 91 = .ok (.aload_n 0, 1) := by decide +kernel
theorem d_Rx_readWindow_92 : decode qC_Rx_readWindow.1 92 = .ok (.getfield 22, 3) := by decide +kernel
theorem d_Rx_readWindow_95 : decode qC_Rx_readWindow.1 95 = .ok (.iload_n 1, 1) := by decide +kernel
theorem d_Rx_readWindow_96 : decode qC_Rx_readWindow.1 96 = .ok (.bipush 10, 2) := by decide +kernel
theorem d_Rx_readWindow_98 : decode qC_Rx_readWindow.1 98 = .ok (.sipush 450, 3) := by decide +kernel
theorem d_Rx_readWindow_101 : decode qC_Rx_readWindow.1 101 = .ok (.invokevirtual 100, 3) := by decide +kernel
theorem d_Rx_readWindow_104 : decode qC_Rx_readWindow.1 104 = .ok (.goto 14, 3) := by decide +kernel
theorem d_Rx_readWindow_107 : decode qC_Rx_readWindow.1 107 = .ok (.aload_n 0, 1) := by decide +kernel
theorem d_Rx_readWindow_108 : decode qC_Rx_readWindow.1 108 = .ok (.getfield 22, 3) := by decide +kernel
theorem d_Rx_readWindow_111 : decode qC_Rx_readWindow.1 111 = .ok (.iload_n 1, 1) := by decide +kernel
theorem d_Rx_readWindow_112 : decode qC_Rx_readWindow.1 112 = .ok (.bipush 9, 2) := by decide +kernel
theorem d_Rx_readWindow_114 : decode qC_Rx_readWindow.1 114 = .ok (.iconst 0, 1) := by decide +kernel
theorem d_Rx_readWindow_115 : decode qC_Rx_readWindow.1 115 = .ok (.invokevirtual 100, 3) := by decide +kernel
theorem d_Rx_readWindow_118 : decode qC_Rx_readWindow.1 118 = .ok (.iconst 1, 1) := by decide +kernel
theorem d_Rx_readWindow_119 : decode qC_Rx_readWindow.1 119 = .ok (.ireturn, 1) := by decide +kernel
set_option maxRecDepth 100000 in
def f_Rx_readWindow (σ : St) (o : Nat) (p1 : Int32) (p2 : Int32) : Option (Int32 × St) :=
  Jn (fun (x1 : Int32) =>
  Option.bind (f_Rx_readNumber σ o p1 x1 (0 : Int32) (450 : Int32)) fun x3 =>
  if (x3.1 : Int32) = 0 then (
  some ((0 : Int32), x3.2)
  ) else (
  if (p2 : Int32) = (66 : Int32) then (
  Option.bind (f_Tb_get x3.2 (rc o 2) p1 (9 : Int32)) fun x10 =>
  Option.bind (f_Rx_readNumber x3.2 o p1 (10 : Int32) x10 (450 : Int32)) fun x11 =>
  Gd ((x11.1 : Int32) &&& 1 = x11.1) <|
  some (x11.1, x11.2)
  ) else (
  Jn (fun (σ4 : St) =>
  some ((1 : Int32), σ4)
  ) fun J5 =>
  if (p2 : Int32) = (65 : Int32) then (
  Option.bind (f_Tb_get x3.2 (rc o 2) p1 (9 : Int32)) fun x8 =>
  Option.bind (f_Tb_put x3.2 (rc o 2) p1 (10 : Int32) x8) fun x9 =>
  J5 x9
  ) else (
  if (p2 : Int32) = (43 : Int32) then (
  Option.bind (f_Tb_put x3.2 (rc o 2) p1 (10 : Int32) (450 : Int32)) fun x7 =>
  J5 x7
  ) else (
  Option.bind (f_Tb_put x3.2 (rc o 2) p1 (9 : Int32) (0 : Int32)) fun x6 =>
  J5 x6
  )
  )
  )
  )
  ) fun J2 =>
  if (p2 : Int32) = (45 : Int32) then (
  J2 (10 : Int32)
  ) else (
  J2 (9 : Int32)
  )
set_option maxHeartbeats 4000000 in
set_option maxRecDepth 100000 in
theorem cC_Rx_readWindow (l : Launch) (g : Ge) (hi : injB wC.2 g) (σ : St) (o : Nat) (ho : wC.2.2.1 o = .inr (6, 8)) (p1 : Int32) (p2 : Int32) (x : Int32 × St) (h : f_Rx_readWindow σ o p1 p2 = some x) : Ct l wC g yC_Rx_readWindow qC_Rx_readWindow 3 67 [.ref (g.1 o), .int p1, .int p2] σ (some (.int x.1), x.2) := by
  refine Ct.of (out := o_w) FC_Rx_readWindow rfl hi rfl h (fun z hz C => ?_)
  clear h
  subst hz
  unfold f_Rx_readWindow
  show Rt z qC_Rx_readWindow wC g o_w 0 [(0, .ref (g.1 o)), (1, .int p1), (2, .int p2)] [] σ _
  refine q_iload_n (pc' := 1) C 2 d_Rx_readWindow_0 rfl rfl ?_
  refine q_bipush (pc' := 3) C d_Rx_readWindow_1 kb_45 rfl ?_
  refine q_join (fun J2 : Int32 → Option (Int32 × St) => ∀ (x1 : Int32), Rt z qC_Rx_readWindow wC g o_w 13 [(0, .ref (g.1 o)), (1, .int p1), (2, .int p2)] [.int x1] σ (J2 x1)) (fun x1 => ?_) (fun J2 hJ2 => ?_)
  · refine q_istore_n (pc' := 14) (lv' := [(3, .int x1), (0, .ref (g.1 o)), (1, .int p1), (2, .int p2)]) C d_Rx_readWindow_13 (by decide) rfl rfl ?_
    refine q_aload_n (pc' := 15) C 1 d_Rx_readWindow_14 rfl rfl ?_
    refine q_iload_n (pc' := 16) C 2 d_Rx_readWindow_15 rfl rfl ?_
    refine q_iload_n (pc' := 17) C 0 d_Rx_readWindow_16 rfl rfl ?_
    refine q_iconst (pc' := 18) C d_Rx_readWindow_17 ki_0 rfl ?_
    refine q_sipush (pc' := 21) C d_Rx_readWindow_18 ks_450 rfl ?_
    refine q_callVw (fr' := 2) (lo' := 41) (pc' := 24) C FC_Rx_readNumber lmC_Rx_75 d_Rx_readWindow_21 o (jCo ho) ho cC_6 [.int p1, .int x1, .int (0 : Int32), .int (450 : Int32)] [] rfl rfl (Nat.le_of_ble_eq_true rfl) ⟨rfl, rfl⟩ (fun x h => cC_Rx_readNumber _ g hi σ o ho p1 x1 (0 : Int32) (450 : Int32) x h) rfl (fun x3 hx3 => ?_)
    refine q_if_ne (tgt := 29) (pc' := 27) C d_Rx_readWindow_24 rfl rfl ?_ ?_
    · refine q_iload_n (pc' := 30) C 3 d_Rx_readWindow_29 rfl rfl ?_
      refine q_bipush (pc' := 32) C d_Rx_readWindow_30 kb_66 rfl ?_
      refine q_icmp_ne (tgt := 56) (pc' := 35) C d_Rx_readWindow_32 rfl rfl ?_ ?_
      · refine q_iload_n (pc' := 57) C 3 d_Rx_readWindow_56 rfl rfl ?_
        refine q_bipush (pc' := 59) C d_Rx_readWindow_57 kb_65 rfl ?_
        refine q_join (fun J5 : St → Option (Int32 × St) => ∀ (σ4 : St), Rt z qC_Rx_readWindow wC g o_w 118 [] [] σ4 (J5 σ4)) (fun σ4 => ?_) (fun J5 hJ5 => ?_)
        · refine q_iconst (pc' := 119) C d_Rx_readWindow_118 ki_1 rfl ?_
          exact q_zret C rfl (by decide) d_Rx_readWindow_119 rfl
        refine q_icmp_ne (tgt := 85) (pc' := 62) C d_Rx_readWindow_59 rfl rfl ?_ ?_
        · refine q_iload_n (pc' := 86) C 3 d_Rx_readWindow_85 rfl rfl ?_
          refine q_bipush (pc' := 88) C d_Rx_readWindow_86 kb_43 rfl ?_
          refine q_icmp_ne (tgt := 107) (pc' := 91) C d_Rx_readWindow_88 rfl rfl ?_ ?_
          · refine q_aload_n (pc' := 108) C 1 d_Rx_readWindow_107 rfl rfl ?_
            refine gC_Rx_22 (pc' := 111) C o (rc o 2) ho (ly_6_2 ho).1 d_Rx_readWindow_108 rfl rfl ?_
            refine q_iload_n (pc' := 112) C 2 d_Rx_readWindow_111 rfl rfl ?_
            refine q_bipush (pc' := 114) C d_Rx_readWindow_112 kb_9 rfl ?_
            refine q_iconst (pc' := 115) C d_Rx_readWindow_114 ki_0 rfl ?_
            refine q_callVv (fr' := 0) (lo' := 0) (pc' := 118) C FC_Tb_put lmC_Rx_100 d_Rx_readWindow_115 (rc o 2) (jCo (ly_6_2 ho).2) (ly_6_2 ho).2 cC_8 [.int p1, .int (9 : Int32), .int (0 : Int32)] [] rfl rfl (Nat.le_of_ble_eq_true rfl) ⟨rfl, rfl⟩ (fun x h => cC_Tb_put _ g hi x3.2 (rc o 2) (ly_6_2 ho).2 p1 (9 : Int32) (0 : Int32) x h) rfl (fun x6 hx6 => ?_)
            exact Rt.sub [] rfl (hJ5 x6)
          · refine q_aload_n (pc' := 92) C 1 d_Rx_readWindow_91 rfl rfl ?_
            refine gC_Rx_22 (pc' := 95) C o (rc o 2) ho (ly_6_2 ho).1 d_Rx_readWindow_92 rfl rfl ?_
            refine q_iload_n (pc' := 96) C 2 d_Rx_readWindow_95 rfl rfl ?_
            refine q_bipush (pc' := 98) C d_Rx_readWindow_96 kb_10 rfl ?_
            refine q_sipush (pc' := 101) C d_Rx_readWindow_98 ks_450 rfl ?_
            refine q_callVv (fr' := 0) (lo' := 0) (pc' := 104) C FC_Tb_put lmC_Rx_100 d_Rx_readWindow_101 (rc o 2) (jCo (ly_6_2 ho).2) (ly_6_2 ho).2 cC_8 [.int p1, .int (10 : Int32), .int (450 : Int32)] [] rfl rfl (Nat.le_of_ble_eq_true rfl) ⟨rfl, rfl⟩ (fun x h => cC_Tb_put _ g hi x3.2 (rc o 2) (ly_6_2 ho).2 p1 (10 : Int32) (450 : Int32) x h) rfl (fun x7 hx7 => ?_)
            refine q_goto (tgt := 118) C d_Rx_readWindow_104 rfl ?_
            exact Rt.sub [] rfl (hJ5 x7)
        · refine q_aload_n (pc' := 63) C 1 d_Rx_readWindow_62 rfl rfl ?_
          refine gC_Rx_22 (pc' := 66) C o (rc o 2) ho (ly_6_2 ho).1 d_Rx_readWindow_63 rfl rfl ?_
          refine q_iload_n (pc' := 67) C 2 d_Rx_readWindow_66 rfl rfl ?_
          refine q_bipush (pc' := 69) C d_Rx_readWindow_67 kb_10 rfl ?_
          refine q_aload_n (pc' := 70) C 1 d_Rx_readWindow_69 rfl rfl ?_
          refine gC_Rx_22 (pc' := 73) C o (rc o 2) ho (ly_6_2 ho).1 d_Rx_readWindow_70 rfl rfl ?_
          refine q_iload_n (pc' := 74) C 2 d_Rx_readWindow_73 rfl rfl ?_
          refine q_bipush (pc' := 76) C d_Rx_readWindow_74 kb_9 rfl ?_
          refine q_callVr (fr' := 0) (lo' := 0) (pc' := 79) C FC_Tb_get lmC_Rx_107 d_Rx_readWindow_76 (rc o 2) (jCo (ly_6_2 ho).2) (ly_6_2 ho).2 cC_8 [.int p1, .int (9 : Int32)] [.int (10 : Int32), .int p1, .ref (g.1 (rc o 2))] rfl rfl (Nat.le_of_ble_eq_true rfl) ⟨rfl, rfl⟩ (fun x h => cC_Tb_get _ g hi x3.2 (rc o 2) (ly_6_2 ho).2 p1 (9 : Int32) x h) rfl (fun x8 hx8 => ?_)
          refine q_callVv (fr' := 0) (lo' := 0) (pc' := 82) C FC_Tb_put lmC_Rx_100 d_Rx_readWindow_79 (rc o 2) (jCo (ly_6_2 ho).2) (ly_6_2 ho).2 cC_8 [.int p1, .int (10 : Int32), .int x8] [] rfl rfl (Nat.le_of_ble_eq_true rfl) ⟨rfl, rfl⟩ (fun x h => cC_Tb_put _ g hi x3.2 (rc o 2) (ly_6_2 ho).2 p1 (10 : Int32) x8 x h) rfl (fun x9 hx9 => ?_)
          refine q_goto (tgt := 118) C d_Rx_readWindow_82 rfl ?_
          exact Rt.sub [] rfl (hJ5 x9)
      · refine q_aload_n (pc' := 36) C 1 d_Rx_readWindow_35 rfl rfl ?_
        refine q_iload_n (pc' := 37) C 2 d_Rx_readWindow_36 rfl rfl ?_
        refine q_bipush (pc' := 39) C d_Rx_readWindow_37 kb_10 rfl ?_
        refine q_aload_n (pc' := 40) C 1 d_Rx_readWindow_39 rfl rfl ?_
        refine gC_Rx_22 (pc' := 43) C o (rc o 2) ho (ly_6_2 ho).1 d_Rx_readWindow_40 rfl rfl ?_
        refine q_iload_n (pc' := 44) C 2 d_Rx_readWindow_43 rfl rfl ?_
        refine q_bipush (pc' := 46) C d_Rx_readWindow_44 kb_9 rfl ?_
        refine q_callVr (fr' := 0) (lo' := 0) (pc' := 49) C FC_Tb_get lmC_Rx_107 d_Rx_readWindow_46 (rc o 2) (jCo (ly_6_2 ho).2) (ly_6_2 ho).2 cC_8 [.int p1, .int (9 : Int32)] [.int (10 : Int32), .int p1, .ref (g.1 o)] rfl rfl (Nat.le_of_ble_eq_true rfl) ⟨rfl, rfl⟩ (fun x h => cC_Tb_get _ g hi x3.2 (rc o 2) (ly_6_2 ho).2 p1 (9 : Int32) x h) rfl (fun x10 hx10 => ?_)
        refine q_sipush (pc' := 52) C d_Rx_readWindow_49 ks_450 rfl ?_
        refine q_callVw (fr' := 2) (lo' := 41) (pc' := 55) C FC_Rx_readNumber lmC_Rx_75 d_Rx_readWindow_52 o (jCo ho) ho cC_6 [.int p1, .int (10 : Int32), .int x10, .int (450 : Int32)] [] rfl rfl (Nat.le_of_ble_eq_true rfl) ⟨rfl, rfl⟩ (fun x h => cC_Rx_readNumber _ g hi x3.2 o ho p1 (10 : Int32) x10 (450 : Int32) x h) rfl (fun x11 hx11 => ?_)
        refine q_guard (fun gx12 => ?_)
        exact q_zret C rfl gx12 d_Rx_readWindow_55 rfl
    · refine q_iconst (pc' := 28) C d_Rx_readWindow_27 ki_0 rfl ?_
      exact q_zret C rfl (by decide) d_Rx_readWindow_28 rfl
  refine q_icmp_ne (tgt := 11) (pc' := 6) C d_Rx_readWindow_3 rfl rfl ?_ ?_
  · refine q_bipush (pc' := 13) C d_Rx_readWindow_11 kb_9 rfl ?_
    exact Rt.sub [0, 1, 2] rfl (hJ2 (9 : Int32))
  · refine q_bipush (pc' := 8) C d_Rx_readWindow_6 kb_10 rfl ?_
    refine q_goto (tgt := 13) C d_Rx_readWindow_8 rfl ?_
    exact Rt.sub [0, 1, 2] rfl (hJ2 (10 : Int32))
theorem d_Rx_readAttribute_0 : decode qC_Rx_readAttribute.1 0 = .ok (.aload_n 0, 1) := by decide +kernel
theorem d_Rx_readAttribute_1 : decode qC_Rx_readAttribute.1 1 = .ok (.invokevirtual 82, 3) := by decide +kernel
theorem d_Rx_readAttribute_4 : decode qC_Rx_readAttribute.1 4 = .ok (.iconst 1, 1) := by decide +kernel
theorem d_Rx_readAttribute_5 : decode qC_Rx_readAttribute.1 5 = .ok (.if_icmp .ne 14, 3) := by decide +kernel
theorem d_Rx_readAttribute_8 : decode qC_Rx_readAttribute.1 8 = .ok (.aload_n 0, 1) := by decide +kernel
theorem d_Rx_readAttribute_9 : decode qC_Rx_readAttribute.1 9 = .ok (.aload_n 0, 1) := by decide +kernel
theorem d_Rx_readAttribute_10 : decode qC_Rx_readAttribute.1 10 = .ok (.getfield 36, 3) := by decide +kernel
theorem d_Rx_readAttribute_13 : decode qC_Rx_readAttribute.1 13 = .ok (.invokevirtual 57, 3) := by decide +kernel
theorem d_Rx_readAttribute_16 : decode qC_Rx_readAttribute.1 16 = .ok (.goto 4, 3) := by decide +kernel
theorem d_Rx_readAttribute_19 : decode qC_Rx_readAttribute.1 19 = .ok (.iconst (-1), 1) := by decide +kernel
theorem d_Rx_readAttribute_20 : decode qC_Rx_readAttribute.1 20 = .ok (.istore_n 2, 1) := by decide +kernel
theorem d_Rx_readAttribute_21 : decode qC_Rx_readAttribute.1 21 = .ok (.iload_n 2, 1) := by decide +kernel
theorem d_Rx_readAttribute_22 : decode qC_Rx_readAttribute.1 22 = .ok (.bipush 79, 2) := by decide +kernel
theorem d_Rx_readAttribute_24 : decode qC_Rx_readAttribute.1 24 = .ok (.if_icmp .eq 35, 3) := by decide +kernel
theorem d_Rx_readAttribute_27 : decode qC_Rx_readAttribute.1 27 = .ok (.iload_n 2, 1) := by decide +kernel
theorem d_Rx_readAttribute_28 : decode qC_Rx_readAttribute.1 28 = .ok (.bipush 65, 2) := by decide +kernel
theorem d_Rx_readAttribute_30 : decode qC_Rx_readAttribute.1 30 = .ok (.if_icmp .eq 29, 3) := by decide +kernel
theorem d_Rx_readAttribute_33 : decode qC_Rx_readAttribute.1 33 = .ok (.iload_n 2, 1) := by decide +kernel
theorem d_Rx_readAttribute_34 : decode qC_Rx_readAttribute.1 34 = .ok (.bipush 43, 2) := by decide +kernel
theorem d_Rx_readAttribute_36 : decode qC_Rx_readAttribute.1 36 = .ok (.if_icmp .eq 23, 3) := by decide +kernel
theorem d_Rx_readAttribute_39 : decode qC_Rx_readAttribute.1 39 = .ok (.iload_n 2, 1) := by decide +kernel
theorem d_Rx_readAttribute_40 : decode qC_Rx_readAttribute.1 40 = .ok (.bipush 45, 2) := by decide +kernel
theorem d_Rx_readAttribute_42 : decode qC_Rx_readAttribute.1 42 = .ok (.if_icmp .eq 17, 3) := by decide +kernel
theorem d_Rx_readAttribute_45 : decode qC_Rx_readAttribute.1 45 = .ok (.iload_n 2, 1) := by decide +kernel
theorem d_Rx_readAttribute_46 : decode qC_Rx_readAttribute.1 46 = .ok (.bipush 66, 2) := by decide +kernel
theorem d_Rx_readAttribute_48 : decode qC_Rx_readAttribute.1 48 = .ok (.if_icmp .eq 11, 3) := by decide +kernel
theorem d_Rx_readAttribute_51 : decode qC_Rx_readAttribute.1 51 = .ok (.iload_n 2, 1) := by decide +kernel
theorem d_Rx_readAttribute_52 : decode qC_Rx_readAttribute.1 52 = .ok (.bipush 83, 2) := by decide +kernel
theorem d_Rx_readAttribute_54 : decode qC_Rx_readAttribute.1 54 = .ok (.if_icmp .eq 5, 3) := by decide +kernel
theorem d_Rx_readAttribute_57 : decode qC_Rx_readAttribute.1 57 = .ok (.iconst 0, 1) := by decide +kernel
theorem d_Rx_readAttribute_58 : decode qC_Rx_readAttribute.1 58 = .ok (.ireturn, 1) := by decide +kernel
theorem d_Rx_readAttribute_59 : decode qC_Rx_readAttribute.1 59 = .ok (.aload_n 0, 1) := by decide +kernel
theorem d_Rx_readAttribute_60 : decode qC_Rx_readAttribute.1 60 = .ok (.invokevirtual 46, 3) := by decide +kernel
theorem d_Rx_readAttribute_63 : decode qC_Rx_readAttribute.1 63 = .ok (.iload_n 2, 1) := by decide +kernel
theorem d_Rx_readAttribute_64 : decode qC_Rx_readAttribute.1 64 = .ok (.bipush 79, 2) := by decide +kernel
theorem d_Rx_readAttribute_66 : decode qC_Rx_readAttribute.1 66 = .ok (.if_icmp .ne 16, 3) := by decide +kernel
theorem d_Rx_readAttribute_69 : decode qC_Rx_readAttribute.1 69 = .ok (.aload_n 0, 1) := by decide +kernel
theorem d_Rx_readAttribute_70 : decode qC_Rx_readAttribute.1 70 = .ok (.getfield 22, 3) := by decide +kernel
theorem d_Rx_readAttribute_73 : decode qC_Rx_readAttribute.1 73 = .ok (.iload_n 1, 1) := by decide +kernel
theorem d_Rx_readAttribute_74 : decode qC_Rx_readAttribute.1 74 = .ok (.bipush 12, 2) := by decide +kernel
theorem d_Rx_readAttribute_76 : decode qC_Rx_readAttribute.1 76 = .ok (.iconst 1, 1) := by decide +kernel
theorem d_Rx_readAttribute_77 : decode qC_Rx_readAttribute.1 77 = .ok (.invokevirtual 100, 3) := by decide +kernel
theorem d_Rx_readAttribute_80 : decode qC_Rx_readAttribute.1 80 = .ok (.iconst 1, 1) := by decide +kernel
theorem d_Rx_readAttribute_81 : decode qC_Rx_readAttribute.1 81 = .ok (.ireturn, 1) := by decide +kernel
theorem d_Rx_readAttribute_82 : decode qC_Rx_readAttribute.1 82 = .ok (.iload_n 2, 1) := by decide +kernel
theorem d_Rx_readAttribute_83 : decode qC_Rx_readAttribute.1 83 = .ok (.bipush 83, 2) := by decide +kernel
theorem d_Rx_readAttribute_85 : decode qC_Rx_readAttribute.1 85 = .ok (.if_icmp .ne 16, 3) := by decide +kernel
theorem d_Rx_readAttribute_88 : decode qC_Rx_readAttribute.1 88 = .ok (.aload_n 0, 1) := by decide +kernel
theorem d_Rx_readAttribute_89 : decode qC_Rx_readAttribute.1 89 = .ok (.iload_n 1, 1) := by decide +kernel
theorem d_Rx_readAttribute_90 : decode qC_Rx_readAttribute.1 90 = .ok (.bipush 11, 2) := by decide +kernel
theorem d_Rx_readAttribute_92 : decode qC_Rx_readAttribute.1 92 = .ok (.bipush 100, 2) := by decide +kernel
theorem d_Rx_readAttribute_94 : decode qC_Rx_readAttribute.1 94 = .ok (.sipush 500, 3) := by decide +kernel
theorem d_Rx_readAttribute_97 : decode qC_Rx_readAttribute.1 97 = .ok (.invokevirtual 75, 3) := by decide +kernel
theorem d_Rx_readAttribute_100 : decode qC_Rx_readAttribute.1 100 = .ok (.ireturn, 1) := by decide +kernel
theorem d_Rx_readAttribute_101 : decode qC_Rx_readAttribute.1 101 = .ok (.aload_n 0, 1) := by decide +kernel
theorem d_Rx_readAttribute_102 : decode qC_Rx_readAttribute.1 102 = .ok (.iload_n 1, 1) := by decide +kernel
theorem d_Rx_readAttribute_103 : decode qC_Rx_readAttribute.1 103 = .ok (.iload_n 2, 1) := by decide +kernel
theorem d_Rx_readAttribute_104 : decode qC_Rx_readAttribute.1 104 = .ok (.invokevirtual 125, 3) := by decide +kernel
theorem d_Rx_readAttribute_107 : decode qC_Rx_readAttribute.1 107 = .ok (.ireturn, 1) := by decide +kernel
set_option maxRecDepth 100000 in
def f_Rx_readAttribute (σ : St) (o : Nat) (p1 : Int32) : Option (Int32 × St) :=
  Option.bind (f_Rx_tokenLength σ o) fun x1 =>
  Jn (fun (x2 : Int32) =>
  Jn (fun (_ : Unit) =>
  Option.bind (f_Rx_nextToken σ o) fun x5 =>
  if (x2 : Int32) = (79 : Int32) then (
  Option.bind (f_Tb_put x5 (rc o 2) p1 (12 : Int32) (1 : Int32)) fun x10 =>
  some ((1 : Int32), x10)
  ) else (
  if (x2 : Int32) = (83 : Int32) then (
  Option.bind (f_Rx_readNumber x5 o p1 (11 : Int32) (100 : Int32) (500 : Int32)) fun x8 =>
  Gd ((x8.1 : Int32) &&& 1 = x8.1) <|
  some (x8.1, x8.2)
  ) else (
  Option.bind (f_Rx_readWindow x5 o p1 x2) fun x6 =>
  Gd ((x6.1 : Int32) &&& 1 = x6.1) <|
  some (x6.1, x6.2)
  )
  )
  ) fun J4 =>
  if (x2 : Int32) = (79 : Int32) then (
  J4 ()
  ) else (
  if (x2 : Int32) = (65 : Int32) then (
  J4 ()
  ) else (
  if (x2 : Int32) = (43 : Int32) then (
  J4 ()
  ) else (
  if (x2 : Int32) = (45 : Int32) then (
  J4 ()
  ) else (
  if (x2 : Int32) = (66 : Int32) then (
  J4 ()
  ) else (
  if (x2 : Int32) = (83 : Int32) then (
  J4 ()
  ) else (
  some ((0 : Int32), σ)
  )
  )
  )
  )
  )
  )
  ) fun J3 =>
  if (x1 : Int32) = (1 : Int32) then (
  Option.bind (f_Rx_byteAt σ o (σ o 6)) fun x11 =>
  J3 x11
  ) else (
  J3 (-1 : Int32)
  )
set_option maxHeartbeats 4000000 in
set_option maxRecDepth 100000 in
theorem cC_Rx_readAttribute (l : Launch) (g : Ge) (hi : injB wC.2 g) (σ : St) (o : Nat) (ho : wC.2.2.1 o = .inr (6, 8)) (p1 : Int32) (x : Int32 × St) (h : f_Rx_readAttribute σ o p1 = some x) : Ct l wC g yC_Rx_readAttribute qC_Rx_readAttribute 4 90 [.ref (g.1 o), .int p1] σ (some (.int x.1), x.2) := by
  refine Ct.of (out := o_w) FC_Rx_readAttribute rfl hi rfl h (fun z hz C => ?_)
  clear h
  subst hz
  unfold f_Rx_readAttribute
  show Rt z qC_Rx_readAttribute wC g o_w 0 [(0, .ref (g.1 o)), (1, .int p1)] [] σ _
  refine q_aload_n (pc' := 1) C 0 d_Rx_readAttribute_0 rfl rfl ?_
  refine q_callVr (fr' := 0) (lo' := 0) (pc' := 4) C FC_Rx_tokenLength lmC_Rx_82 d_Rx_readAttribute_1 o (jCo ho) ho cC_6 [] [] rfl rfl (Nat.le_of_ble_eq_true rfl) ⟨rfl, rfl⟩ (fun x h => cC_Rx_tokenLength _ g hi σ o ho x h) rfl (fun x1 hx1 => ?_)
  refine q_iconst (pc' := 5) C d_Rx_readAttribute_4 ki_1 rfl ?_
  refine q_join (fun J3 : Int32 → Option (Int32 × St) => ∀ (x2 : Int32), Rt z qC_Rx_readAttribute wC g o_w 20 [(0, .ref (g.1 o)), (1, .int p1)] [.int x2] σ (J3 x2)) (fun x2 => ?_) (fun J3 hJ3 => ?_)
  · refine q_istore_n (pc' := 21) (lv' := [(2, .int x2), (0, .ref (g.1 o)), (1, .int p1)]) C d_Rx_readAttribute_20 (by decide) rfl rfl ?_
    refine q_iload_n (pc' := 22) C 0 d_Rx_readAttribute_21 rfl rfl ?_
    refine q_bipush (pc' := 24) C d_Rx_readAttribute_22 kb_79 rfl ?_
    refine q_join (fun J4 : Unit → Option (Int32 × St) => ∀ (_ : Unit), Rt z qC_Rx_readAttribute wC g o_w 59 [(0, .ref (g.1 o)), (1, .int p1), (2, .int x2)] [] σ (J4 ())) (fun _ => ?_) (fun J4 hJ4 => ?_)
    · refine q_aload_n (pc' := 60) C 0 d_Rx_readAttribute_59 rfl rfl ?_
      refine q_callVv (fr' := 1) (lo' := 21) (pc' := 63) C FC_Rx_nextToken lmC_Rx_46 d_Rx_readAttribute_60 o (jCo ho) ho cC_6 [] [] rfl rfl (Nat.le_of_ble_eq_true rfl) ⟨rfl, rfl⟩ (fun x h => cC_Rx_nextToken _ g hi σ o ho x h) rfl (fun x5 hx5 => ?_)
      refine q_iload_n (pc' := 64) C 2 d_Rx_readAttribute_63 rfl rfl ?_
      refine q_bipush (pc' := 66) C d_Rx_readAttribute_64 kb_79 rfl ?_
      refine q_icmp_ne (tgt := 82) (pc' := 69) C d_Rx_readAttribute_66 rfl rfl ?_ ?_
      · refine q_iload_n (pc' := 83) C 2 d_Rx_readAttribute_82 rfl rfl ?_
        refine q_bipush (pc' := 85) C d_Rx_readAttribute_83 kb_83 rfl ?_
        refine q_icmp_ne (tgt := 101) (pc' := 88) C d_Rx_readAttribute_85 rfl rfl ?_ ?_
        · refine q_aload_n (pc' := 102) C 0 d_Rx_readAttribute_101 rfl rfl ?_
          refine q_iload_n (pc' := 103) C 1 d_Rx_readAttribute_102 rfl rfl ?_
          refine q_iload_n (pc' := 104) C 2 d_Rx_readAttribute_103 rfl rfl ?_
          refine q_callVw (fr' := 3) (lo' := 67) (pc' := 107) C FC_Rx_readWindow lmC_Rx_125 d_Rx_readAttribute_104 o (jCo ho) ho cC_6 [.int p1, .int x2] [] rfl rfl (Nat.le_of_ble_eq_true rfl) ⟨rfl, rfl⟩ (fun x h => cC_Rx_readWindow _ g hi x5 o ho p1 x2 x h) rfl (fun x6 hx6 => ?_)
          refine q_guard (fun gx7 => ?_)
          exact q_zret C rfl gx7 d_Rx_readAttribute_107 rfl
        · refine q_aload_n (pc' := 89) C 0 d_Rx_readAttribute_88 rfl rfl ?_
          refine q_iload_n (pc' := 90) C 1 d_Rx_readAttribute_89 rfl rfl ?_
          refine q_bipush (pc' := 92) C d_Rx_readAttribute_90 kb_11 rfl ?_
          refine q_bipush (pc' := 94) C d_Rx_readAttribute_92 kb_100 rfl ?_
          refine q_sipush (pc' := 97) C d_Rx_readAttribute_94 ks_500 rfl ?_
          refine q_callVw (fr' := 2) (lo' := 41) (pc' := 100) C FC_Rx_readNumber lmC_Rx_75 d_Rx_readAttribute_97 o (jCo ho) ho cC_6 [.int p1, .int (11 : Int32), .int (100 : Int32), .int (500 : Int32)] [] rfl rfl (Nat.le_of_ble_eq_true rfl) ⟨rfl, rfl⟩ (fun x h => cC_Rx_readNumber _ g hi x5 o ho p1 (11 : Int32) (100 : Int32) (500 : Int32) x h) rfl (fun x8 hx8 => ?_)
          refine q_guard (fun gx9 => ?_)
          exact q_zret C rfl gx9 d_Rx_readAttribute_100 rfl
      · refine q_aload_n (pc' := 70) C 0 d_Rx_readAttribute_69 rfl rfl ?_
        refine gC_Rx_22 (pc' := 73) C o (rc o 2) ho (ly_6_2 ho).1 d_Rx_readAttribute_70 rfl rfl ?_
        refine q_iload_n (pc' := 74) C 1 d_Rx_readAttribute_73 rfl rfl ?_
        refine q_bipush (pc' := 76) C d_Rx_readAttribute_74 kb_12 rfl ?_
        refine q_iconst (pc' := 77) C d_Rx_readAttribute_76 ki_1 rfl ?_
        refine q_callVv (fr' := 0) (lo' := 0) (pc' := 80) C FC_Tb_put lmC_Rx_100 d_Rx_readAttribute_77 (rc o 2) (jCo (ly_6_2 ho).2) (ly_6_2 ho).2 cC_8 [.int p1, .int (12 : Int32), .int (1 : Int32)] [] rfl rfl (Nat.le_of_ble_eq_true rfl) ⟨rfl, rfl⟩ (fun x h => cC_Tb_put _ g hi x5 (rc o 2) (ly_6_2 ho).2 p1 (12 : Int32) (1 : Int32) x h) rfl (fun x10 hx10 => ?_)
        refine q_iconst (pc' := 81) C d_Rx_readAttribute_80 ki_1 rfl ?_
        exact q_zret C rfl (by decide) d_Rx_readAttribute_81 rfl
    refine q_icmp_eq (tgt := 59) (pc' := 27) C d_Rx_readAttribute_24 rfl rfl ?_ ?_
    · exact Rt.sub [1, 2, 0] rfl (hJ4 ())
    · refine q_iload_n (pc' := 28) C 0 d_Rx_readAttribute_27 rfl rfl ?_
      refine q_bipush (pc' := 30) C d_Rx_readAttribute_28 kb_65 rfl ?_
      refine q_icmp_eq (tgt := 59) (pc' := 33) C d_Rx_readAttribute_30 rfl rfl ?_ ?_
      · exact Rt.sub [1, 2, 0] rfl (hJ4 ())
      · refine q_iload_n (pc' := 34) C 0 d_Rx_readAttribute_33 rfl rfl ?_
        refine q_bipush (pc' := 36) C d_Rx_readAttribute_34 kb_43 rfl ?_
        refine q_icmp_eq (tgt := 59) (pc' := 39) C d_Rx_readAttribute_36 rfl rfl ?_ ?_
        · exact Rt.sub [1, 2, 0] rfl (hJ4 ())
        · refine q_iload_n (pc' := 40) C 0 d_Rx_readAttribute_39 rfl rfl ?_
          refine q_bipush (pc' := 42) C d_Rx_readAttribute_40 kb_45 rfl ?_
          refine q_icmp_eq (tgt := 59) (pc' := 45) C d_Rx_readAttribute_42 rfl rfl ?_ ?_
          · exact Rt.sub [1, 2, 0] rfl (hJ4 ())
          · refine q_iload_n (pc' := 46) C 0 d_Rx_readAttribute_45 rfl rfl ?_
            refine q_bipush (pc' := 48) C d_Rx_readAttribute_46 kb_66 rfl ?_
            refine q_icmp_eq (tgt := 59) (pc' := 51) C d_Rx_readAttribute_48 rfl rfl ?_ ?_
            · exact Rt.sub [1, 2, 0] rfl (hJ4 ())
            · refine q_iload_n (pc' := 52) C 0 d_Rx_readAttribute_51 rfl rfl ?_
              refine q_bipush (pc' := 54) C d_Rx_readAttribute_52 kb_83 rfl ?_
              refine q_icmp_eq (tgt := 59) (pc' := 57) C d_Rx_readAttribute_54 rfl rfl ?_ ?_
              · exact Rt.sub [1, 2, 0] rfl (hJ4 ())
              · refine q_iconst (pc' := 58) C d_Rx_readAttribute_57 ki_0 rfl ?_
                exact q_zret C rfl (by decide) d_Rx_readAttribute_58 rfl
  refine q_icmp_ne (tgt := 19) (pc' := 8) C d_Rx_readAttribute_5 rfl rfl ?_ ?_
  · refine q_iconst (pc' := 20) C d_Rx_readAttribute_19 ki_m1 rfl ?_
    exact Rt.sub [0, 1] rfl (hJ3 (-1 : Int32))
  · refine q_aload_n (pc' := 9) C 0 d_Rx_readAttribute_8 rfl rfl ?_
    refine q_aload_n (pc' := 10) C 0 d_Rx_readAttribute_9 rfl rfl ?_
    refine gC_Rx_36 (pc' := 13) C o ho d_Rx_readAttribute_10 rfl rfl ?_
    refine q_callVr (fr' := 0) (lo' := 0) (pc' := 16) C FC_Rx_byteAt lmC_Rx_57 d_Rx_readAttribute_13 o (jCo ho) ho cC_6 [.int (σ o 6)] [] rfl rfl (Nat.le_of_ble_eq_true rfl) ⟨rfl, rfl⟩ (fun x h => cC_Rx_byteAt _ g hi σ o ho (σ o 6) x h) rfl (fun x11 hx11 => ?_)
    refine q_goto (tgt := 20) C d_Rx_readAttribute_16 rfl ?_
    exact Rt.sub [0, 1] rfl (hJ3 x11)
theorem d_Rx_readAttributes_0 : decode qC_Rx_readAttributes.1 0 = .ok (.iconst 0, 1) := by decide +kernel
theorem d_Rx_readAttributes_1 : decode qC_Rx_readAttributes.1 1 = .ok (.istore_n 2, 1) := by decide +kernel
theorem d_Rx_readAttributes_2 : decode qC_Rx_readAttributes.1 2 = .ok (.iload_n 2, 1) := by decide +kernel
theorem d_Rx_readAttributes_3 : decode qC_Rx_readAttributes.1 3 = .ok (.sipush 200, 3) := by decide +kernel
theorem d_Rx_readAttributes_6 : decode qC_Rx_readAttributes.1 6 = .ok (.if_icmp .ge 26, 3) := by decide +kernel
theorem d_Rx_readAttributes_9 : decode qC_Rx_readAttributes.1 9 = .ok (.aload_n 0, 1) := by decide +kernel
theorem d_Rx_readAttributes_10 : decode qC_Rx_readAttributes.1 10 = .ok (.invokevirtual 118, 3) := by decide +kernel
theorem d_Rx_readAttributes_13 : decode qC_Rx_readAttributes.1 13 = .ok (.ifCond .ne 19, 3) := by decide +kernel
theorem d_Rx_readAttributes_16 : decode qC_Rx_readAttributes.1 16 = .ok (.aload_n 0, 1) := by decide +kernel
theorem d_Rx_readAttributes_17 : decode qC_Rx_readAttributes.1 17 = .ok (.iload_n 1, 1) := by decide +kernel
theorem d_Rx_readAttributes_18 : decode qC_Rx_readAttributes.1 18 = .ok (.invokevirtual 122, 3) := by decide +kernel
theorem d_Rx_readAttributes_21 : decode qC_Rx_readAttributes.1 21 = .ok (.ifCond .ne 5, 3) := by decide +kernel
theorem d_Rx_readAttributes_24 : decode qC_Rx_readAttributes.1 24 = .ok (.iconst 0, 1) := by decide +kernel
theorem d_Rx_readAttributes_25 : decode qC_Rx_readAttributes.1 25 = .ok (.ireturn, 1) := by decide +kernel
theorem d_Rx_readAttributes_26 : decode qC_Rx_readAttributes.1 26 = .ok (.iinc 2 1, 3) := by decide +kernel
theorem d_Rx_readAttributes_29 : decode qC_Rx_readAttributes.1 29 = .ok (.goto (-27), 3) := by decide +kernel
theorem d_Rx_readAttributes_32 : decode qC_Rx_readAttributes.1 32 = .ok (.aload_n 0, 1) := by decide +kernel
theorem d_Rx_readAttributes_33 : decode qC_Rx_readAttributes.1 33 = .ok (.invokevirtual 118, 3) := by decide +kernel
theorem d_Rx_readAttributes_36 : decode qC_Rx_readAttributes.1 36 = .ok (.ireturn, 1) := by decide +kernel
set_option maxRecDepth 100000 in
def lb_f_Rx_readAttributes_2 (o : Nat) (p1 : Int32) (J2 : St → Option (Int32 × St)) (J4 : St → Option (Int32 × St)) (ih8 : Int32 × St → Option (Int32 × St)) (a7 : Int32 × St) : Option (Int32 × St) :=
  if ((200 : Int32) : Int32) ≤ a7.1 then (
  J4 a7.2
  ) else (
  Option.bind (f_Rx_atLegEnd a7.2 o) fun x9 =>
  if (x9 : Int32) = 0 then (
  Option.bind (f_Rx_readAttribute a7.2 o p1) fun x10 =>
  if (x10.1 : Int32) = 0 then (
  J2 x10.2
  ) else (
  Lt (a7.1 + (1 : Int32) : Int32) fun x11 =>
  ih8 (x11, x10.2)
  )
  ) else (
  J4 a7.2
  )
  )
set_option maxRecDepth 100000 in
def f_Rx_readAttributes (σ : St) (o : Nat) (p1 : Int32) : Option (Int32 × St) :=
  Jn (fun (σ1 : St) =>
  some ((0 : Int32), σ1)
  ) fun J2 =>
  Jn (fun (σ3 : St) =>
  Option.bind (f_Rx_atLegEnd σ3 o) fun x5 =>
  Gd ((x5 : Int32) &&& 1 = x5) <|
  some (x5, σ3)
  ) fun J4 =>
  lp (lb_f_Rx_readAttributes_2 o p1 J2 J4) 4000 ((0 : Int32), σ)
set_option maxHeartbeats 4000000 in
set_option maxRecDepth 100000 in
theorem cC_Rx_readAttributes (l : Launch) (g : Ge) (hi : injB wC.2 g) (σ : St) (o : Nat) (ho : wC.2.2.1 o = .inr (6, 8)) (p1 : Int32) (x : Int32 × St) (h : f_Rx_readAttributes σ o p1 = some x) : Ct l wC g yC_Rx_readAttributes qC_Rx_readAttributes 5 112 [.ref (g.1 o), .int p1] σ (some (.int x.1), x.2) := by
  refine Ct.of (out := o_w) FC_Rx_readAttributes rfl hi rfl h (fun z hz C => ?_)
  clear h
  subst hz
  unfold f_Rx_readAttributes
  show Rt z qC_Rx_readAttributes wC g o_w 0 [(0, .ref (g.1 o)), (1, .int p1)] [] σ _
  refine q_iconst (pc' := 1) C d_Rx_readAttributes_0 ki_0 rfl ?_
  refine q_istore_n (pc' := 2) (lv' := [(2, .int (0 : Int32)), (0, .ref (g.1 o)), (1, .int p1)]) C d_Rx_readAttributes_1 (by decide) rfl rfl ?_
  refine q_join (fun J2 : St → Option (Int32 × St) => ∀ (σ1 : St), Rt z qC_Rx_readAttributes wC g o_w 24 [] [] σ1 (J2 σ1)) (fun σ1 => ?_) (fun J2 hJ2 => ?_)
  · refine q_iconst (pc' := 25) C d_Rx_readAttributes_24 ki_0 rfl ?_
    exact q_zret C rfl (by decide) d_Rx_readAttributes_25 rfl
  refine q_join (fun J4 : St → Option (Int32 × St) => ∀ (σ3 : St), Rt z qC_Rx_readAttributes wC g o_w 32 [(0, .ref (g.1 o))] [] σ3 (J4 σ3)) (fun σ3 => ?_) (fun J4 hJ4 => ?_)
  · refine q_aload_n (pc' := 33) C 0 d_Rx_readAttributes_32 rfl rfl ?_
    refine q_callVr (fr' := 1) (lo' := 21) (pc' := 36) C FC_Rx_atLegEnd lmC_Rx_118 d_Rx_readAttributes_33 o (jCo ho) ho cC_6 [] [] rfl rfl (Nat.le_of_ble_eq_true rfl) ⟨rfl, rfl⟩ (fun x h => cC_Rx_atLegEnd _ g hi σ3 o ho x h) rfl (fun x5 hx5 => ?_)
    refine q_guard (fun gx6 => ?_)
    exact q_zret C rfl gx6 d_Rx_readAttributes_36 rfl
  refine Rt.sub [1, 2, 0] rfl (q_lp (fun a7 : Int32 × St => [(0, .ref (g.1 o)), (1, .int p1), (2, .int a7.1)]) (fun a7 => []) (fun a7 => a7.2) (fun ih8 hih8 a7 => ?_) 4000 ((0 : Int32), σ))
  unfold lb_f_Rx_readAttributes_2
  refine q_iload_n (pc' := 3) C 2 d_Rx_readAttributes_2 rfl rfl ?_
  refine q_sipush (pc' := 6) C d_Rx_readAttributes_3 ks_200 rfl ?_
  refine q_icmp_ge (tgt := 32) (pc' := 9) C d_Rx_readAttributes_6 rfl rfl ?_ ?_
  · exact Rt.sub [0] rfl (hJ4 a7.2)
  · refine q_aload_n (pc' := 10) C 0 d_Rx_readAttributes_9 rfl rfl ?_
    refine q_callVr (fr' := 1) (lo' := 21) (pc' := 13) C FC_Rx_atLegEnd lmC_Rx_118 d_Rx_readAttributes_10 o (jCo ho) ho cC_6 [] [] rfl rfl (Nat.le_of_ble_eq_true rfl) ⟨rfl, rfl⟩ (fun x h => cC_Rx_atLegEnd _ g hi a7.2 o ho x h) rfl (fun x9 hx9 => ?_)
    refine q_if_ne (tgt := 32) (pc' := 16) C d_Rx_readAttributes_13 rfl rfl ?_ ?_
    · exact Rt.sub [0] rfl (hJ4 a7.2)
    · refine q_aload_n (pc' := 17) C 0 d_Rx_readAttributes_16 rfl rfl ?_
      refine q_iload_n (pc' := 18) C 1 d_Rx_readAttributes_17 rfl rfl ?_
      refine q_callVw (fr' := 4) (lo' := 90) (pc' := 21) C FC_Rx_readAttribute lmC_Rx_122 d_Rx_readAttributes_18 o (jCo ho) ho cC_6 [.int p1] [] rfl rfl (Nat.le_of_ble_eq_true rfl) ⟨rfl, rfl⟩ (fun x h => cC_Rx_readAttribute _ g hi a7.2 o ho p1 x h) rfl (fun x10 hx10 => ?_)
      refine q_if_ne (tgt := 26) (pc' := 24) C d_Rx_readAttributes_21 rfl rfl ?_ ?_
      · refine q_let (fun x11 e11 => ?_)
        refine q_iinc (pc' := 29) (lv' := [(2, .int x11), (0, .ref (g.1 o)), (1, .int p1)]) C 2 d_Rx_readAttributes_26 rfl (by rw [e11, ki_1]) (by decide) rfl rfl ?_
        refine q_goto (tgt := 2) C d_Rx_readAttributes_29 rfl ?_
        exact Rt.sub [1, 2, 0] rfl (hih8 (x11, x10.2))
      · exact Rt.sub [] rfl (hJ2 x10.2)
theorem d_Rx_parse_0 : decode qC_Rx_parse.1 0 = .ok (.aload_n 0, 1) := by decide +kernel
theorem d_Rx_parse_1 : decode qC_Rx_parse.1 1 = .ok (.iconst 0, 1) := by decide +kernel
theorem d_Rx_parse_2 : decode qC_Rx_parse.1 2 = .ok (.putfield 30, 3) := by decide +kernel
theorem d_Rx_parse_5 : decode qC_Rx_parse.1 5 = .ok (.aload_n 0, 1) := by decide +kernel
theorem d_Rx_parse_6 : decode qC_Rx_parse.1 6 = .ok (.iconst 0, 1) := by decide +kernel
theorem d_Rx_parse_7 : decode qC_Rx_parse.1 7 = .ok (.putfield 39, 3) := by decide +kernel
theorem d_Rx_parse_10 : decode qC_Rx_parse.1 10 = .ok (.aload_n 0, 1) := by decide +kernel
theorem d_Rx_parse_11 : decode qC_Rx_parse.1 11 = .ok (.invokevirtual 46, 3) := by decide +kernel
theorem d_Rx_parse_14 : decode qC_Rx_parse.1 14 = .ok (.iconst 0, 1) := by decide +kernel
theorem d_Rx_parse_15 : decode qC_Rx_parse.1 15 = .ok (.istore_n 1, 1) := by decide +kernel
theorem d_Rx_parse_16 : decode qC_Rx_parse.1 16 = .ok (.iload_n 1, 1) := by decide +kernel
theorem d_Rx_parse_17 : decode qC_Rx_parse.1 17 = .ok (.bipush 12, 2) := by decide +kernel
theorem d_Rx_parse_19 : decode qC_Rx_parse.1 19 = .ok (.if_icmp .ge 60, 3) := by decide +kernel
theorem d_Rx_parse_22 : decode qC_Rx_parse.1 22 = .ok (.aload_n 0, 1) := by decide +kernel
theorem d_Rx_parse_23 : decode qC_Rx_parse.1 23 = .ok (.iload_n 1, 1) := by decide +kernel
theorem d_Rx_parse_24 : decode qC_Rx_parse.1 24 = .ok (.invokevirtual 49, 3) := by decide +kernel
theorem d_Rx_parse_27 : decode qC_Rx_parse.1 27 = .ok (.ifCond .eq 11, 3) := by decide +kernel
theorem d_Rx_parse_30 : decode qC_Rx_parse.1 30 = .ok (.aload_n 0, 1) := by decide +kernel
theorem d_Rx_parse_31 : decode qC_Rx_parse.1 31 = .ok (.iload_n 1, 1) := by decide +kernel
theorem d_Rx_parse_32 : decode qC_Rx_parse.1 32 = .ok (.invokevirtual 53, 3) := by decide +kernel
theorem d_Rx_parse_35 : decode qC_Rx_parse.1 35 = .ok (.ifCond .ne 8, 3) := by decide +kernel
theorem d_Rx_parse_38 : decode qC_Rx_parse.1 38 = .ok (.aload_n 0, 1) := by decide +kernel
theorem d_Rx_parse_39 : decode qC_Rx_parse.1 39 = .ok (.getfield 36, 3) := by decide +kernel
theorem d_Rx_parse_42 : decode qC_Rx_parse.1 42 = .ok (.ireturn, 1) := by decide +kernel
theorem d_Rx_parse_43 : decode qC_Rx_parse.1 43 = .ok (.aload_n 0, 1) := by decide +kernel
theorem d_Rx_parse_44 : decode qC_Rx_parse.1 44 = .ok (.iload_n 1, 1) := by decide +kernel
theorem d_Rx_parse_45 : decode qC_Rx_parse.1 45 = .ok (.iconst 1, 1) := by decide +kernel
theorem d_Rx_parse_46 : decode qC_Rx_parse.1 46 = .ok (.iadd, 1) := by decide +kernel
theorem d_Rx_parse_47 : decode qC_Rx_parse.1 47 = .ok (.putfield 30, 3) := by decide +kernel
theorem d_Rx_parse_50 : decode qC_Rx_parse.1 50 = .ok (.aload_n 0, 1) := by decide +kernel
theorem d_Rx_parse_51 : decode qC_Rx_parse.1 51 = .ok (.getfield 33, 3) := by decide +kernel
theorem d_Rx_parse_54 : decode qC_Rx_parse.1 54 = .ok (.ifCond .ne 6, 3) := by decide +kernel
theorem d_Rx_parse_57 : decode qC_Rx_parse.1 57 = .ok (.ldc 56, 2) := by decide +kernel
theorem d_Rx_parse_59 : decode qC_Rx_parse.1 59 = .ok (.ireturn, 1) := by decide +kernel
theorem d_Rx_parse_60 : decode qC_Rx_parse.1 60 = .ok (.aload_n 0, 1) := by decide +kernel
theorem d_Rx_parse_61 : decode qC_Rx_parse.1 61 = .ok (.getfield 30, 3) := by decide +kernel
theorem d_Rx_parse_64 : decode qC_Rx_parse.1 64 = .ok (.bipush 12, 2) := by decide +kernel
theorem d_Rx_parse_66 : decode qC_Rx_parse.1 66 = .ok (.if_icmp .ge 7, 3) := by decide +kernel
theorem d_Rx_parse_69 : decode qC_Rx_parse.1 69 = .ok (.aload_n 0, 1) := by decide +kernel
theorem d_Rx_parse_70 : decode qC_Rx_parse.1 70 = .ok (.invokevirtual 46, 3) := by decide +kernel
theorem d_Rx_parse_73 : decode qC_Rx_parse.1 73 = .ok (.iinc 1 1, 3) := by decide +kernel
theorem d_Rx_parse_76 : decode qC_Rx_parse.1 76 = .ok (.goto (-60), 3) := by decide +kernel
theorem d_Rx_parse_79 : decode qC_Rx_parse.1 79 = .ok (.aload_n 0, 1) := by decide +kernel
theorem d_Rx_parse_80 : decode qC_Rx_parse.1 80 = .ok (.getfield 36, 3) := by decide +kernel
theorem d_Rx_parse_83 : decode qC_Rx_parse.1 83 = .ok (.ireturn, 1) := by decide +kernel
set_option maxRecDepth 100000 in
def lb_f_Rx_parse_16 (o : Nat) (J5 : St → Option (Int32 × St)) (J7 : St → Option (Int32 × St)) (J9 : St → Option (Int32 × St)) (ih11 : Int32 × St → Option (Int32 × St)) (a10 : Int32 × St) : Option (Int32 × St) :=
  if ((12 : Int32) : Int32) ≤ a10.1 then (
  J9 a10.2
  ) else (
  Option.bind (f_Rx_readKind a10.2 o a10.1) fun x12 =>
  if (x12.1 : Int32) = 0 then (
  J5 x12.2
  ) else (
  Option.bind (f_Rx_readAttributes x12.2 o a10.1) fun x13 =>
  if (x13.1 : Int32) = 0 then (
  J5 x13.2
  ) else (
  Lt (s2 x13.2 o 4 (a10.1 + (1 : Int32))) fun σ14 =>
  if ((σ14 o 5) : Int32) = 0 then (
  J7 σ14
  ) else (
  Jn (fun (σ15 : St) =>
  Lt (a10.1 + (1 : Int32) : Int32) fun x17 =>
  ih11 (x17, σ15)
  ) fun J16 =>
  if ((12 : Int32) : Int32) ≤ (σ14 o 4) then (
  J16 σ14
  ) else (
  Option.bind (f_Rx_nextToken σ14 o) fun x18 =>
  J16 x18
  )
  )
  )
  )
  )
set_option maxRecDepth 100000 in
def f_Rx_parse (σ : St) (o : Nat) : Option (Int32 × St) :=
  Lt (s2 σ o 4 (0 : Int32)) fun σ1 =>
  Lt (s2 σ1 o 7 (0 : Int32)) fun σ2 =>
  Option.bind (f_Rx_nextToken σ2 o) fun x3 =>
  Jn (fun (σ4 : St) =>
  some ((σ4 o 6), σ4)
  ) fun J5 =>
  Jn (fun (σ6 : St) =>
  some ((-1000000 : Int32), σ6)
  ) fun J7 =>
  Jn (fun (σ8 : St) =>
  some ((σ8 o 6), σ8)
  ) fun J9 =>
  lp (lb_f_Rx_parse_16 o J5 J7 J9) 4000 ((0 : Int32), x3)
set_option maxHeartbeats 4000000 in
set_option maxRecDepth 100000 in
theorem cC_Rx_parse (l : Launch) (g : Ge) (hi : injB wC.2 g) (σ : St) (o : Nat) (ho : wC.2.2.1 o = .inr (6, 8)) (x : Int32 × St) (h : f_Rx_parse σ o = some x) : Ct l wC g yC_Rx_parse qC_Rx_parse 7 149 [.ref (g.1 o)] σ (some (.int x.1), x.2) := by
  refine Ct.of (out := o_w) FC_Rx_parse rfl hi rfl h (fun z hz C => ?_)
  clear h
  subst hz
  unfold f_Rx_parse
  show Rt z qC_Rx_parse wC g o_w 0 [(0, .ref (g.1 o))] [] σ _
  refine q_aload_n (pc' := 1) C 0 d_Rx_parse_0 rfl rfl ?_
  refine q_iconst (pc' := 2) C d_Rx_parse_1 ki_0 rfl ?_
  refine pC_Rx_30 (pc' := 5) C o ho d_Rx_parse_2 rfl rfl ?_
  refine q_let (fun σ1 e1 => ?_)
  refine q_state e1 ?_
  refine q_aload_n (pc' := 6) C 0 d_Rx_parse_5 rfl rfl ?_
  refine q_iconst (pc' := 7) C d_Rx_parse_6 ki_0 rfl ?_
  refine pC_Rx_39 (pc' := 10) C o ho d_Rx_parse_7 rfl rfl ?_
  refine q_let (fun σ2 e2 => ?_)
  refine q_state e2 ?_
  refine q_aload_n (pc' := 11) C 0 d_Rx_parse_10 rfl rfl ?_
  refine q_callVv (fr' := 1) (lo' := 21) (pc' := 14) C FC_Rx_nextToken lmC_Rx_46 d_Rx_parse_11 o (jCo ho) ho cC_6 [] [] rfl rfl (Nat.le_of_ble_eq_true rfl) ⟨rfl, rfl⟩ (fun x h => cC_Rx_nextToken _ g hi σ2 o ho x h) rfl (fun x3 hx3 => ?_)
  refine q_iconst (pc' := 15) C d_Rx_parse_14 ki_0 rfl ?_
  refine q_istore_n (pc' := 16) (lv' := [(1, .int (0 : Int32)), (0, .ref (g.1 o))]) C d_Rx_parse_15 (by decide) rfl rfl ?_
  refine q_join (fun J5 : St → Option (Int32 × St) => ∀ (σ4 : St), Rt z qC_Rx_parse wC g o_w 38 [(0, .ref (g.1 o))] [] σ4 (J5 σ4)) (fun σ4 => ?_) (fun J5 hJ5 => ?_)
  · refine q_aload_n (pc' := 39) C 0 d_Rx_parse_38 rfl rfl ?_
    refine gC_Rx_36 (pc' := 42) C o ho d_Rx_parse_39 rfl rfl ?_
    exact q_iret C rfl d_Rx_parse_42 rfl
  refine q_join (fun J7 : St → Option (Int32 × St) => ∀ (σ6 : St), Rt z qC_Rx_parse wC g o_w 57 [] [] σ6 (J7 σ6)) (fun σ6 => ?_) (fun J7 hJ7 => ?_)
  · refine q_ldc (pc' := 59) C lcC_Rx_56 d_Rx_parse_57 rfl ?_
    exact q_iret C rfl d_Rx_parse_59 rfl
  refine q_join (fun J9 : St → Option (Int32 × St) => ∀ (σ8 : St), Rt z qC_Rx_parse wC g o_w 79 [(0, .ref (g.1 o))] [] σ8 (J9 σ8)) (fun σ8 => ?_) (fun J9 hJ9 => ?_)
  · refine q_aload_n (pc' := 80) C 0 d_Rx_parse_79 rfl rfl ?_
    refine gC_Rx_36 (pc' := 83) C o ho d_Rx_parse_80 rfl rfl ?_
    exact q_iret C rfl d_Rx_parse_83 rfl
  refine Rt.sub [1, 0] rfl (q_lp (fun a10 : Int32 × St => [(0, .ref (g.1 o)), (1, .int a10.1)]) (fun a10 => []) (fun a10 => a10.2) (fun ih11 hih11 a10 => ?_) 4000 ((0 : Int32), x3))
  unfold lb_f_Rx_parse_16
  refine q_iload_n (pc' := 17) C 1 d_Rx_parse_16 rfl rfl ?_
  refine q_bipush (pc' := 19) C d_Rx_parse_17 kb_12 rfl ?_
  refine q_icmp_ge (tgt := 79) (pc' := 22) C d_Rx_parse_19 rfl rfl ?_ ?_
  · exact Rt.sub [0] rfl (hJ9 a10.2)
  · refine q_aload_n (pc' := 23) C 0 d_Rx_parse_22 rfl rfl ?_
    refine q_iload_n (pc' := 24) C 1 d_Rx_parse_23 rfl rfl ?_
    refine q_callVw (fr' := 6) (lo' := 127) (pc' := 27) C FC_Rx_readKind lmC_Rx_49 d_Rx_parse_24 o (jCo ho) ho cC_6 [.int a10.1] [] rfl rfl (Nat.le_of_ble_eq_true rfl) ⟨rfl, rfl⟩ (fun x h => cC_Rx_readKind _ g hi a10.2 o ho a10.1 x h) rfl (fun x12 hx12 => ?_)
    refine q_if_eq (tgt := 38) (pc' := 30) C d_Rx_parse_27 rfl rfl ?_ ?_
    · exact Rt.sub [0] rfl (hJ5 x12.2)
    · refine q_aload_n (pc' := 31) C 0 d_Rx_parse_30 rfl rfl ?_
      refine q_iload_n (pc' := 32) C 1 d_Rx_parse_31 rfl rfl ?_
      refine q_callVw (fr' := 5) (lo' := 112) (pc' := 35) C FC_Rx_readAttributes lmC_Rx_53 d_Rx_parse_32 o (jCo ho) ho cC_6 [.int a10.1] [] rfl rfl (Nat.le_of_ble_eq_true rfl) ⟨rfl, rfl⟩ (fun x h => cC_Rx_readAttributes _ g hi x12.2 o ho a10.1 x h) rfl (fun x13 hx13 => ?_)
      refine q_if_ne (tgt := 43) (pc' := 38) C d_Rx_parse_35 rfl rfl ?_ ?_
      · refine q_aload_n (pc' := 44) C 0 d_Rx_parse_43 rfl rfl ?_
        refine q_iload_n (pc' := 45) C 1 d_Rx_parse_44 rfl rfl ?_
        refine q_iconst (pc' := 46) C d_Rx_parse_45 ki_1 rfl ?_
        refine q_iadd (pc' := 47) C d_Rx_parse_46 rfl ?_
        refine pC_Rx_30 (pc' := 50) C o ho d_Rx_parse_47 rfl rfl ?_
        refine q_let (fun σ14 e14 => ?_)
        refine q_state e14 ?_
        refine q_aload_n (pc' := 51) C 0 d_Rx_parse_50 rfl rfl ?_
        refine gC_Rx_33 (pc' := 54) C o ho d_Rx_parse_51 rfl rfl ?_
        refine q_if_ne (tgt := 60) (pc' := 57) C d_Rx_parse_54 rfl rfl ?_ ?_
        · refine q_aload_n (pc' := 61) C 0 d_Rx_parse_60 rfl rfl ?_
          refine gC_Rx_30 (pc' := 64) C o ho d_Rx_parse_61 rfl rfl ?_
          refine q_bipush (pc' := 66) C d_Rx_parse_64 kb_12 rfl ?_
          refine q_join (fun J16 : St → Option (Int32 × St) => ∀ (σ15 : St), Rt z qC_Rx_parse wC g o_w 73 [(0, .ref (g.1 o)), (1, .int a10.1)] [] σ15 (J16 σ15)) (fun σ15 => ?_) (fun J16 hJ16 => ?_)
          · refine q_let (fun x17 e17 => ?_)
            refine q_iinc (pc' := 76) (lv' := [(1, .int x17), (0, .ref (g.1 o))]) C 1 d_Rx_parse_73 rfl (by rw [e17, ki_1]) (by decide) rfl rfl ?_
            refine q_goto (tgt := 16) C d_Rx_parse_76 rfl ?_
            exact Rt.sub [1, 0] rfl (hih11 (x17, σ15))
          refine q_icmp_ge (tgt := 73) (pc' := 69) C d_Rx_parse_66 rfl rfl ?_ ?_
          · exact Rt.sub [0, 1] rfl (hJ16 σ14)
          · refine q_aload_n (pc' := 70) C 0 d_Rx_parse_69 rfl rfl ?_
            refine q_callVv (fr' := 1) (lo' := 21) (pc' := 73) C FC_Rx_nextToken lmC_Rx_46 d_Rx_parse_70 o (jCo ho) ho cC_6 [] [] rfl rfl (Nat.le_of_ble_eq_true rfl) ⟨rfl, rfl⟩ (fun x h => cC_Rx_nextToken _ g hi σ14 o ho x h) rfl (fun x18 hx18 => ?_)
            exact Rt.sub [0, 1] rfl (hJ16 x18)
        · exact Rt.sub [] rfl (hJ7 σ14)
      · exact Rt.sub [0] rfl (hJ5 x13.2)
