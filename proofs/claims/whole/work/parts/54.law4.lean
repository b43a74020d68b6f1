/-! the law, case by case (2) -/
def law_30 (L : Nat) (xs : Nat → Int32) (ih : Int32 × St × St → Option Int32) (a : Int32 × St × St) : Option Int32 :=
  Gd (Ix (a.1 + (1 : Int32)) L) <|
  Gd (Ix (a.1 + (2 : Int32)) L) <|
  Option.bind (f_FL_hasGap a.2.1 (xs (Int32.toNatClampNeg (a.1 + (1 : Int32)))) (xs (Int32.toNatClampNeg (a.1 + (2 : Int32))))) fun x1 =>
  Gd (Ix (a.1 + (1 : Int32)) L) <|
  Gd (Ix (a.1 + (2 : Int32)) L) <|
  Option.bind (m_hasGap a.2.2 (xs (Int32.toNatClampNeg (a.1 + (1 : Int32)))) (xs (Int32.toNatClampNeg (a.1 + (2 : Int32))))) fun x2 =>
  if (x1.1 : Int32) = x2.1 then (ih (a.1 + (4 : Int32), x1.2, x2.2)) else (some 0)
set_option maxHeartbeats 4000000 in
theorem w_30 {v : Zl} {G : Gl} (C : Lc v G) (ih : Int32 × St × St → Option Int32) (hih : ∀ a : Int32 × St × St, Lw v G 18 [(0, .ref G.2.2.1), (1, .ref (G.1.1 0)), (2, .ref (G.2.1.1 0)), (3, .int a.1)] [] a.2.1 a.2.2 (ih a)) (a : Int32 × St × St) : Lw v G 994 [(0, .ref G.2.2.1), (1, .ref (G.1.1 0)), (2, .ref (G.2.1.1 0)), (3, .int a.1)] [] a.2.1 a.2.2 (law_30 G.2.2.2.1 G.2.2.2.2 ih a) := by
  unfold law_30
  refine l_aload_n (pc' := 995) C 1 dL_994 rfl rfl ?_
  refine l_aload_n (pc' := 996) C 0 dL_995 rfl rfl ?_
  refine l_iload_n (pc' := 997) C 3 dL_996 rfl rfl ?_
  refine l_iconst (pc' := 998) C dL_997 ki_1 rfl ?_
  refine l_iadd (pc' := 999) C dL_998 rfl ?_
  refine l_sld (pc' := 1000) C dL_999 rfl ?_
  refine l_aload_n (pc' := 1001) C 0 dL_1000 rfl rfl ?_
  refine l_iload_n (pc' := 1002) C 3 dL_1001 rfl rfl ?_
  refine l_iconst (pc' := 1003) C dL_1002 ki_2 rfl ?_
  refine l_iadd (pc' := 1004) C dL_1003 rfl ?_
  refine l_sld (pc' := 1005) C dL_1004 rfl ?_
  refine l_callC (out' := o_w) (fr' := 7) (lo' := 173) (pc' := 1008) C FC_FL_hasGap rfl lmL_138 dL_1005 [.int (G.2.2.2.2 (Int32.toNatClampNeg (a.1 + (1 : Int32)))), .int (G.2.2.2.2 (Int32.toNatClampNeg (a.1 + (2 : Int32))))] [] rfl rfl (Nat.le_of_ble_eq_true rfl) ⟨rfl, rfl⟩ (fun x h => cC_FL_hasGap _ G.1 C.2.2.2.2.2.2.2.2.2.1 a.2.1 (G.2.2.2.2 (Int32.toNatClampNeg (a.1 + (1 : Int32)))) (G.2.2.2.2 (Int32.toNatClampNeg (a.1 + (2 : Int32)))) x h) rfl (fun x1 _ => ?_)
  show Lw v G 1008 _ [.int x1.1] x1.2 a.2.2 _
  refine l_aload_n (pc' := 1009) C 2 dL_1008 rfl rfl ?_
  refine l_aload_n (pc' := 1010) C 0 dL_1009 rfl rfl ?_
  refine l_iload_n (pc' := 1011) C 3 dL_1010 rfl rfl ?_
  refine l_iconst (pc' := 1012) C dL_1011 ki_1 rfl ?_
  refine l_iadd (pc' := 1013) C dL_1012 rfl ?_
  refine l_sld (pc' := 1014) C dL_1013 rfl ?_
  refine l_aload_n (pc' := 1015) C 0 dL_1014 rfl rfl ?_
  refine l_iload_n (pc' := 1016) C 3 dL_1015 rfl rfl ?_
  refine l_iconst (pc' := 1017) C dL_1016 ki_2 rfl ?_
  refine l_iadd (pc' := 1018) C dL_1017 rfl ?_
  refine l_sld (pc' := 1019) C dL_1018 rfl ?_
  refine l_callM (out' := o_w) (fr' := 10) (lo' := 242) (pc' := 1022) C FM_hasGap rfl lmL_141 dL_1019 [.int (G.2.2.2.2 (Int32.toNatClampNeg (a.1 + (1 : Int32)))), .int (G.2.2.2.2 (Int32.toNatClampNeg (a.1 + (2 : Int32))))] [.int x1.1] rfl rfl (Nat.le_of_ble_eq_true rfl) ⟨rfl, rfl⟩ (fun x h => cM_hasGap _ G.2.1 C.2.2.2.2.2.2.2.2.2.2.1 a.2.2 (G.2.2.2.2 (Int32.toNatClampNeg (a.1 + (1 : Int32)))) (G.2.2.2.2 (Int32.toNatClampNeg (a.1 + (2 : Int32)))) x h) rfl (fun x2 _ => ?_)
  show Lw v G 1022 _ [.int x2.1, .int x1.1] x1.2 x2.2 _
  refine l_icmp_eq (tgt := 1960) (pc' := 1025) C dL_1022 rfl rfl ?_ ?_
  · exact w_end C hih _ _ _
  · refine l_iconst (pc' := 1026) C dL_1025 ki_0 rfl ?_
    exact l_ret0
def law_31 (L : Nat) (xs : Nat → Int32) (ih : Int32 × St × St → Option Int32) (a : Int32 × St × St) : Option Int32 :=
  Gd (Ix (a.1 + (1 : Int32)) L) <|
  Gd (Ix (a.1 + (2 : Int32)) L) <|
  Option.bind (f_FL_endX a.2.1 (xs (Int32.toNatClampNeg (a.1 + (1 : Int32)))) (xs (Int32.toNatClampNeg (a.1 + (2 : Int32))))) fun x1 =>
  Gd (Ix (a.1 + (1 : Int32)) L) <|
  Gd (Ix (a.1 + (2 : Int32)) L) <|
  Option.bind (m_endX a.2.2 (xs (Int32.toNatClampNeg (a.1 + (1 : Int32)))) (xs (Int32.toNatClampNeg (a.1 + (2 : Int32))))) fun x2 =>
  if (x1.1 : Int32) = x2.1 then (ih (a.1 + (4 : Int32), x1.2, x2.2)) else (some 0)
set_option maxHeartbeats 4000000 in
theorem w_31 {v : Zl} {G : Gl} (C : Lc v G) (ih : Int32 × St × St → Option Int32) (hih : ∀ a : Int32 × St × St, Lw v G 18 [(0, .ref G.2.2.1), (1, .ref (G.1.1 0)), (2, .ref (G.2.1.1 0)), (3, .int a.1)] [] a.2.1 a.2.2 (ih a)) (a : Int32 × St × St) : Lw v G 1027 [(0, .ref G.2.2.1), (1, .ref (G.1.1 0)), (2, .ref (G.2.1.1 0)), (3, .int a.1)] [] a.2.1 a.2.2 (law_31 G.2.2.2.1 G.2.2.2.2 ih a) := by
  unfold law_31
  refine l_aload_n (pc' := 1028) C 1 dL_1027 rfl rfl ?_
  refine l_aload_n (pc' := 1029) C 0 dL_1028 rfl rfl ?_
  refine l_iload_n (pc' := 1030) C 3 dL_1029 rfl rfl ?_
  refine l_iconst (pc' := 1031) C dL_1030 ki_1 rfl ?_
  refine l_iadd (pc' := 1032) C dL_1031 rfl ?_
  refine l_sld (pc' := 1033) C dL_1032 rfl ?_
  refine l_aload_n (pc' := 1034) C 0 dL_1033 rfl rfl ?_
  refine l_iload_n (pc' := 1035) C 3 dL_1034 rfl rfl ?_
  refine l_iconst (pc' := 1036) C dL_1035 ki_2 rfl ?_
  refine l_iadd (pc' := 1037) C dL_1036 rfl ?_
  refine l_sld (pc' := 1038) C dL_1037 rfl ?_
  refine l_callC (out' := o_w) (fr' := 7) (lo' := 175) (pc' := 1041) C FC_FL_endX rfl lmL_142 dL_1038 [.int (G.2.2.2.2 (Int32.toNatClampNeg (a.1 + (1 : Int32)))), .int (G.2.2.2.2 (Int32.toNatClampNeg (a.1 + (2 : Int32))))] [] rfl rfl (Nat.le_of_ble_eq_true rfl) ⟨rfl, rfl⟩ (fun x h => cC_FL_endX _ G.1 C.2.2.2.2.2.2.2.2.2.1 a.2.1 (G.2.2.2.2 (Int32.toNatClampNeg (a.1 + (1 : Int32)))) (G.2.2.2.2 (Int32.toNatClampNeg (a.1 + (2 : Int32)))) x h) rfl (fun x1 _ => ?_)
  show Lw v G 1041 _ [.int x1.1] x1.2 a.2.2 _
  refine l_aload_n (pc' := 1042) C 2 dL_1041 rfl rfl ?_
  refine l_aload_n (pc' := 1043) C 0 dL_1042 rfl rfl ?_
  refine l_iload_n (pc' := 1044) C 3 dL_1043 rfl rfl ?_
  refine l_iconst (pc' := 1045) C dL_1044 ki_1 rfl ?_
  refine l_iadd (pc' := 1046) C dL_1045 rfl ?_
  refine l_sld (pc' := 1047) C dL_1046 rfl ?_
  refine l_aload_n (pc' := 1048) C 0 dL_1047 rfl rfl ?_
  refine l_iload_n (pc' := 1049) C 3 dL_1048 rfl rfl ?_
  refine l_iconst (pc' := 1050) C dL_1049 ki_2 rfl ?_
  refine l_iadd (pc' := 1051) C dL_1050 rfl ?_
  refine l_sld (pc' := 1052) C dL_1051 rfl ?_
  refine l_callM (out' := o_w) (fr' := 10) (lo' := 242) (pc' := 1055) C FM_endX rfl lmL_145 dL_1052 [.int (G.2.2.2.2 (Int32.toNatClampNeg (a.1 + (1 : Int32)))), .int (G.2.2.2.2 (Int32.toNatClampNeg (a.1 + (2 : Int32))))] [.int x1.1] rfl rfl (Nat.le_of_ble_eq_true rfl) ⟨rfl, rfl⟩ (fun x h => cM_endX _ G.2.1 C.2.2.2.2.2.2.2.2.2.2.1 a.2.2 (G.2.2.2.2 (Int32.toNatClampNeg (a.1 + (1 : Int32)))) (G.2.2.2.2 (Int32.toNatClampNeg (a.1 + (2 : Int32)))) x h) rfl (fun x2 _ => ?_)
  show Lw v G 1055 _ [.int x2.1, .int x1.1] x1.2 x2.2 _
  refine l_icmp_eq (tgt := 1960) (pc' := 1058) C dL_1055 rfl rfl ?_ ?_
  · exact w_end C hih _ _ _
  · refine l_iconst (pc' := 1059) C dL_1058 ki_0 rfl ?_
    exact l_ret0
def law_32 (L : Nat) (xs : Nat → Int32) (ih : Int32 × St × St → Option Int32) (a : Int32 × St × St) : Option Int32 :=
  Gd (Ix (a.1 + (1 : Int32)) L) <|
  Gd (Ix (a.1 + (2 : Int32)) L) <|
  Option.bind (f_FL_endY a.2.1 (xs (Int32.toNatClampNeg (a.1 + (1 : Int32)))) (xs (Int32.toNatClampNeg (a.1 + (2 : Int32))))) fun x1 =>
  Gd (Ix (a.1 + (1 : Int32)) L) <|
  Gd (Ix (a.1 + (2 : Int32)) L) <|
  Option.bind (m_endY a.2.2 (xs (Int32.toNatClampNeg (a.1 + (1 : Int32)))) (xs (Int32.toNatClampNeg (a.1 + (2 : Int32))))) fun x2 =>
  if (x1.1 : Int32) = x2.1 then (ih (a.1 + (4 : Int32), x1.2, x2.2)) else (some 0)
set_option maxHeartbeats 4000000 in
theorem w_32 {v : Zl} {G : Gl} (C : Lc v G) (ih : Int32 × St × St → Option Int32) (hih : ∀ a : Int32 × St × St, Lw v G 18 [(0, .ref G.2.2.1), (1, .ref (G.1.1 0)), (2, .ref (G.2.1.1 0)), (3, .int a.1)] [] a.2.1 a.2.2 (ih a)) (a : Int32 × St × St) : Lw v G 1060 [(0, .ref G.2.2.1), (1, .ref (G.1.1 0)), (2, .ref (G.2.1.1 0)), (3, .int a.1)] [] a.2.1 a.2.2 (law_32 G.2.2.2.1 G.2.2.2.2 ih a) := by
  unfold law_32
  refine l_aload_n (pc' := 1061) C 1 dL_1060 rfl rfl ?_
  refine l_aload_n (pc' := 1062) C 0 dL_1061 rfl rfl ?_
  refine l_iload_n (pc' := 1063) C 3 dL_1062 rfl rfl ?_
  refine l_iconst (pc' := 1064) C dL_1063 ki_1 rfl ?_
  refine l_iadd (pc' := 1065) C dL_1064 rfl ?_
  refine l_sld (pc' := 1066) C dL_1065 rfl ?_
  refine l_aload_n (pc' := 1067) C 0 dL_1066 rfl rfl ?_
  refine l_iload_n (pc' := 1068) C 3 dL_1067 rfl rfl ?_
  refine l_iconst (pc' := 1069) C dL_1068 ki_2 rfl ?_
  refine l_iadd (pc' := 1070) C dL_1069 rfl ?_
  refine l_sld (pc' := 1071) C dL_1070 rfl ?_
  refine l_callC (out' := o_w) (fr' := 7) (lo' := 175) (pc' := 1074) C FC_FL_endY rfl lmL_146 dL_1071 [.int (G.2.2.2.2 (Int32.toNatClampNeg (a.1 + (1 : Int32)))), .int (G.2.2.2.2 (Int32.toNatClampNeg (a.1 + (2 : Int32))))] [] rfl rfl (Nat.le_of_ble_eq_true rfl) ⟨rfl, rfl⟩ (fun x h => cC_FL_endY _ G.1 C.2.2.2.2.2.2.2.2.2.1 a.2.1 (G.2.2.2.2 (Int32.toNatClampNeg (a.1 + (1 : Int32)))) (G.2.2.2.2 (Int32.toNatClampNeg (a.1 + (2 : Int32)))) x h) rfl (fun x1 _ => ?_)
  show Lw v G 1074 _ [.int x1.1] x1.2 a.2.2 _
  refine l_aload_n (pc' := 1075) C 2 dL_1074 rfl rfl ?_
  refine l_aload_n (pc' := 1076) C 0 dL_1075 rfl rfl ?_
  refine l_iload_n (pc' := 1077) C 3 dL_1076 rfl rfl ?_
  refine l_iconst (pc' := 1078) C dL_1077 ki_1 rfl ?_
  refine l_iadd (pc' := 1079) C dL_1078 rfl ?_
  refine l_sld (pc' := 1080) C dL_1079 rfl ?_
  refine l_aload_n (pc' := 1081) C 0 dL_1080 rfl rfl ?_
  refine l_iload_n (pc' := 1082) C 3 dL_1081 rfl rfl ?_
  refine l_iconst (pc' := 1083) C dL_1082 ki_2 rfl ?_
  refine l_iadd (pc' := 1084) C dL_1083 rfl ?_
  refine l_sld (pc' := 1085) C dL_1084 rfl ?_
  refine l_callM (out' := o_w) (fr' := 10) (lo' := 242) (pc' := 1088) C FM_endY rfl lmL_149 dL_1085 [.int (G.2.2.2.2 (Int32.toNatClampNeg (a.1 + (1 : Int32)))), .int (G.2.2.2.2 (Int32.toNatClampNeg (a.1 + (2 : Int32))))] [.int x1.1] rfl rfl (Nat.le_of_ble_eq_true rfl) ⟨rfl, rfl⟩ (fun x h => cM_endY _ G.2.1 C.2.2.2.2.2.2.2.2.2.2.1 a.2.2 (G.2.2.2.2 (Int32.toNatClampNeg (a.1 + (1 : Int32)))) (G.2.2.2.2 (Int32.toNatClampNeg (a.1 + (2 : Int32)))) x h) rfl (fun x2 _ => ?_)
  show Lw v G 1088 _ [.int x2.1, .int x1.1] x1.2 x2.2 _
  refine l_icmp_eq (tgt := 1960) (pc' := 1091) C dL_1088 rfl rfl ?_ ?_
  · exact w_end C hih _ _ _
  · refine l_iconst (pc' := 1092) C dL_1091 ki_0 rfl ?_
    exact l_ret0
def law_33 (L : Nat) (xs : Nat → Int32) (ih : Int32 × St × St → Option Int32) (a : Int32 × St × St) : Option Int32 :=
  Gd (Ix (a.1 + (1 : Int32)) L) <|
  Gd (Ix (a.1 + (2 : Int32)) L) <|
  Option.bind (f_FL_legCourse a.2.1 (xs (Int32.toNatClampNeg (a.1 + (1 : Int32)))) (xs (Int32.toNatClampNeg (a.1 + (2 : Int32))))) fun x1 =>
  Gd (Ix (a.1 + (1 : Int32)) L) <|
  Gd (Ix (a.1 + (2 : Int32)) L) <|
  Option.bind (m_legCourse a.2.2 (xs (Int32.toNatClampNeg (a.1 + (1 : Int32)))) (xs (Int32.toNatClampNeg (a.1 + (2 : Int32))))) fun x2 =>
  if (x1.1 : Int32) = x2.1 then (ih (a.1 + (4 : Int32), x1.2, x2.2)) else (some 0)
set_option maxHeartbeats 4000000 in
theorem w_33 {v : Zl} {G : Gl} (C : Lc v G) (ih : Int32 × St × St → Option Int32) (hih : ∀ a : Int32 × St × St, Lw v G 18 [(0, .ref G.2.2.1), (1, .ref (G.1.1 0)), (2, .ref (G.2.1.1 0)), (3, .int a.1)] [] a.2.1 a.2.2 (ih a)) (a : Int32 × St × St) : Lw v G 1093 [(0, .ref G.2.2.1), (1, .ref (G.1.1 0)), (2, .ref (G.2.1.1 0)), (3, .int a.1)] [] a.2.1 a.2.2 (law_33 G.2.2.2.1 G.2.2.2.2 ih a) := by
  unfold law_33
  refine l_aload_n (pc' := 1094) C 1 dL_1093 rfl rfl ?_
  refine l_aload_n (pc' := 1095) C 0 dL_1094 rfl rfl ?_
  refine l_iload_n (pc' := 1096) C 3 dL_1095 rfl rfl ?_
  refine l_iconst (pc' := 1097) C dL_1096 ki_1 rfl ?_
  refine l_iadd (pc' := 1098) C dL_1097 rfl ?_
  refine l_sld (pc' := 1099) C dL_1098 rfl ?_
  refine l_aload_n (pc' := 1100) C 0 dL_1099 rfl rfl ?_
  refine l_iload_n (pc' := 1101) C 3 dL_1100 rfl rfl ?_
  refine l_iconst (pc' := 1102) C dL_1101 ki_2 rfl ?_
  refine l_iadd (pc' := 1103) C dL_1102 rfl ?_
  refine l_sld (pc' := 1104) C dL_1103 rfl ?_
  refine l_callC (out' := o_w) (fr' := 7) (lo' := 175) (pc' := 1107) C FC_FL_legCourse rfl lmL_150 dL_1104 [.int (G.2.2.2.2 (Int32.toNatClampNeg (a.1 + (1 : Int32)))), .int (G.2.2.2.2 (Int32.toNatClampNeg (a.1 + (2 : Int32))))] [] rfl rfl (Nat.le_of_ble_eq_true rfl) ⟨rfl, rfl⟩ (fun x h => cC_FL_legCourse _ G.1 C.2.2.2.2.2.2.2.2.2.1 a.2.1 (G.2.2.2.2 (Int32.toNatClampNeg (a.1 + (1 : Int32)))) (G.2.2.2.2 (Int32.toNatClampNeg (a.1 + (2 : Int32)))) x h) rfl (fun x1 _ => ?_)
  show Lw v G 1107 _ [.int x1.1] x1.2 a.2.2 _
  refine l_aload_n (pc' := 1108) C 2 dL_1107 rfl rfl ?_
  refine l_aload_n (pc' := 1109) C 0 dL_1108 rfl rfl ?_
  refine l_iload_n (pc' := 1110) C 3 dL_1109 rfl rfl ?_
  refine l_iconst (pc' := 1111) C dL_1110 ki_1 rfl ?_
  refine l_iadd (pc' := 1112) C dL_1111 rfl ?_
  refine l_sld (pc' := 1113) C dL_1112 rfl ?_
  refine l_aload_n (pc' := 1114) C 0 dL_1113 rfl rfl ?_
  refine l_iload_n (pc' := 1115) C 3 dL_1114 rfl rfl ?_
  refine l_iconst (pc' := 1116) C dL_1115 ki_2 rfl ?_
  refine l_iadd (pc' := 1117) C dL_1116 rfl ?_
  refine l_sld (pc' := 1118) C dL_1117 rfl ?_
  refine l_callM (out' := o_w) (fr' := 10) (lo' := 242) (pc' := 1121) C FM_legCourse rfl lmL_153 dL_1118 [.int (G.2.2.2.2 (Int32.toNatClampNeg (a.1 + (1 : Int32)))), .int (G.2.2.2.2 (Int32.toNatClampNeg (a.1 + (2 : Int32))))] [.int x1.1] rfl rfl (Nat.le_of_ble_eq_true rfl) ⟨rfl, rfl⟩ (fun x h => cM_legCourse _ G.2.1 C.2.2.2.2.2.2.2.2.2.2.1 a.2.2 (G.2.2.2.2 (Int32.toNatClampNeg (a.1 + (1 : Int32)))) (G.2.2.2.2 (Int32.toNatClampNeg (a.1 + (2 : Int32)))) x h) rfl (fun x2 _ => ?_)
  show Lw v G 1121 _ [.int x2.1, .int x1.1] x1.2 x2.2 _
  refine l_icmp_eq (tgt := 1960) (pc' := 1124) C dL_1121 rfl rfl ?_ ?_
  · exact w_end C hih _ _ _
  · refine l_iconst (pc' := 1125) C dL_1124 ki_0 rfl ?_
    exact l_ret0
def law_34 (L : Nat) (xs : Nat → Int32) (ih : Int32 × St × St → Option Int32) (a : Int32 × St × St) : Option Int32 :=
  Gd (Ix (a.1 + (1 : Int32)) L) <|
  Gd (Ix (a.1 + (2 : Int32)) L) <|
  Option.bind (f_FL_legLength a.2.1 (xs (Int32.toNatClampNeg (a.1 + (1 : Int32)))) (xs (Int32.toNatClampNeg (a.1 + (2 : Int32))))) fun x1 =>
  Gd (Ix (a.1 + (1 : Int32)) L) <|
  Gd (Ix (a.1 + (2 : Int32)) L) <|
  Option.bind (m_legLength a.2.2 (xs (Int32.toNatClampNeg (a.1 + (1 : Int32)))) (xs (Int32.toNatClampNeg (a.1 + (2 : Int32))))) fun x2 =>
  if (x1.1 : Int32) = x2.1 then (ih (a.1 + (4 : Int32), x1.2, x2.2)) else (some 0)
set_option maxHeartbeats 4000000 in
theorem w_34 {v : Zl} {G : Gl} (C : Lc v G) (ih : Int32 × St × St → Option Int32) (hih : ∀ a : Int32 × St × St, Lw v G 18 [(0, .ref G.2.2.1), (1, .ref (G.1.1 0)), (2, .ref (G.2.1.1 0)), (3, .int a.1)] [] a.2.1 a.2.2 (ih a)) (a : Int32 × St × St) : Lw v G 1126 [(0, .ref G.2.2.1), (1, .ref (G.1.1 0)), (2, .ref (G.2.1.1 0)), (3, .int a.1)] [] a.2.1 a.2.2 (law_34 G.2.2.2.1 G.2.2.2.2 ih a) := by
  unfold law_34
  refine l_aload_n (pc' := 1127) C 1 dL_1126 rfl rfl ?_
  refine l_aload_n (pc' := 1128) C 0 dL_1127 rfl rfl ?_
  refine l_iload_n (pc' := 1129) C 3 dL_1128 rfl rfl ?_
  refine l_iconst (pc' := 1130) C dL_1129 ki_1 rfl ?_
  refine l_iadd (pc' := 1131) C dL_1130 rfl ?_
  refine l_sld (pc' := 1132) C dL_1131 rfl ?_
  refine l_aload_n (pc' := 1133) C 0 dL_1132 rfl rfl ?_
  refine l_iload_n (pc' := 1134) C 3 dL_1133 rfl rfl ?_
  refine l_iconst (pc' := 1135) C dL_1134 ki_2 rfl ?_
  refine l_iadd (pc' := 1136) C dL_1135 rfl ?_
  refine l_sld (pc' := 1137) C dL_1136 rfl ?_
  refine l_callC (out' := o_w) (fr' := 7) (lo' := 175) (pc' := 1140) C FC_FL_legLength rfl lmL_154 dL_1137 [.int (G.2.2.2.2 (Int32.toNatClampNeg (a.1 + (1 : Int32)))), .int (G.2.2.2.2 (Int32.toNatClampNeg (a.1 + (2 : Int32))))] [] rfl rfl (Nat.le_of_ble_eq_true rfl) ⟨rfl, rfl⟩ (fun x h => cC_FL_legLength _ G.1 C.2.2.2.2.2.2.2.2.2.1 a.2.1 (G.2.2.2.2 (Int32.toNatClampNeg (a.1 + (1 : Int32)))) (G.2.2.2.2 (Int32.toNatClampNeg (a.1 + (2 : Int32)))) x h) rfl (fun x1 _ => ?_)
  show Lw v G 1140 _ [.int x1.1] x1.2 a.2.2 _
  refine l_aload_n (pc' := 1141) C 2 dL_1140 rfl rfl ?_
  refine l_aload_n (pc' := 1142) C 0 dL_1141 rfl rfl ?_
  refine l_iload_n (pc' := 1143) C 3 dL_1142 rfl rfl ?_
  refine l_iconst (pc' := 1144) C dL_1143 ki_1 rfl ?_
  refine l_iadd (pc' := 1145) C dL_1144 rfl ?_
  refine l_sld (pc' := 1146) C dL_1145 rfl ?_
  refine l_aload_n (pc' := 1147) C 0 dL_1146 rfl rfl ?_
  refine l_iload_n (pc' := 1148) C 3 dL_1147 rfl rfl ?_
  refine l_iconst (pc' := 1149) C dL_1148 ki_2 rfl ?_
  refine l_iadd (pc' := 1150) C dL_1149 rfl ?_
  refine l_sld (pc' := 1151) C dL_1150 rfl ?_
  refine l_callM (out' := o_w) (fr' := 10) (lo' := 242) (pc' := 1154) C FM_legLength rfl lmL_157 dL_1151 [.int (G.2.2.2.2 (Int32.toNatClampNeg (a.1 + (1 : Int32)))), .int (G.2.2.2.2 (Int32.toNatClampNeg (a.1 + (2 : Int32))))] [.int x1.1] rfl rfl (Nat.le_of_ble_eq_true rfl) ⟨rfl, rfl⟩ (fun x h => cM_legLength _ G.2.1 C.2.2.2.2.2.2.2.2.2.2.1 a.2.2 (G.2.2.2.2 (Int32.toNatClampNeg (a.1 + (1 : Int32)))) (G.2.2.2.2 (Int32.toNatClampNeg (a.1 + (2 : Int32)))) x h) rfl (fun x2 _ => ?_)
  show Lw v G 1154 _ [.int x2.1, .int x1.1] x1.2 x2.2 _
  refine l_icmp_eq (tgt := 1960) (pc' := 1157) C dL_1154 rfl rfl ?_ ?_
  · exact w_end C hih _ _ _
  · refine l_iconst (pc' := 1158) C dL_1157 ki_0 rfl ?_
    exact l_ret0
def law_35 (L : Nat) (xs : Nat → Int32) (ih : Int32 × St × St → Option Int32) (a : Int32 × St × St) : Option Int32 :=
  Gd (Ix (a.1 + (1 : Int32)) L) <|
  Gd (Ix (a.1 + (2 : Int32)) L) <|
  Option.bind (f_FL_legTime a.2.1 (xs (Int32.toNatClampNeg (a.1 + (1 : Int32)))) (xs (Int32.toNatClampNeg (a.1 + (2 : Int32))))) fun x1 =>
  Gd (Ix (a.1 + (1 : Int32)) L) <|
  Gd (Ix (a.1 + (2 : Int32)) L) <|
  Option.bind (m_legTime a.2.2 (xs (Int32.toNatClampNeg (a.1 + (1 : Int32)))) (xs (Int32.toNatClampNeg (a.1 + (2 : Int32))))) fun x2 =>
  if (x1.1 : Int32) = x2.1 then (ih (a.1 + (4 : Int32), x1.2, x2.2)) else (some 0)
set_option maxHeartbeats 4000000 in
theorem w_35 {v : Zl} {G : Gl} (C : Lc v G) (ih : Int32 × St × St → Option Int32) (hih : ∀ a : Int32 × St × St, Lw v G 18 [(0, .ref G.2.2.1), (1, .ref (G.1.1 0)), (2, .ref (G.2.1.1 0)), (3, .int a.1)] [] a.2.1 a.2.2 (ih a)) (a : Int32 × St × St) : Lw v G 1159 [(0, .ref G.2.2.1), (1, .ref (G.1.1 0)), (2, .ref (G.2.1.1 0)), (3, .int a.1)] [] a.2.1 a.2.2 (law_35 G.2.2.2.1 G.2.2.2.2 ih a) := by
  unfold law_35
  refine l_aload_n (pc' := 1160) C 1 dL_1159 rfl rfl ?_
  refine l_aload_n (pc' := 1161) C 0 dL_1160 rfl rfl ?_
  refine l_iload_n (pc' := 1162) C 3 dL_1161 rfl rfl ?_
  refine l_iconst (pc' := 1163) C dL_1162 ki_1 rfl ?_
  refine l_iadd (pc' := 1164) C dL_1163 rfl ?_
  refine l_sld (pc' := 1165) C dL_1164 rfl ?_
  refine l_aload_n (pc' := 1166) C 0 dL_1165 rfl rfl ?_
  refine l_iload_n (pc' := 1167) C 3 dL_1166 rfl rfl ?_
  refine l_iconst (pc' := 1168) C dL_1167 ki_2 rfl ?_
  refine l_iadd (pc' := 1169) C dL_1168 rfl ?_
  refine l_sld (pc' := 1170) C dL_1169 rfl ?_
  refine l_callC (out' := o_w) (fr' := 7) (lo' := 175) (pc' := 1173) C FC_FL_legTime rfl lmL_158 dL_1170 [.int (G.2.2.2.2 (Int32.toNatClampNeg (a.1 + (1 : Int32)))), .int (G.2.2.2.2 (Int32.toNatClampNeg (a.1 + (2 : Int32))))] [] rfl rfl (Nat.le_of_ble_eq_true rfl) ⟨rfl, rfl⟩ (fun x h => cC_FL_legTime _ G.1 C.2.2.2.2.2.2.2.2.2.1 a.2.1 (G.2.2.2.2 (Int32.toNatClampNeg (a.1 + (1 : Int32)))) (G.2.2.2.2 (Int32.toNatClampNeg (a.1 + (2 : Int32)))) x h) rfl (fun x1 _ => ?_)
  show Lw v G 1173 _ [.int x1.1] x1.2 a.2.2 _
  refine l_aload_n (pc' := 1174) C 2 dL_1173 rfl rfl ?_
  refine l_aload_n (pc' := 1175) C 0 dL_1174 rfl rfl ?_
  refine l_iload_n (pc' := 1176) C 3 dL_1175 rfl rfl ?_
  refine l_iconst (pc' := 1177) C dL_1176 ki_1 rfl ?_
  refine l_iadd (pc' := 1178) C dL_1177 rfl ?_
  refine l_sld (pc' := 1179) C dL_1178 rfl ?_
  refine l_aload_n (pc' := 1180) C 0 dL_1179 rfl rfl ?_
  refine l_iload_n (pc' := 1181) C 3 dL_1180 rfl rfl ?_
  refine l_iconst (pc' := 1182) C dL_1181 ki_2 rfl ?_
  refine l_iadd (pc' := 1183) C dL_1182 rfl ?_
  refine l_sld (pc' := 1184) C dL_1183 rfl ?_
  refine l_callM (out' := o_w) (fr' := 10) (lo' := 242) (pc' := 1187) C FM_legTime rfl lmL_161 dL_1184 [.int (G.2.2.2.2 (Int32.toNatClampNeg (a.1 + (1 : Int32)))), .int (G.2.2.2.2 (Int32.toNatClampNeg (a.1 + (2 : Int32))))] [.int x1.1] rfl rfl (Nat.le_of_ble_eq_true rfl) ⟨rfl, rfl⟩ (fun x h => cM_legTime _ G.2.1 C.2.2.2.2.2.2.2.2.2.2.1 a.2.2 (G.2.2.2.2 (Int32.toNatClampNeg (a.1 + (1 : Int32)))) (G.2.2.2.2 (Int32.toNatClampNeg (a.1 + (2 : Int32)))) x h) rfl (fun x2 _ => ?_)
  show Lw v G 1187 _ [.int x2.1, .int x1.1] x1.2 x2.2 _
  refine l_icmp_eq (tgt := 1960) (pc' := 1190) C dL_1187 rfl rfl ?_ ?_
  · exact w_end C hih _ _ _
  · refine l_iconst (pc' := 1191) C dL_1190 ki_0 rfl ?_
    exact l_ret0
def law_36 (L : Nat) (xs : Nat → Int32) (ih : Int32 × St × St → Option Int32) (a : Int32 × St × St) : Option Int32 :=
  Gd (Ix (a.1 + (1 : Int32)) L) <|
  Gd (Ix (a.1 + (2 : Int32)) L) <|
  Option.bind (f_FL_lengthTo a.2.1 (xs (Int32.toNatClampNeg (a.1 + (1 : Int32)))) (xs (Int32.toNatClampNeg (a.1 + (2 : Int32))))) fun x1 =>
  Gd (Ix (a.1 + (1 : Int32)) L) <|
  Gd (Ix (a.1 + (2 : Int32)) L) <|
  Option.bind (m_lengthTo a.2.2 (xs (Int32.toNatClampNeg (a.1 + (1 : Int32)))) (xs (Int32.toNatClampNeg (a.1 + (2 : Int32))))) fun x2 =>
  if (x1.1 : Int32) = x2.1 then (ih (a.1 + (4 : Int32), x1.2, x2.2)) else (some 0)
set_option maxHeartbeats 4000000 in
theorem w_36 {v : Zl} {G : Gl} (C : Lc v G) (ih : Int32 × St × St → Option Int32) (hih : ∀ a : Int32 × St × St, Lw v G 18 [(0, .ref G.2.2.1), (1, .ref (G.1.1 0)), (2, .ref (G.2.1.1 0)), (3, .int a.1)] [] a.2.1 a.2.2 (ih a)) (a : Int32 × St × St) : Lw v G 1192 [(0, .ref G.2.2.1), (1, .ref (G.1.1 0)), (2, .ref (G.2.1.1 0)), (3, .int a.1)] [] a.2.1 a.2.2 (law_36 G.2.2.2.1 G.2.2.2.2 ih a) := by
  unfold law_36
  refine l_aload_n (pc' := 1193) C 1 dL_1192 rfl rfl ?_
  refine l_aload_n (pc' := 1194) C 0 dL_1193 rfl rfl ?_
  refine l_iload_n (pc' := 1195) C 3 dL_1194 rfl rfl ?_
  refine l_iconst (pc' := 1196) C dL_1195 ki_1 rfl ?_
  refine l_iadd (pc' := 1197) C dL_1196 rfl ?_
  refine l_sld (pc' := 1198) C dL_1197 rfl ?_
  refine l_aload_n (pc' := 1199) C 0 dL_1198 rfl rfl ?_
  refine l_iload_n (pc' := 1200) C 3 dL_1199 rfl rfl ?_
  refine l_iconst (pc' := 1201) C dL_1200 ki_2 rfl ?_
  refine l_iadd (pc' := 1202) C dL_1201 rfl ?_
  refine l_sld (pc' := 1203) C dL_1202 rfl ?_
  refine l_callC (out' := o_w) (fr' := 7) (lo' := 173) (pc' := 1206) C FC_FL_lengthTo rfl lmL_162 dL_1203 [.int (G.2.2.2.2 (Int32.toNatClampNeg (a.1 + (1 : Int32)))), .int (G.2.2.2.2 (Int32.toNatClampNeg (a.1 + (2 : Int32))))] [] rfl rfl (Nat.le_of_ble_eq_true rfl) ⟨rfl, rfl⟩ (fun x h => cC_FL_lengthTo _ G.1 C.2.2.2.2.2.2.2.2.2.1 a.2.1 (G.2.2.2.2 (Int32.toNatClampNeg (a.1 + (1 : Int32)))) (G.2.2.2.2 (Int32.toNatClampNeg (a.1 + (2 : Int32)))) x h) rfl (fun x1 _ => ?_)
  show Lw v G 1206 _ [.int x1.1] x1.2 a.2.2 _
  refine l_aload_n (pc' := 1207) C 2 dL_1206 rfl rfl ?_
  refine l_aload_n (pc' := 1208) C 0 dL_1207 rfl rfl ?_
  refine l_iload_n (pc' := 1209) C 3 dL_1208 rfl rfl ?_
  refine l_iconst (pc' := 1210) C dL_1209 ki_1 rfl ?_
  refine l_iadd (pc' := 1211) C dL_1210 rfl ?_
  refine l_sld (pc' := 1212) C dL_1211 rfl ?_
  refine l_aload_n (pc' := 1213) C 0 dL_1212 rfl rfl ?_
  refine l_iload_n (pc' := 1214) C 3 dL_1213 rfl rfl ?_
  refine l_iconst (pc' := 1215) C dL_1214 ki_2 rfl ?_
  refine l_iadd (pc' := 1216) C dL_1215 rfl ?_
  refine l_sld (pc' := 1217) C dL_1216 rfl ?_
  refine l_callM (out' := o_w) (fr' := 10) (lo' := 242) (pc' := 1220) C FM_lengthTo rfl lmL_165 dL_1217 [.int (G.2.2.2.2 (Int32.toNatClampNeg (a.1 + (1 : Int32)))), .int (G.2.2.2.2 (Int32.toNatClampNeg (a.1 + (2 : Int32))))] [.int x1.1] rfl rfl (Nat.le_of_ble_eq_true rfl) ⟨rfl, rfl⟩ (fun x h => cM_lengthTo _ G.2.1 C.2.2.2.2.2.2.2.2.2.2.1 a.2.2 (G.2.2.2.2 (Int32.toNatClampNeg (a.1 + (1 : Int32)))) (G.2.2.2.2 (Int32.toNatClampNeg (a.1 + (2 : Int32)))) x h) rfl (fun x2 _ => ?_)
  show Lw v G 1220 _ [.int x2.1, .int x1.1] x1.2 x2.2 _
  refine l_icmp_eq (tgt := 1960) (pc' := 1223) C dL_1220 rfl rfl ?_ ?_
  · exact w_end C hih _ _ _
  · refine l_iconst (pc' := 1224) C dL_1223 ki_0 rfl ?_
    exact l_ret0
def law_37 (L : Nat) (xs : Nat → Int32) (ih : Int32 × St × St → Option Int32) (a : Int32 × St × St) : Option Int32 :=
  Gd (Ix (a.1 + (1 : Int32)) L) <|
  Gd (Ix (a.1 + (2 : Int32)) L) <|
  Option.bind (f_FL_turnKind a.2.1 (xs (Int32.toNatClampNeg (a.1 + (1 : Int32)))) (xs (Int32.toNatClampNeg (a.1 + (2 : Int32))))) fun x1 =>
  Gd (Ix (a.1 + (1 : Int32)) L) <|
  Gd (Ix (a.1 + (2 : Int32)) L) <|
  Option.bind (m_turnKind a.2.2 (xs (Int32.toNatClampNeg (a.1 + (1 : Int32)))) (xs (Int32.toNatClampNeg (a.1 + (2 : Int32))))) fun x2 =>
  if (x1.1 : Int32) = x2.1 then (ih (a.1 + (4 : Int32), x1.2, x2.2)) else (some 0)
set_option maxHeartbeats 4000000 in
theorem w_37 {v : Zl} {G : Gl} (C : Lc v G) (ih : Int32 × St × St → Option Int32) (hih : ∀ a : Int32 × St × St, Lw v G 18 [(0, .ref G.2.2.1), (1, .ref (G.1.1 0)), (2, .ref (G.2.1.1 0)), (3, .int a.1)] [] a.2.1 a.2.2 (ih a)) (a : Int32 × St × St) : Lw v G 1225 [(0, .ref G.2.2.1), (1, .ref (G.1.1 0)), (2, .ref (G.2.1.1 0)), (3, .int a.1)] [] a.2.1 a.2.2 (law_37 G.2.2.2.1 G.2.2.2.2 ih a) := by
  unfold law_37
  refine l_aload_n (pc' := 1226) C 1 dL_1225 rfl rfl ?_
  refine l_aload_n (pc' := 1227) C 0 dL_1226 rfl rfl ?_
  refine l_iload_n (pc' := 1228) C 3 dL_1227 rfl rfl ?_
  refine l_iconst (pc' := 1229) C dL_1228 ki_1 rfl ?_
  refine l_iadd (pc' := 1230) C dL_1229 rfl ?_
  refine l_sld (pc' := 1231) C dL_1230 rfl ?_
  refine l_aload_n (pc' := 1232) C 0 dL_1231 rfl rfl ?_
  refine l_iload_n (pc' := 1233) C 3 dL_1232 rfl rfl ?_
  refine l_iconst (pc' := 1234) C dL_1233 ki_2 rfl ?_
  refine l_iadd (pc' := 1235) C dL_1234 rfl ?_
  refine l_sld (pc' := 1236) C dL_1235 rfl ?_
  refine l_callC (out' := o_w) (fr' := 7) (lo' := 175) (pc' := 1239) C FC_FL_turnKind rfl lmL_166 dL_1236 [.int (G.2.2.2.2 (Int32.toNatClampNeg (a.1 + (1 : Int32)))), .int (G.2.2.2.2 (Int32.toNatClampNeg (a.1 + (2 : Int32))))] [] rfl rfl (Nat.le_of_ble_eq_true rfl) ⟨rfl, rfl⟩ (fun x h => cC_FL_turnKind _ G.1 C.2.2.2.2.2.2.2.2.2.1 a.2.1 (G.2.2.2.2 (Int32.toNatClampNeg (a.1 + (1 : Int32)))) (G.2.2.2.2 (Int32.toNatClampNeg (a.1 + (2 : Int32)))) x h) rfl (fun x1 _ => ?_)
  show Lw v G 1239 _ [.int x1.1] x1.2 a.2.2 _
  refine l_aload_n (pc' := 1240) C 2 dL_1239 rfl rfl ?_
  refine l_aload_n (pc' := 1241) C 0 dL_1240 rfl rfl ?_
  refine l_iload_n (pc' := 1242) C 3 dL_1241 rfl rfl ?_
  refine l_iconst (pc' := 1243) C dL_1242 ki_1 rfl ?_
  refine l_iadd (pc' := 1244) C dL_1243 rfl ?_
  refine l_sld (pc' := 1245) C dL_1244 rfl ?_
  refine l_aload_n (pc' := 1246) C 0 dL_1245 rfl rfl ?_
  refine l_iload_n (pc' := 1247) C 3 dL_1246 rfl rfl ?_
  refine l_iconst (pc' := 1248) C dL_1247 ki_2 rfl ?_
  refine l_iadd (pc' := 1249) C dL_1248 rfl ?_
  refine l_sld (pc' := 1250) C dL_1249 rfl ?_
  refine l_callM (out' := o_w) (fr' := 10) (lo' := 242) (pc' := 1253) C FM_turnKind rfl lmL_169 dL_1250 [.int (G.2.2.2.2 (Int32.toNatClampNeg (a.1 + (1 : Int32)))), .int (G.2.2.2.2 (Int32.toNatClampNeg (a.1 + (2 : Int32))))] [.int x1.1] rfl rfl (Nat.le_of_ble_eq_true rfl) ⟨rfl, rfl⟩ (fun x h => cM_turnKind _ G.2.1 C.2.2.2.2.2.2.2.2.2.2.1 a.2.2 (G.2.2.2.2 (Int32.toNatClampNeg (a.1 + (1 : Int32)))) (G.2.2.2.2 (Int32.toNatClampNeg (a.1 + (2 : Int32)))) x h) rfl (fun x2 _ => ?_)
  show Lw v G 1253 _ [.int x2.1, .int x1.1] x1.2 x2.2 _
  refine l_icmp_eq (tgt := 1960) (pc' := 1256) C dL_1253 rfl rfl ?_ ?_
  · exact w_end C hih _ _ _
  · refine l_iconst (pc' := 1257) C dL_1256 ki_0 rfl ?_
    exact l_ret0
def law_38 (L : Nat) (xs : Nat → Int32) (ih : Int32 × St × St → Option Int32) (a : Int32 × St × St) : Option Int32 :=
  Gd (Ix (a.1 + (1 : Int32)) L) <|
  Gd (Ix (a.1 + (2 : Int32)) L) <|
  Option.bind (f_FL_turnSteps a.2.1 (xs (Int32.toNatClampNeg (a.1 + (1 : Int32)))) (xs (Int32.toNatClampNeg (a.1 + (2 : Int32))))) fun x1 =>
  Gd (Ix (a.1 + (1 : Int32)) L) <|
  Gd (Ix (a.1 + (2 : Int32)) L) <|
  Option.bind (m_turnSteps a.2.2 (xs (Int32.toNatClampNeg (a.1 + (1 : Int32)))) (xs (Int32.toNatClampNeg (a.1 + (2 : Int32))))) fun x2 =>
  if (x1.1 : Int32) = x2.1 then (ih (a.1 + (4 : Int32), x1.2, x2.2)) else (some 0)
set_option maxHeartbeats 4000000 in
theorem w_38 {v : Zl} {G : Gl} (C : Lc v G) (ih : Int32 × St × St → Option Int32) (hih : ∀ a : Int32 × St × St, Lw v G 18 [(0, .ref G.2.2.1), (1, .ref (G.1.1 0)), (2, .ref (G.2.1.1 0)), (3, .int a.1)] [] a.2.1 a.2.2 (ih a)) (a : Int32 × St × St) : Lw v G 1258 [(0, .ref G.2.2.1), (1, .ref (G.1.1 0)), (2, .ref (G.2.1.1 0)), (3, .int a.1)] [] a.2.1 a.2.2 (law_38 G.2.2.2.1 G.2.2.2.2 ih a) := by
  unfold law_38
  refine l_aload_n (pc' := 1259) C 1 dL_1258 rfl rfl ?_
  refine l_aload_n (pc' := 1260) C 0 dL_1259 rfl rfl ?_
  refine l_iload_n (pc' := 1261) C 3 dL_1260 rfl rfl ?_
  refine l_iconst (pc' := 1262) C dL_1261 ki_1 rfl ?_
  refine l_iadd (pc' := 1263) C dL_1262 rfl ?_
  refine l_sld (pc' := 1264) C dL_1263 rfl ?_
  refine l_aload_n (pc' := 1265) C 0 dL_1264 rfl rfl ?_
  refine l_iload_n (pc' := 1266) C 3 dL_1265 rfl rfl ?_
  refine l_iconst (pc' := 1267) C dL_1266 ki_2 rfl ?_
  refine l_iadd (pc' := 1268) C dL_1267 rfl ?_
  refine l_sld (pc' := 1269) C dL_1268 rfl ?_
  refine l_callC (out' := o_w) (fr' := 7) (lo' := 175) (pc' := 1272) C FC_FL_turnSteps rfl lmL_170 dL_1269 [.int (G.2.2.2.2 (Int32.toNatClampNeg (a.1 + (1 : Int32)))), .int (G.2.2.2.2 (Int32.toNatClampNeg (a.1 + (2 : Int32))))] [] rfl rfl (Nat.le_of_ble_eq_true rfl) ⟨rfl, rfl⟩ (fun x h => cC_FL_turnSteps _ G.1 C.2.2.2.2.2.2.2.2.2.1 a.2.1 (G.2.2.2.2 (Int32.toNatClampNeg (a.1 + (1 : Int32)))) (G.2.2.2.2 (Int32.toNatClampNeg (a.1 + (2 : Int32)))) x h) rfl (fun x1 _ => ?_)
  show Lw v G 1272 _ [.int x1.1] x1.2 a.2.2 _
  refine l_aload_n (pc' := 1273) C 2 dL_1272 rfl rfl ?_
  refine l_aload_n (pc' := 1274) C 0 dL_1273 rfl rfl ?_
  refine l_iload_n (pc' := 1275) C 3 dL_1274 rfl rfl ?_
  refine l_iconst (pc' := 1276) C dL_1275 ki_1 rfl ?_
  refine l_iadd (pc' := 1277) C dL_1276 rfl ?_
  refine l_sld (pc' := 1278) C dL_1277 rfl ?_
  refine l_aload_n (pc' := 1279) C 0 dL_1278 rfl rfl ?_
  refine l_iload_n (pc' := 1280) C 3 dL_1279 rfl rfl ?_
  refine l_iconst (pc' := 1281) C dL_1280 ki_2 rfl ?_
  refine l_iadd (pc' := 1282) C dL_1281 rfl ?_
  refine l_sld (pc' := 1283) C dL_1282 rfl ?_
  refine l_callM (out' := o_w) (fr' := 10) (lo' := 242) (pc' := 1286) C FM_turnSteps rfl lmL_173 dL_1283 [.int (G.2.2.2.2 (Int32.toNatClampNeg (a.1 + (1 : Int32)))), .int (G.2.2.2.2 (Int32.toNatClampNeg (a.1 + (2 : Int32))))] [.int x1.1] rfl rfl (Nat.le_of_ble_eq_true rfl) ⟨rfl, rfl⟩ (fun x h => cM_turnSteps _ G.2.1 C.2.2.2.2.2.2.2.2.2.2.1 a.2.2 (G.2.2.2.2 (Int32.toNatClampNeg (a.1 + (1 : Int32)))) (G.2.2.2.2 (Int32.toNatClampNeg (a.1 + (2 : Int32)))) x h) rfl (fun x2 _ => ?_)
  show Lw v G 1286 _ [.int x2.1, .int x1.1] x1.2 x2.2 _
  refine l_icmp_eq (tgt := 1960) (pc' := 1289) C dL_1286 rfl rfl ?_ ?_
  · exact w_end C hih _ _ _
  · refine l_iconst (pc' := 1290) C dL_1289 ki_0 rfl ?_
    exact l_ret0
def law_39 (L : Nat) (xs : Nat → Int32) (ih : Int32 × St × St → Option Int32) (a : Int32 × St × St) : Option Int32 :=
  Gd (Ix (a.1 + (1 : Int32)) L) <|
  Gd (Ix (a.1 + (2 : Int32)) L) <|
  Option.bind (f_FL_turnRadius a.2.1 (xs (Int32.toNatClampNeg (a.1 + (1 : Int32)))) (xs (Int32.toNatClampNeg (a.1 + (2 : Int32))))) fun x1 =>
  Gd (Ix (a.1 + (1 : Int32)) L) <|
  Gd (Ix (a.1 + (2 : Int32)) L) <|
  Option.bind (m_turnRadius a.2.2 (xs (Int32.toNatClampNeg (a.1 + (1 : Int32)))) (xs (Int32.toNatClampNeg (a.1 + (2 : Int32))))) fun x2 =>
  if (x1.1 : Int32) = x2.1 then (ih (a.1 + (4 : Int32), x1.2, x2.2)) else (some 0)
set_option maxHeartbeats 4000000 in
theorem w_39 {v : Zl} {G : Gl} (C : Lc v G) (ih : Int32 × St × St → Option Int32) (hih : ∀ a : Int32 × St × St, Lw v G 18 [(0, .ref G.2.2.1), (1, .ref (G.1.1 0)), (2, .ref (G.2.1.1 0)), (3, .int a.1)] [] a.2.1 a.2.2 (ih a)) (a : Int32 × St × St) : Lw v G 1291 [(0, .ref G.2.2.1), (1, .ref (G.1.1 0)), (2, .ref (G.2.1.1 0)), (3, .int a.1)] [] a.2.1 a.2.2 (law_39 G.2.2.2.1 G.2.2.2.2 ih a) := by
  unfold law_39
  refine l_aload_n (pc' := 1292) C 1 dL_1291 rfl rfl ?_
  refine l_aload_n (pc' := 1293) C 0 dL_1292 rfl rfl ?_
  refine l_iload_n (pc' := 1294) C 3 dL_1293 rfl rfl ?_
  refine l_iconst (pc' := 1295) C dL_1294 ki_1 rfl ?_
  refine l_iadd (pc' := 1296) C dL_1295 rfl ?_
  refine l_sld (pc' := 1297) C dL_1296 rfl ?_
  refine l_aload_n (pc' := 1298) C 0 dL_1297 rfl rfl ?_
  refine l_iload_n (pc' := 1299) C 3 dL_1298 rfl rfl ?_
  refine l_iconst (pc' := 1300) C dL_1299 ki_2 rfl ?_
  refine l_iadd (pc' := 1301) C dL_1300 rfl ?_
  refine l_sld (pc' := 1302) C dL_1301 rfl ?_
  refine l_callC (out' := o_w) (fr' := 7) (lo' := 175) (pc' := 1305) C FC_FL_turnRadius rfl lmL_174 dL_1302 [.int (G.2.2.2.2 (Int32.toNatClampNeg (a.1 + (1 : Int32)))), .int (G.2.2.2.2 (Int32.toNatClampNeg (a.1 + (2 : Int32))))] [] rfl rfl (Nat.le_of_ble_eq_true rfl) ⟨rfl, rfl⟩ (fun x h => cC_FL_turnRadius _ G.1 C.2.2.2.2.2.2.2.2.2.1 a.2.1 (G.2.2.2.2 (Int32.toNatClampNeg (a.1 + (1 : Int32)))) (G.2.2.2.2 (Int32.toNatClampNeg (a.1 + (2 : Int32)))) x h) rfl (fun x1 _ => ?_)
  show Lw v G 1305 _ [.int x1.1] x1.2 a.2.2 _
  refine l_aload_n (pc' := 1306) C 2 dL_1305 rfl rfl ?_
  refine l_aload_n (pc' := 1307) C 0 dL_1306 rfl rfl ?_
  refine l_iload_n (pc' := 1308) C 3 dL_1307 rfl rfl ?_
  refine l_iconst (pc' := 1309) C dL_1308 ki_1 rfl ?_
  refine l_iadd (pc' := 1310) C dL_1309 rfl ?_
  refine l_sld (pc' := 1311) C dL_1310 rfl ?_
  refine l_aload_n (pc' := 1312) C 0 dL_1311 rfl rfl ?_
  refine l_iload_n (pc' := 1313) C 3 dL_1312 rfl rfl ?_
  refine l_iconst (pc' := 1314) C dL_1313 ki_2 rfl ?_
  refine l_iadd (pc' := 1315) C dL_1314 rfl ?_
  refine l_sld (pc' := 1316) C dL_1315 rfl ?_
  refine l_callM (out' := o_w) (fr' := 10) (lo' := 242) (pc' := 1319) C FM_turnRadius rfl lmL_177 dL_1316 [.int (G.2.2.2.2 (Int32.toNatClampNeg (a.1 + (1 : Int32)))), .int (G.2.2.2.2 (Int32.toNatClampNeg (a.1 + (2 : Int32))))] [.int x1.1] rfl rfl (Nat.le_of_ble_eq_true rfl) ⟨rfl, rfl⟩ (fun x h => cM_turnRadius _ G.2.1 C.2.2.2.2.2.2.2.2.2.2.1 a.2.2 (G.2.2.2.2 (Int32.toNatClampNeg (a.1 + (1 : Int32)))) (G.2.2.2.2 (Int32.toNatClampNeg (a.1 + (2 : Int32)))) x h) rfl (fun x2 _ => ?_)
  show Lw v G 1319 _ [.int x2.1, .int x1.1] x1.2 x2.2 _
  refine l_icmp_eq (tgt := 1960) (pc' := 1322) C dL_1319 rfl rfl ?_ ?_
  · exact w_end C hih _ _ _
  · refine l_iconst (pc' := 1323) C dL_1322 ki_0 rfl ?_
    exact l_ret0
def law_40 (L : Nat) (xs : Nat → Int32) (ih : Int32 × St × St → Option Int32) (a : Int32 × St × St) : Option Int32 :=
  Gd (Ix (a.1 + (1 : Int32)) L) <|
  Gd (Ix (a.1 + (2 : Int32)) L) <|
  Option.bind (f_FL_turnLead a.2.1 (xs (Int32.toNatClampNeg (a.1 + (1 : Int32)))) (xs (Int32.toNatClampNeg (a.1 + (2 : Int32))))) fun x1 =>
  Gd (Ix (a.1 + (1 : Int32)) L) <|
  Gd (Ix (a.1 + (2 : Int32)) L) <|
  Option.bind (m_turnLead a.2.2 (xs (Int32.toNatClampNeg (a.1 + (1 : Int32)))) (xs (Int32.toNatClampNeg (a.1 + (2 : Int32))))) fun x2 =>
  if (x1.1 : Int32) = x2.1 then (ih (a.1 + (4 : Int32), x1.2, x2.2)) else (some 0)
set_option maxHeartbeats 4000000 in
theorem w_40 {v : Zl} {G : Gl} (C : Lc v G) (ih : Int32 × St × St → Option Int32) (hih : ∀ a : Int32 × St × St, Lw v G 18 [(0, .ref G.2.2.1), (1, .ref (G.1.1 0)), (2, .ref (G.2.1.1 0)), (3, .int a.1)] [] a.2.1 a.2.2 (ih a)) (a : Int32 × St × St) : Lw v G 1324 [(0, .ref G.2.2.1), (1, .ref (G.1.1 0)), (2, .ref (G.2.1.1 0)), (3, .int a.1)] [] a.2.1 a.2.2 (law_40 G.2.2.2.1 G.2.2.2.2 ih a) := by
  unfold law_40
  refine l_aload_n (pc' := 1325) C 1 dL_1324 rfl rfl ?_
  refine l_aload_n (pc' := 1326) C 0 dL_1325 rfl rfl ?_
  refine l_iload_n (pc' := 1327) C 3 dL_1326 rfl rfl ?_
  refine l_iconst (pc' := 1328) C dL_1327 ki_1 rfl ?_
  refine l_iadd (pc' := 1329) C dL_1328 rfl ?_
  refine l_sld (pc' := 1330) C dL_1329 rfl ?_
  refine l_aload_n (pc' := 1331) C 0 dL_1330 rfl rfl ?_
  refine l_iload_n (pc' := 1332) C 3 dL_1331 rfl rfl ?_
  refine l_iconst (pc' := 1333) C dL_1332 ki_2 rfl ?_
  refine l_iadd (pc' := 1334) C dL_1333 rfl ?_
  refine l_sld (pc' := 1335) C dL_1334 rfl ?_
  refine l_callC (out' := o_w) (fr' := 7) (lo' := 175) (pc' := 1338) C FC_FL_turnLead rfl lmL_178 dL_1335 [.int (G.2.2.2.2 (Int32.toNatClampNeg (a.1 + (1 : Int32)))), .int (G.2.2.2.2 (Int32.toNatClampNeg (a.1 + (2 : Int32))))] [] rfl rfl (Nat.le_of_ble_eq_true rfl) ⟨rfl, rfl⟩ (fun x h => cC_FL_turnLead _ G.1 C.2.2.2.2.2.2.2.2.2.1 a.2.1 (G.2.2.2.2 (Int32.toNatClampNeg (a.1 + (1 : Int32)))) (G.2.2.2.2 (Int32.toNatClampNeg (a.1 + (2 : Int32)))) x h) rfl (fun x1 _ => ?_)
  show Lw v G 1338 _ [.int x1.1] x1.2 a.2.2 _
  refine l_aload_n (pc' := 1339) C 2 dL_1338 rfl rfl ?_
  refine l_aload_n (pc' := 1340) C 0 dL_1339 rfl rfl ?_
  refine l_iload_n (pc' := 1341) C 3 dL_1340 rfl rfl ?_
  refine l_iconst (pc' := 1342) C dL_1341 ki_1 rfl ?_
  refine l_iadd (pc' := 1343) C dL_1342 rfl ?_
  refine l_sld (pc' := 1344) C dL_1343 rfl ?_
  refine l_aload_n (pc' := 1345) C 0 dL_1344 rfl rfl ?_
  refine l_iload_n (pc' := 1346) C 3 dL_1345 rfl rfl ?_
  refine l_iconst (pc' := 1347) C dL_1346 ki_2 rfl ?_
  refine l_iadd (pc' := 1348) C dL_1347 rfl ?_
  refine l_sld (pc' := 1349) C dL_1348 rfl ?_
  refine l_callM (out' := o_w) (fr' := 10) (lo' := 242) (pc' := 1352) C FM_turnLead rfl lmL_181 dL_1349 [.int (G.2.2.2.2 (Int32.toNatClampNeg (a.1 + (1 : Int32)))), .int (G.2.2.2.2 (Int32.toNatClampNeg (a.1 + (2 : Int32))))] [.int x1.1] rfl rfl (Nat.le_of_ble_eq_true rfl) ⟨rfl, rfl⟩ (fun x h => cM_turnLead _ G.2.1 C.2.2.2.2.2.2.2.2.2.2.1 a.2.2 (G.2.2.2.2 (Int32.toNatClampNeg (a.1 + (1 : Int32)))) (G.2.2.2.2 (Int32.toNatClampNeg (a.1 + (2 : Int32)))) x h) rfl (fun x2 _ => ?_)
  show Lw v G 1352 _ [.int x2.1, .int x1.1] x1.2 x2.2 _
  refine l_icmp_eq (tgt := 1960) (pc' := 1355) C dL_1352 rfl rfl ?_ ?_
  · exact w_end C hih _ _ _
  · refine l_iconst (pc' := 1356) C dL_1355 ki_0 rfl ?_
    exact l_ret0
def law_41 (L : Nat) (xs : Nat → Int32) (ih : Int32 × St × St → Option Int32) (a : Int32 × St × St) : Option Int32 :=
  Gd (Ix (a.1 + (1 : Int32)) L) <|
  Gd (Ix (a.1 + (2 : Int32)) L) <|
  Option.bind (f_FL_holdEntry a.2.1 (xs (Int32.toNatClampNeg (a.1 + (1 : Int32)))) (xs (Int32.toNatClampNeg (a.1 + (2 : Int32))))) fun x1 =>
  Gd (Ix (a.1 + (1 : Int32)) L) <|
  Gd (Ix (a.1 + (2 : Int32)) L) <|
  Option.bind (m_holdEntry a.2.2 (xs (Int32.toNatClampNeg (a.1 + (1 : Int32)))) (xs (Int32.toNatClampNeg (a.1 + (2 : Int32))))) fun x2 =>
  if (x1.1 : Int32) = x2.1 then (ih (a.1 + (4 : Int32), x1.2, x2.2)) else (some 0)
set_option maxHeartbeats 4000000 in
theorem w_41 {v : Zl} {G : Gl} (C : Lc v G) (ih : Int32 × St × St → Option Int32) (hih : ∀ a : Int32 × St × St, Lw v G 18 [(0, .ref G.2.2.1), (1, .ref (G.1.1 0)), (2, .ref (G.2.1.1 0)), (3, .int a.1)] [] a.2.1 a.2.2 (ih a)) (a : Int32 × St × St) : Lw v G 1357 [(0, .ref G.2.2.1), (1, .ref (G.1.1 0)), (2, .ref (G.2.1.1 0)), (3, .int a.1)] [] a.2.1 a.2.2 (law_41 G.2.2.2.1 G.2.2.2.2 ih a) := by
  unfold law_41
  refine l_aload_n (pc' := 1358) C 1 dL_1357 rfl rfl ?_
  refine l_aload_n (pc' := 1359) C 0 dL_1358 rfl rfl ?_
  refine l_iload_n (pc' := 1360) C 3 dL_1359 rfl rfl ?_
  refine l_iconst (pc' := 1361) C dL_1360 ki_1 rfl ?_
  refine l_iadd (pc' := 1362) C dL_1361 rfl ?_
  refine l_sld (pc' := 1363) C dL_1362 rfl ?_
  refine l_aload_n (pc' := 1364) C 0 dL_1363 rfl rfl ?_
  refine l_iload_n (pc' := 1365) C 3 dL_1364 rfl rfl ?_
  refine l_iconst (pc' := 1366) C dL_1365 ki_2 rfl ?_
  refine l_iadd (pc' := 1367) C dL_1366 rfl ?_
  refine l_sld (pc' := 1368) C dL_1367 rfl ?_
  refine l_callC (out' := o_w) (fr' := 7) (lo' := 175) (pc' := 1371) C FC_FL_holdEntry rfl lmL_182 dL_1368 [.int (G.2.2.2.2 (Int32.toNatClampNeg (a.1 + (1 : Int32)))), .int (G.2.2.2.2 (Int32.toNatClampNeg (a.1 + (2 : Int32))))] [] rfl rfl (Nat.le_of_ble_eq_true rfl) ⟨rfl, rfl⟩ (fun x h => cC_FL_holdEntry _ G.1 C.2.2.2.2.2.2.2.2.2.1 a.2.1 (G.2.2.2.2 (Int32.toNatClampNeg (a.1 + (1 : Int32)))) (G.2.2.2.2 (Int32.toNatClampNeg (a.1 + (2 : Int32)))) x h) rfl (fun x1 _ => ?_)
  show Lw v G 1371 _ [.int x1.1] x1.2 a.2.2 _
  refine l_aload_n (pc' := 1372) C 2 dL_1371 rfl rfl ?_
  refine l_aload_n (pc' := 1373) C 0 dL_1372 rfl rfl ?_
  refine l_iload_n (pc' := 1374) C 3 dL_1373 rfl rfl ?_
  refine l_iconst (pc' := 1375) C dL_1374 ki_1 rfl ?_
  refine l_iadd (pc' := 1376) C dL_1375 rfl ?_
  refine l_sld (pc' := 1377) C dL_1376 rfl ?_
  refine l_aload_n (pc' := 1378) C 0 dL_1377 rfl rfl ?_
  refine l_iload_n (pc' := 1379) C 3 dL_1378 rfl rfl ?_
  refine l_iconst (pc' := 1380) C dL_1379 ki_2 rfl ?_
  refine l_iadd (pc' := 1381) C dL_1380 rfl ?_
  refine l_sld (pc' := 1382) C dL_1381 rfl ?_
  refine l_callM (out' := o_w) (fr' := 10) (lo' := 242) (pc' := 1385) C FM_holdEntry rfl lmL_185 dL_1382 [.int (G.2.2.2.2 (Int32.toNatClampNeg (a.1 + (1 : Int32)))), .int (G.2.2.2.2 (Int32.toNatClampNeg (a.1 + (2 : Int32))))] [.int x1.1] rfl rfl (Nat.le_of_ble_eq_true rfl) ⟨rfl, rfl⟩ (fun x h => cM_holdEntry _ G.2.1 C.2.2.2.2.2.2.2.2.2.2.1 a.2.2 (G.2.2.2.2 (Int32.toNatClampNeg (a.1 + (1 : Int32)))) (G.2.2.2.2 (Int32.toNatClampNeg (a.1 + (2 : Int32)))) x h) rfl (fun x2 _ => ?_)
  show Lw v G 1385 _ [.int x2.1, .int x1.1] x1.2 x2.2 _
  refine l_icmp_eq (tgt := 1960) (pc' := 1388) C dL_1385 rfl rfl ?_ ?_
  · exact w_end C hih _ _ _
  · refine l_iconst (pc' := 1389) C dL_1388 ki_0 rfl ?_
    exact l_ret0
def law_42 (L : Nat) (xs : Nat → Int32) (ih : Int32 × St × St → Option Int32) (a : Int32 × St × St) : Option Int32 :=
  Gd (Ix (a.1 + (1 : Int32)) L) <|
  Gd (Ix (a.1 + (2 : Int32)) L) <|
  Gd (Ix (a.1 + (3 : Int32)) L) <|
  Option.bind (f_FL_entryFor (xs (Int32.toNatClampNeg (a.1 + (1 : Int32)))) (xs (Int32.toNatClampNeg (a.1 + (2 : Int32)))) (bz (xs (Int32.toNatClampNeg (a.1 + (3 : Int32)))))) fun x1 =>
  Gd (Ix (a.1 + (1 : Int32)) L) <|
  Gd (Ix (a.1 + (2 : Int32)) L) <|
  Gd (Ix (a.1 + (3 : Int32)) L) <|
  Option.bind (m_entryFor (xs (Int32.toNatClampNeg (a.1 + (1 : Int32)))) (xs (Int32.toNatClampNeg (a.1 + (2 : Int32)))) (bz (xs (Int32.toNatClampNeg (a.1 + (3 : Int32)))))) fun x2 =>
  if (x1 : Int32) = x2 then (ih (a.1 + (4 : Int32), a.2.1, a.2.2)) else (some 0)
set_option maxHeartbeats 4000000 in
theorem w_42 {v : Zl} {G : Gl} (C : Lc v G) (ih : Int32 × St × St → Option Int32) (hih : ∀ a : Int32 × St × St, Lw v G 18 [(0, .ref G.2.2.1), (1, .ref (G.1.1 0)), (2, .ref (G.2.1.1 0)), (3, .int a.1)] [] a.2.1 a.2.2 (ih a)) (a : Int32 × St × St) : Lw v G 1390 [(0, .ref G.2.2.1), (1, .ref (G.1.1 0)), (2, .ref (G.2.1.1 0)), (3, .int a.1)] [] a.2.1 a.2.2 (law_42 G.2.2.2.1 G.2.2.2.2 ih a) := by
  unfold law_42
  refine l_aload_n (pc' := 1391) C 1 dL_1390 rfl rfl ?_
  refine l_aload_n (pc' := 1392) C 0 dL_1391 rfl rfl ?_
  refine l_iload_n (pc' := 1393) C 3 dL_1392 rfl rfl ?_
  refine l_iconst (pc' := 1394) C dL_1393 ki_1 rfl ?_
  refine l_iadd (pc' := 1395) C dL_1394 rfl ?_
  refine l_sld (pc' := 1396) C dL_1395 rfl ?_
  refine l_aload_n (pc' := 1397) C 0 dL_1396 rfl rfl ?_
  refine l_iload_n (pc' := 1398) C 3 dL_1397 rfl rfl ?_
  refine l_iconst (pc' := 1399) C dL_1398 ki_2 rfl ?_
  refine l_iadd (pc' := 1400) C dL_1399 rfl ?_
  refine l_sld (pc' := 1401) C dL_1400 rfl ?_
  refine l_aload_n (pc' := 1402) C 0 dL_1401 rfl rfl ?_
  refine l_iload_n (pc' := 1403) C 3 dL_1402 rfl rfl ?_
  refine l_iconst (pc' := 1404) C dL_1403 ki_3 rfl ?_
  refine l_iadd (pc' := 1405) C dL_1404 rfl ?_
  refine l_sld (pc' := 1406) C dL_1405 rfl ?_
  refine l_bool (pc' := 1414) C dL_1406 dL_1409 dL_1410 dL_1413 rfl rfl rfl rfl ?_
  refine l_callC (out' := (o_r a.2.1)) (fr' := 2) (lo' := 43) (pc' := 1417) C FC_FL_entryFor rfl lmL_186 dL_1414 [.int (G.2.2.2.2 (Int32.toNatClampNeg (a.1 + (1 : Int32)))), .int (G.2.2.2.2 (Int32.toNatClampNeg (a.1 + (2 : Int32)))), .int (bz (G.2.2.2.2 (Int32.toNatClampNeg (a.1 + (3 : Int32)))))] [] rfl rfl (Nat.le_of_ble_eq_true rfl) ⟨rfl, rfl⟩ (fun x h => cC_FL_entryFor _ G.1 C.2.2.2.2.2.2.2.2.2.1 a.2.1 (G.2.2.2.2 (Int32.toNatClampNeg (a.1 + (1 : Int32)))) (G.2.2.2.2 (Int32.toNatClampNeg (a.1 + (2 : Int32)))) (bz (G.2.2.2.2 (Int32.toNatClampNeg (a.1 + (3 : Int32))))) x h) rfl (fun x1 _ => ?_)
  show Lw v G 1417 _ [.int x1] a.2.1 a.2.2 _
  refine l_aload_n (pc' := 1418) C 2 dL_1417 rfl rfl ?_
  refine l_aload_n (pc' := 1419) C 0 dL_1418 rfl rfl ?_
  refine l_iload_n (pc' := 1420) C 3 dL_1419 rfl rfl ?_
  refine l_iconst (pc' := 1421) C dL_1420 ki_1 rfl ?_
  refine l_iadd (pc' := 1422) C dL_1421 rfl ?_
  refine l_sld (pc' := 1423) C dL_1422 rfl ?_
  refine l_aload_n (pc' := 1424) C 0 dL_1423 rfl rfl ?_
  refine l_iload_n (pc' := 1425) C 3 dL_1424 rfl rfl ?_
  refine l_iconst (pc' := 1426) C dL_1425 ki_2 rfl ?_
  refine l_iadd (pc' := 1427) C dL_1426 rfl ?_
  refine l_sld (pc' := 1428) C dL_1427 rfl ?_
  refine l_aload_n (pc' := 1429) C 0 dL_1428 rfl rfl ?_
  refine l_iload_n (pc' := 1430) C 3 dL_1429 rfl rfl ?_
  refine l_iconst (pc' := 1431) C dL_1430 ki_3 rfl ?_
  refine l_iadd (pc' := 1432) C dL_1431 rfl ?_
  refine l_sld (pc' := 1433) C dL_1432 rfl ?_
  refine l_bool (pc' := 1441) C dL_1433 dL_1436 dL_1437 dL_1440 rfl rfl rfl rfl ?_
  refine l_callM (out' := (o_r a.2.2)) (fr' := 2) (lo' := 43) (pc' := 1444) C FM_entryFor rfl lmL_190 dL_1441 [.int (G.2.2.2.2 (Int32.toNatClampNeg (a.1 + (1 : Int32)))), .int (G.2.2.2.2 (Int32.toNatClampNeg (a.1 + (2 : Int32)))), .int (bz (G.2.2.2.2 (Int32.toNatClampNeg (a.1 + (3 : Int32)))))] [.int x1] rfl rfl (Nat.le_of_ble_eq_true rfl) ⟨rfl, rfl⟩ (fun x h => cM_entryFor _ G.2.1 C.2.2.2.2.2.2.2.2.2.2.1 a.2.2 (G.2.2.2.2 (Int32.toNatClampNeg (a.1 + (1 : Int32)))) (G.2.2.2.2 (Int32.toNatClampNeg (a.1 + (2 : Int32)))) (bz (G.2.2.2.2 (Int32.toNatClampNeg (a.1 + (3 : Int32))))) x h) rfl (fun x2 _ => ?_)
  show Lw v G 1444 _ [.int x2, .int x1] a.2.1 a.2.2 _
  refine l_icmp_eq (tgt := 1960) (pc' := 1447) C dL_1444 rfl rfl ?_ ?_
  · exact w_end C hih _ _ _
  · refine l_iconst (pc' := 1448) C dL_1447 ki_0 rfl ?_
    exact l_ret0
def law_43 (L : Nat) (xs : Nat → Int32) (ih : Int32 × St × St → Option Int32) (a : Int32 × St × St) : Option Int32 :=
  Gd (Ix (a.1 + (1 : Int32)) L) <|
  Option.bind (f_FL_pieceCount a.2.1 (xs (Int32.toNatClampNeg (a.1 + (1 : Int32))))) fun x1 =>
  Gd (Ix (a.1 + (1 : Int32)) L) <|
  Option.bind (m_pieceCount a.2.2 (xs (Int32.toNatClampNeg (a.1 + (1 : Int32))))) fun x2 =>
  if (x1.1 : Int32) = x2.1 then (ih (a.1 + (4 : Int32), x1.2, x2.2)) else (some 0)
set_option maxHeartbeats 4000000 in
theorem w_43 {v : Zl} {G : Gl} (C : Lc v G) (ih : Int32 × St × St → Option Int32) (hih : ∀ a : Int32 × St × St, Lw v G 18 [(0, .ref G.2.2.1), (1, .ref (G.1.1 0)), (2, .ref (G.2.1.1 0)), (3, .int a.1)] [] a.2.1 a.2.2 (ih a)) (a : Int32 × St × St) : Lw v G 1449 [(0, .ref G.2.2.1), (1, .ref (G.1.1 0)), (2, .ref (G.2.1.1 0)), (3, .int a.1)] [] a.2.1 a.2.2 (law_43 G.2.2.2.1 G.2.2.2.2 ih a) := by
  unfold law_43
  refine l_aload_n (pc' := 1450) C 1 dL_1449 rfl rfl ?_
  refine l_aload_n (pc' := 1451) C 0 dL_1450 rfl rfl ?_
  refine l_iload_n (pc' := 1452) C 3 dL_1451 rfl rfl ?_
  refine l_iconst (pc' := 1453) C dL_1452 ki_1 rfl ?_
  refine l_iadd (pc' := 1454) C dL_1453 rfl ?_
  refine l_sld (pc' := 1455) C dL_1454 rfl ?_
  refine l_callC (out' := o_w) (fr' := 7) (lo' := 173) (pc' := 1458) C FC_FL_pieceCount rfl lmL_191 dL_1455 [.int (G.2.2.2.2 (Int32.toNatClampNeg (a.1 + (1 : Int32))))] [] rfl rfl (Nat.le_of_ble_eq_true rfl) ⟨rfl, rfl⟩ (fun x h => cC_FL_pieceCount _ G.1 C.2.2.2.2.2.2.2.2.2.1 a.2.1 (G.2.2.2.2 (Int32.toNatClampNeg (a.1 + (1 : Int32)))) x h) rfl (fun x1 _ => ?_)
  show Lw v G 1458 _ [.int x1.1] x1.2 a.2.2 _
  refine l_aload_n (pc' := 1459) C 2 dL_1458 rfl rfl ?_
  refine l_aload_n (pc' := 1460) C 0 dL_1459 rfl rfl ?_
  refine l_iload_n (pc' := 1461) C 3 dL_1460 rfl rfl ?_
  refine l_iconst (pc' := 1462) C dL_1461 ki_1 rfl ?_
  refine l_iadd (pc' := 1463) C dL_1462 rfl ?_
  refine l_sld (pc' := 1464) C dL_1463 rfl ?_
  refine l_callM (out' := o_w) (fr' := 9) (lo' := 220) (pc' := 1467) C FM_pieceCount rfl lmL_194 dL_1464 [.int (G.2.2.2.2 (Int32.toNatClampNeg (a.1 + (1 : Int32))))] [.int x1.1] rfl rfl (Nat.le_of_ble_eq_true rfl) ⟨rfl, rfl⟩ (fun x h => cM_pieceCount _ G.2.1 C.2.2.2.2.2.2.2.2.2.2.1 a.2.2 (G.2.2.2.2 (Int32.toNatClampNeg (a.1 + (1 : Int32)))) x h) rfl (fun x2 _ => ?_)
  show Lw v G 1467 _ [.int x2.1, .int x1.1] x1.2 x2.2 _
  refine l_icmp_eq (tgt := 1960) (pc' := 1470) C dL_1467 rfl rfl ?_ ?_
  · exact w_end C hih _ _ _
  · refine l_iconst (pc' := 1471) C dL_1470 ki_0 rfl ?_
    exact l_ret0
def law_44 (L : Nat) (xs : Nat → Int32) (ih : Int32 × St × St → Option Int32) (a : Int32 × St × St) : Option Int32 :=
  Gd (Ix (a.1 + (1 : Int32)) L) <|
  Gd (Ix (a.1 + (2 : Int32)) L) <|
  Option.bind (f_FL_pieceLeg a.2.1 (xs (Int32.toNatClampNeg (a.1 + (1 : Int32)))) (xs (Int32.toNatClampNeg (a.1 + (2 : Int32))))) fun x1 =>
  Gd (Ix (a.1 + (1 : Int32)) L) <|
  Gd (Ix (a.1 + (2 : Int32)) L) <|
  Option.bind (m_pieceLeg a.2.2 (xs (Int32.toNatClampNeg (a.1 + (1 : Int32)))) (xs (Int32.toNatClampNeg (a.1 + (2 : Int32))))) fun x2 =>
  if (x1.1 : Int32) = x2.1 then (ih (a.1 + (4 : Int32), x1.2, x2.2)) else (some 0)
set_option maxHeartbeats 4000000 in
theorem w_44 {v : Zl} {G : Gl} (C : Lc v G) (ih : Int32 × St × St → Option Int32) (hih : ∀ a : Int32 × St × St, Lw v G 18 [(0, .ref G.2.2.1), (1, .ref (G.1.1 0)), (2, .ref (G.2.1.1 0)), (3, .int a.1)] [] a.2.1 a.2.2 (ih a)) (a : Int32 × St × St) : Lw v G 1472 [(0, .ref G.2.2.1), (1, .ref (G.1.1 0)), (2, .ref (G.2.1.1 0)), (3, .int a.1)] [] a.2.1 a.2.2 (law_44 G.2.2.2.1 G.2.2.2.2 ih a) := by
  unfold law_44
  refine l_aload_n (pc' := 1473) C 1 dL_1472 rfl rfl ?_
  refine l_aload_n (pc' := 1474) C 0 dL_1473 rfl rfl ?_
  refine l_iload_n (pc' := 1475) C 3 dL_1474 rfl rfl ?_
  refine l_iconst (pc' := 1476) C dL_1475 ki_1 rfl ?_
  refine l_iadd (pc' := 1477) C dL_1476 rfl ?_
  refine l_sld (pc' := 1478) C dL_1477 rfl ?_
  refine l_aload_n (pc' := 1479) C 0 dL_1478 rfl rfl ?_
  refine l_iload_n (pc' := 1480) C 3 dL_1479 rfl rfl ?_
  refine l_iconst (pc' := 1481) C dL_1480 ki_2 rfl ?_
  refine l_iadd (pc' := 1482) C dL_1481 rfl ?_
  refine l_sld (pc' := 1483) C dL_1482 rfl ?_
  refine l_callC (out' := o_w) (fr' := 7) (lo' := 175) (pc' := 1486) C FC_FL_pieceLeg rfl lmL_195 dL_1483 [.int (G.2.2.2.2 (Int32.toNatClampNeg (a.1 + (1 : Int32)))), .int (G.2.2.2.2 (Int32.toNatClampNeg (a.1 + (2 : Int32))))] [] rfl rfl (Nat.le_of_ble_eq_true rfl) ⟨rfl, rfl⟩ (fun x h => cC_FL_pieceLeg _ G.1 C.2.2.2.2.2.2.2.2.2.1 a.2.1 (G.2.2.2.2 (Int32.toNatClampNeg (a.1 + (1 : Int32)))) (G.2.2.2.2 (Int32.toNatClampNeg (a.1 + (2 : Int32)))) x h) rfl (fun x1 _ => ?_)
  show Lw v G 1486 _ [.int x1.1] x1.2 a.2.2 _
  refine l_aload_n (pc' := 1487) C 2 dL_1486 rfl rfl ?_
  refine l_aload_n (pc' := 1488) C 0 dL_1487 rfl rfl ?_
  refine l_iload_n (pc' := 1489) C 3 dL_1488 rfl rfl ?_
  refine l_iconst (pc' := 1490) C dL_1489 ki_1 rfl ?_
  refine l_iadd (pc' := 1491) C dL_1490 rfl ?_
  refine l_sld (pc' := 1492) C dL_1491 rfl ?_
  refine l_aload_n (pc' := 1493) C 0 dL_1492 rfl rfl ?_
  refine l_iload_n (pc' := 1494) C 3 dL_1493 rfl rfl ?_
  refine l_iconst (pc' := 1495) C dL_1494 ki_2 rfl ?_
  refine l_iadd (pc' := 1496) C dL_1495 rfl ?_
  refine l_sld (pc' := 1497) C dL_1496 rfl ?_
  refine l_callM (out' := o_w) (fr' := 10) (lo' := 242) (pc' := 1500) C FM_pieceLeg rfl lmL_198 dL_1497 [.int (G.2.2.2.2 (Int32.toNatClampNeg (a.1 + (1 : Int32)))), .int (G.2.2.2.2 (Int32.toNatClampNeg (a.1 + (2 : Int32))))] [.int x1.1] rfl rfl (Nat.le_of_ble_eq_true rfl) ⟨rfl, rfl⟩ (fun x h => cM_pieceLeg _ G.2.1 C.2.2.2.2.2.2.2.2.2.2.1 a.2.2 (G.2.2.2.2 (Int32.toNatClampNeg (a.1 + (1 : Int32)))) (G.2.2.2.2 (Int32.toNatClampNeg (a.1 + (2 : Int32)))) x h) rfl (fun x2 _ => ?_)
  show Lw v G 1500 _ [.int x2.1, .int x1.1] x1.2 x2.2 _
  refine l_icmp_eq (tgt := 1960) (pc' := 1503) C dL_1500 rfl rfl ?_ ?_
  · exact w_end C hih _ _ _
  · refine l_iconst (pc' := 1504) C dL_1503 ki_0 rfl ?_
    exact l_ret0
def law_45 (L : Nat) (xs : Nat → Int32) (ih : Int32 × St × St → Option Int32) (a : Int32 × St × St) : Option Int32 :=
  Gd (Ix (a.1 + (1 : Int32)) L) <|
  Gd (Ix (a.1 + (2 : Int32)) L) <|
  Option.bind (f_FL_pieceKind a.2.1 (xs (Int32.toNatClampNeg (a.1 + (1 : Int32)))) (xs (Int32.toNatClampNeg (a.1 + (2 : Int32))))) fun x1 =>
  Gd (Ix (a.1 + (1 : Int32)) L) <|
  Gd (Ix (a.1 + (2 : Int32)) L) <|
  Option.bind (m_pieceKind a.2.2 (xs (Int32.toNatClampNeg (a.1 + (1 : Int32)))) (xs (Int32.toNatClampNeg (a.1 + (2 : Int32))))) fun x2 =>
  if (x1.1 : Int32) = x2.1 then (ih (a.1 + (4 : Int32), x1.2, x2.2)) else (some 0)
set_option maxHeartbeats 4000000 in
theorem w_45 {v : Zl} {G : Gl} (C : Lc v G) (ih : Int32 × St × St → Option Int32) (hih : ∀ a : Int32 × St × St, Lw v G 18 [(0, .ref G.2.2.1), (1, .ref (G.1.1 0)), (2, .ref (G.2.1.1 0)), (3, .int a.1)] [] a.2.1 a.2.2 (ih a)) (a : Int32 × St × St) : Lw v G 1505 [(0, .ref G.2.2.1), (1, .ref (G.1.1 0)), (2, .ref (G.2.1.1 0)), (3, .int a.1)] [] a.2.1 a.2.2 (law_45 G.2.2.2.1 G.2.2.2.2 ih a) := by
  unfold law_45
  refine l_aload_n (pc' := 1506) C 1 dL_1505 rfl rfl ?_
  refine l_aload_n (pc' := 1507) C 0 dL_1506 rfl rfl ?_
  refine l_iload_n (pc' := 1508) C 3 dL_1507 rfl rfl ?_
  refine l_iconst (pc' := 1509) C dL_1508 ki_1 rfl ?_
  refine l_iadd (pc' := 1510) C dL_1509 rfl ?_
  refine l_sld (pc' := 1511) C dL_1510 rfl ?_
  refine l_aload_n (pc' := 1512) C 0 dL_1511 rfl rfl ?_
  refine l_iload_n (pc' := 1513) C 3 dL_1512 rfl rfl ?_
  refine l_iconst (pc' := 1514) C dL_1513 ki_2 rfl ?_
  refine l_iadd (pc' := 1515) C dL_1514 rfl ?_
  refine l_sld (pc' := 1516) C dL_1515 rfl ?_
  refine l_callC (out' := o_w) (fr' := 7) (lo' := 175) (pc' := 1519) C FC_FL_pieceKind rfl lmL_199 dL_1516 [.int (G.2.2.2.2 (Int32.toNatClampNeg (a.1 + (1 : Int32)))), .int (G.2.2.2.2 (Int32.toNatClampNeg (a.1 + (2 : Int32))))] [] rfl rfl (Nat.le_of_ble_eq_true rfl) ⟨rfl, rfl⟩ (fun x h => cC_FL_pieceKind _ G.1 C.2.2.2.2.2.2.2.2.2.1 a.2.1 (G.2.2.2.2 (Int32.toNatClampNeg (a.1 + (1 : Int32)))) (G.2.2.2.2 (Int32.toNatClampNeg (a.1 + (2 : Int32)))) x h) rfl (fun x1 _ => ?_)
  show Lw v G 1519 _ [.int x1.1] x1.2 a.2.2 _
  refine l_aload_n (pc' := 1520) C 2 dL_1519 rfl rfl ?_
  refine l_aload_n (pc' := 1521) C 0 dL_1520 rfl rfl ?_
  refine l_iload_n (pc' := 1522) C 3 dL_1521 rfl rfl ?_
  refine l_iconst (pc' := 1523) C dL_1522 ki_1 rfl ?_
  refine l_iadd (pc' := 1524) C dL_1523 rfl ?_
  refine l_sld (pc' := 1525) C dL_1524 rfl ?_
  refine l_aload_n (pc' := 1526) C 0 dL_1525 rfl rfl ?_
  refine l_iload_n (pc' := 1527) C 3 dL_1526 rfl rfl ?_
  refine l_iconst (pc' := 1528) C dL_1527 ki_2 rfl ?_
  refine l_iadd (pc' := 1529) C dL_1528 rfl ?_
  refine l_sld (pc' := 1530) C dL_1529 rfl ?_
  refine l_callM (out' := o_w) (fr' := 10) (lo' := 242) (pc' := 1533) C FM_pieceKind rfl lmL_202 dL_1530 [.int (G.2.2.2.2 (Int32.toNatClampNeg (a.1 + (1 : Int32)))), .int (G.2.2.2.2 (Int32.toNatClampNeg (a.1 + (2 : Int32))))] [.int x1.1] rfl rfl (Nat.le_of_ble_eq_true rfl) ⟨rfl, rfl⟩ (fun x h => cM_pieceKind _ G.2.1 C.2.2.2.2.2.2.2.2.2.2.1 a.2.2 (G.2.2.2.2 (Int32.toNatClampNeg (a.1 + (1 : Int32)))) (G.2.2.2.2 (Int32.toNatClampNeg (a.1 + (2 : Int32)))) x h) rfl (fun x2 _ => ?_)
  show Lw v G 1533 _ [.int x2.1, .int x1.1] x1.2 x2.2 _
  refine l_icmp_eq (tgt := 1960) (pc' := 1536) C dL_1533 rfl rfl ?_ ?_
  · exact w_end C hih _ _ _
  · refine l_iconst (pc' := 1537) C dL_1536 ki_0 rfl ?_
    exact l_ret0
def law_46 (L : Nat) (xs : Nat → Int32) (ih : Int32 × St × St → Option Int32) (a : Int32 × St × St) : Option Int32 :=
  Gd (Ix (a.1 + (1 : Int32)) L) <|
  Gd (Ix (a.1 + (2 : Int32)) L) <|
  Option.bind (f_FL_pieceLength a.2.1 (xs (Int32.toNatClampNeg (a.1 + (1 : Int32)))) (xs (Int32.toNatClampNeg (a.1 + (2 : Int32))))) fun x1 =>
  Gd (Ix (a.1 + (1 : Int32)) L) <|
  Gd (Ix (a.1 + (2 : Int32)) L) <|
  Option.bind (m_pieceLength a.2.2 (xs (Int32.toNatClampNeg (a.1 + (1 : Int32)))) (xs (Int32.toNatClampNeg (a.1 + (2 : Int32))))) fun x2 =>
  if (x1.1 : Int32) = x2.1 then (ih (a.1 + (4 : Int32), x1.2, x2.2)) else (some 0)
set_option maxHeartbeats 4000000 in
theorem w_46 {v : Zl} {G : Gl} (C : Lc v G) (ih : Int32 × St × St → Option Int32) (hih : ∀ a : Int32 × St × St, Lw v G 18 [(0, .ref G.2.2.1), (1, .ref (G.1.1 0)), (2, .ref (G.2.1.1 0)), (3, .int a.1)] [] a.2.1 a.2.2 (ih a)) (a : Int32 × St × St) : Lw v G 1538 [(0, .ref G.2.2.1), (1, .ref (G.1.1 0)), (2, .ref (G.2.1.1 0)), (3, .int a.1)] [] a.2.1 a.2.2 (law_46 G.2.2.2.1 G.2.2.2.2 ih a) := by
  unfold law_46
  refine l_aload_n (pc' := 1539) C 1 dL_1538 rfl rfl ?_
  refine l_aload_n (pc' := 1540) C 0 dL_1539 rfl rfl ?_
  refine l_iload_n (pc' := 1541) C 3 dL_1540 rfl rfl ?_
  refine l_iconst (pc' := 1542) C dL_1541 ki_1 rfl ?_
  refine l_iadd (pc' := 1543) C dL_1542 rfl ?_
  refine l_sld (pc' := 1544) C dL_1543 rfl ?_
  refine l_aload_n (pc' := 1545) C 0 dL_1544 rfl rfl ?_
  refine l_iload_n (pc' := 1546) C 3 dL_1545 rfl rfl ?_
  refine l_iconst (pc' := 1547) C dL_1546 ki_2 rfl ?_
  refine l_iadd (pc' := 1548) C dL_1547 rfl ?_
  refine l_sld (pc' := 1549) C dL_1548 rfl ?_
  refine l_callC (out' := o_w) (fr' := 7) (lo' := 175) (pc' := 1552) C FC_FL_pieceLength rfl lmL_203 dL_1549 [.int (G.2.2.2.2 (Int32.toNatClampNeg (a.1 + (1 : Int32)))), .int (G.2.2.2.2 (Int32.toNatClampNeg (a.1 + (2 : Int32))))] [] rfl rfl (Nat.le_of_ble_eq_true rfl) ⟨rfl, rfl⟩ (fun x h => cC_FL_pieceLength _ G.1 C.2.2.2.2.2.2.2.2.2.1 a.2.1 (G.2.2.2.2 (Int32.toNatClampNeg (a.1 + (1 : Int32)))) (G.2.2.2.2 (Int32.toNatClampNeg (a.1 + (2 : Int32)))) x h) rfl (fun x1 _ => ?_)
  show Lw v G 1552 _ [.int x1.1] x1.2 a.2.2 _
  refine l_aload_n (pc' := 1553) C 2 dL_1552 rfl rfl ?_
  refine l_aload_n (pc' := 1554) C 0 dL_1553 rfl rfl ?_
  refine l_iload_n (pc' := 1555) C 3 dL_1554 rfl rfl ?_
  refine l_iconst (pc' := 1556) C dL_1555 ki_1 rfl ?_
  refine l_iadd (pc' := 1557) C dL_1556 rfl ?_
  refine l_sld (pc' := 1558) C dL_1557 rfl ?_
  refine l_aload_n (pc' := 1559) C 0 dL_1558 rfl rfl ?_
  refine l_iload_n (pc' := 1560) C 3 dL_1559 rfl rfl ?_
  refine l_iconst (pc' := 1561) C dL_1560 ki_2 rfl ?_
  refine l_iadd (pc' := 1562) C dL_1561 rfl ?_
  refine l_sld (pc' := 1563) C dL_1562 rfl ?_
  refine l_callM (out' := o_w) (fr' := 10) (lo' := 242) (pc' := 1566) C FM_pieceLength rfl lmL_206 dL_1563 [.int (G.2.2.2.2 (Int32.toNatClampNeg (a.1 + (1 : Int32)))), .int (G.2.2.2.2 (Int32.toNatClampNeg (a.1 + (2 : Int32))))] [.int x1.1] rfl rfl (Nat.le_of_ble_eq_true rfl) ⟨rfl, rfl⟩ (fun x h => cM_pieceLength _ G.2.1 C.2.2.2.2.2.2.2.2.2.2.1 a.2.2 (G.2.2.2.2 (Int32.toNatClampNeg (a.1 + (1 : Int32)))) (G.2.2.2.2 (Int32.toNatClampNeg (a.1 + (2 : Int32)))) x h) rfl (fun x2 _ => ?_)
  show Lw v G 1566 _ [.int x2.1, .int x1.1] x1.2 x2.2 _
  refine l_icmp_eq (tgt := 1960) (pc' := 1569) C dL_1566 rfl rfl ?_ ?_
  · exact w_end C hih _ _ _
  · refine l_iconst (pc' := 1570) C dL_1569 ki_0 rfl ?_
    exact l_ret0
def law_47 (L : Nat) (xs : Nat → Int32) (ih : Int32 × St × St → Option Int32) (a : Int32 × St × St) : Option Int32 :=
  Gd (Ix (a.1 + (1 : Int32)) L) <|
  Gd (Ix (a.1 + (2 : Int32)) L) <|
  Option.bind (f_FL_pieceCourse a.2.1 (xs (Int32.toNatClampNeg (a.1 + (1 : Int32)))) (xs (Int32.toNatClampNeg (a.1 + (2 : Int32))))) fun x1 =>
  Gd (Ix (a.1 + (1 : Int32)) L) <|
  Gd (Ix (a.1 + (2 : Int32)) L) <|
  Option.bind (m_pieceCourse a.2.2 (xs (Int32.toNatClampNeg (a.1 + (1 : Int32)))) (xs (Int32.toNatClampNeg (a.1 + (2 : Int32))))) fun x2 =>
  if (x1.1 : Int32) = x2.1 then (ih (a.1 + (4 : Int32), x1.2, x2.2)) else (some 0)
set_option maxHeartbeats 4000000 in
theorem w_47 {v : Zl} {G : Gl} (C : Lc v G) (ih : Int32 × St × St → Option Int32) (hih : ∀ a : Int32 × St × St, Lw v G 18 [(0, .ref G.2.2.1), (1, .ref (G.1.1 0)), (2, .ref (G.2.1.1 0)), (3, .int a.1)] [] a.2.1 a.2.2 (ih a)) (a : Int32 × St × St) : Lw v G 1571 [(0, .ref G.2.2.1), (1, .ref (G.1.1 0)), (2, .ref (G.2.1.1 0)), (3, .int a.1)] [] a.2.1 a.2.2 (law_47 G.2.2.2.1 G.2.2.2.2 ih a) := by
  unfold law_47
  refine l_aload_n (pc' := 1572) C 1 dL_1571 rfl rfl ?_
  refine l_aload_n (pc' := 1573) C 0 dL_1572 rfl rfl ?_
  refine l_iload_n (pc' := 1574) C 3 dL_1573 rfl rfl ?_
  refine l_iconst (pc' := 1575) C dL_1574 ki_1 rfl ?_
  refine l_iadd (pc' := 1576) C dL_1575 rfl ?_
  refine l_sld (pc' := 1577) C dL_1576 rfl ?_
  refine l_aload_n (pc' := 1578) C 0 dL_1577 rfl rfl ?_
  refine l_iload_n (pc' := 1579) C 3 dL_1578 rfl rfl ?_
  refine l_iconst (pc' := 1580) C dL_1579 ki_2 rfl ?_
  refine l_iadd (pc' := 1581) C dL_1580 rfl ?_
  refine l_sld (pc' := 1582) C dL_1581 rfl ?_
  refine l_callC (out' := o_w) (fr' := 7) (lo' := 175) (pc' := 1585) C FC_FL_pieceCourse rfl lmL_207 dL_1582 [.int (G.2.2.2.2 (Int32.toNatClampNeg (a.1 + (1 : Int32)))), .int (G.2.2.2.2 (Int32.toNatClampNeg (a.1 + (2 : Int32))))] [] rfl rfl (Nat.le_of_ble_eq_true rfl) ⟨rfl, rfl⟩ (fun x h => cC_FL_pieceCourse _ G.1 C.2.2.2.2.2.2.2.2.2.1 a.2.1 (G.2.2.2.2 (Int32.toNatClampNeg (a.1 + (1 : Int32)))) (G.2.2.2.2 (Int32.toNatClampNeg (a.1 + (2 : Int32)))) x h) rfl (fun x1 _ => ?_)
  show Lw v G 1585 _ [.int x1.1] x1.2 a.2.2 _
  refine l_aload_n (pc' := 1586) C 2 dL_1585 rfl rfl ?_
  refine l_aload_n (pc' := 1587) C 0 dL_1586 rfl rfl ?_
  refine l_iload_n (pc' := 1588) C 3 dL_1587 rfl rfl ?_
  refine l_iconst (pc' := 1589) C dL_1588 ki_1 rfl ?_
  refine l_iadd (pc' := 1590) C dL_1589 rfl ?_
  refine l_sld (pc' := 1591) C dL_1590 rfl ?_
  refine l_aload_n (pc' := 1592) C 0 dL_1591 rfl rfl ?_
  refine l_iload_n (pc' := 1593) C 3 dL_1592 rfl rfl ?_
  refine l_iconst (pc' := 1594) C dL_1593 ki_2 rfl ?_
  refine l_iadd (pc' := 1595) C dL_1594 rfl ?_
  refine l_sld (pc' := 1596) C dL_1595 rfl ?_
  refine l_callM (out' := o_w) (fr' := 10) (lo' := 242) (pc' := 1599) C FM_pieceCourse rfl lmL_210 dL_1596 [.int (G.2.2.2.2 (Int32.toNatClampNeg (a.1 + (1 : Int32)))), .int (G.2.2.2.2 (Int32.toNatClampNeg (a.1 + (2 : Int32))))] [.int x1.1] rfl rfl (Nat.le_of_ble_eq_true rfl) ⟨rfl, rfl⟩ (fun x h => cM_pieceCourse _ G.2.1 C.2.2.2.2.2.2.2.2.2.2.1 a.2.2 (G.2.2.2.2 (Int32.toNatClampNeg (a.1 + (1 : Int32)))) (G.2.2.2.2 (Int32.toNatClampNeg (a.1 + (2 : Int32)))) x h) rfl (fun x2 _ => ?_)
  show Lw v G 1599 _ [.int x2.1, .int x1.1] x1.2 x2.2 _
  refine l_icmp_eq (tgt := 1960) (pc' := 1602) C dL_1599 rfl rfl ?_ ?_
  · exact w_end C hih _ _ _
  · refine l_iconst (pc' := 1603) C dL_1602 ki_0 rfl ?_
    exact l_ret0
def law_48 (L : Nat) (xs : Nat → Int32) (ih : Int32 × St × St → Option Int32) (a : Int32 × St × St) : Option Int32 :=
  Gd (Ix (a.1 + (1 : Int32)) L) <|
  Gd (Ix (a.1 + (2 : Int32)) L) <|
  Option.bind (f_FL_pieceX a.2.1 (xs (Int32.toNatClampNeg (a.1 + (1 : Int32)))) (xs (Int32.toNatClampNeg (a.1 + (2 : Int32))))) fun x1 =>
  Gd (Ix (a.1 + (1 : Int32)) L) <|
  Gd (Ix (a.1 + (2 : Int32)) L) <|
  Option.bind (m_pieceX a.2.2 (xs (Int32.toNatClampNeg (a.1 + (1 : Int32)))) (xs (Int32.toNatClampNeg (a.1 + (2 : Int32))))) fun x2 =>
  if (x1.1 : Int32) = x2.1 then (ih (a.1 + (4 : Int32), x1.2, x2.2)) else (some 0)
set_option maxHeartbeats 4000000 in
theorem w_48 {v : Zl} {G : Gl} (C : Lc v G) (ih : Int32 × St × St → Option Int32) (hih : ∀ a : Int32 × St × St, Lw v G 18 [(0, .ref G.2.2.1), (1, .ref (G.1.1 0)), (2, .ref (G.2.1.1 0)), (3, .int a.1)] [] a.2.1 a.2.2 (ih a)) (a : Int32 × St × St) : Lw v G 1604 [(0, .ref G.2.2.1), (1, .ref (G.1.1 0)), (2, .ref (G.2.1.1 0)), (3, .int a.1)] [] a.2.1 a.2.2 (law_48 G.2.2.2.1 G.2.2.2.2 ih a) := by
  unfold law_48
  refine l_aload_n (pc' := 1605) C 1 dL_1604 rfl rfl ?_
  refine l_aload_n (pc' := 1606) C 0 dL_1605 rfl rfl ?_
  refine l_iload_n (pc' := 1607) C 3 dL_1606 rfl rfl ?_
  refine l_iconst (pc' := 1608) C dL_1607 ki_1 rfl ?_
  refine l_iadd (pc' := 1609) C dL_1608 rfl ?_
  refine l_sld (pc' := 1610) C dL_1609 rfl ?_
  refine l_aload_n (pc' := 1611) C 0 dL_1610 rfl rfl ?_
  refine l_iload_n (pc' := 1612) C 3 dL_1611 rfl rfl ?_
  refine l_iconst (pc' := 1613) C dL_1612 ki_2 rfl ?_
  refine l_iadd (pc' := 1614) C dL_1613 rfl ?_
  refine l_sld (pc' := 1615) C dL_1614 rfl ?_
  refine l_callC (out' := o_w) (fr' := 7) (lo' := 175) (pc' := 1618) C FC_FL_pieceX rfl lmL_211 dL_1615 [.int (G.2.2.2.2 (Int32.toNatClampNeg (a.1 + (1 : Int32)))), .int (G.2.2.2.2 (Int32.toNatClampNeg (a.1 + (2 : Int32))))] [] rfl rfl (Nat.le_of_ble_eq_true rfl) ⟨rfl, rfl⟩ (fun x h => cC_FL_pieceX _ G.1 C.2.2.2.2.2.2.2.2.2.1 a.2.1 (G.2.2.2.2 (Int32.toNatClampNeg (a.1 + (1 : Int32)))) (G.2.2.2.2 (Int32.toNatClampNeg (a.1 + (2 : Int32)))) x h) rfl (fun x1 _ => ?_)
  show Lw v G 1618 _ [.int x1.1] x1.2 a.2.2 _
  refine l_aload_n (pc' := 1619) C 2 dL_1618 rfl rfl ?_
  refine l_aload_n (pc' := 1620) C 0 dL_1619 rfl rfl ?_
  refine l_iload_n (pc' := 1621) C 3 dL_1620 rfl rfl ?_
  refine l_iconst (pc' := 1622) C dL_1621 ki_1 rfl ?_
  refine l_iadd (pc' := 1623) C dL_1622 rfl ?_
  refine l_sld (pc' := 1624) C dL_1623 rfl ?_
  refine l_aload_n (pc' := 1625) C 0 dL_1624 rfl rfl ?_
  refine l_iload_n (pc' := 1626) C 3 dL_1625 rfl rfl ?_
  refine l_iconst (pc' := 1627) C dL_1626 ki_2 rfl ?_
  refine l_iadd (pc' := 1628) C dL_1627 rfl ?_
  refine l_sld (pc' := 1629) C dL_1628 rfl ?_
  refine l_callM (out' := o_w) (fr' := 10) (lo' := 242) (pc' := 1632) C FM_pieceX rfl lmL_214 dL_1629 [.int (G.2.2.2.2 (Int32.toNatClampNeg (a.1 + (1 : Int32)))), .int (G.2.2.2.2 (Int32.toNatClampNeg (a.1 + (2 : Int32))))] [.int x1.1] rfl rfl (Nat.le_of_ble_eq_true rfl) ⟨rfl, rfl⟩ (fun x h => cM_pieceX _ G.2.1 C.2.2.2.2.2.2.2.2.2.2.1 a.2.2 (G.2.2.2.2 (Int32.toNatClampNeg (a.1 + (1 : Int32)))) (G.2.2.2.2 (Int32.toNatClampNeg (a.1 + (2 : Int32)))) x h) rfl (fun x2 _ => ?_)
  show Lw v G 1632 _ [.int x2.1, .int x1.1] x1.2 x2.2 _
  refine l_icmp_eq (tgt := 1960) (pc' := 1635) C dL_1632 rfl rfl ?_ ?_
  · exact w_end C hih _ _ _
  · refine l_iconst (pc' := 1636) C dL_1635 ki_0 rfl ?_
    exact l_ret0
def law_49 (L : Nat) (xs : Nat → Int32) (ih : Int32 × St × St → Option Int32) (a : Int32 × St × St) : Option Int32 :=
  Gd (Ix (a.1 + (1 : Int32)) L) <|
  Gd (Ix (a.1 + (2 : Int32)) L) <|
  Option.bind (f_FL_pieceY a.2.1 (xs (Int32.toNatClampNeg (a.1 + (1 : Int32)))) (xs (Int32.toNatClampNeg (a.1 + (2 : Int32))))) fun x1 =>
  Gd (Ix (a.1 + (1 : Int32)) L) <|
  Gd (Ix (a.1 + (2 : Int32)) L) <|
  Option.bind (m_pieceY a.2.2 (xs (Int32.toNatClampNeg (a.1 + (1 : Int32)))) (xs (Int32.toNatClampNeg (a.1 + (2 : Int32))))) fun x2 =>
  if (x1.1 : Int32) = x2.1 then (ih (a.1 + (4 : Int32), x1.2, x2.2)) else (some 0)
set_option maxHeartbeats 4000000 in
theorem w_49 {v : Zl} {G : Gl} (C : Lc v G) (ih : Int32 × St × St → Option Int32) (hih : ∀ a : Int32 × St × St, Lw v G 18 [(0, .ref G.2.2.1), (1, .ref (G.1.1 0)), (2, .ref (G.2.1.1 0)), (3, .int a.1)] [] a.2.1 a.2.2 (ih a)) (a : Int32 × St × St) : Lw v G 1637 [(0, .ref G.2.2.1), (1, .ref (G.1.1 0)), (2, .ref (G.2.1.1 0)), (3, .int a.1)] [] a.2.1 a.2.2 (law_49 G.2.2.2.1 G.2.2.2.2 ih a) := by
  unfold law_49
  refine l_aload_n (pc' := 1638) C 1 dL_1637 rfl rfl ?_
  refine l_aload_n (pc' := 1639) C 0 dL_1638 rfl rfl ?_
  refine l_iload_n (pc' := 1640) C 3 dL_1639 rfl rfl ?_
  refine l_iconst (pc' := 1641) C dL_1640 ki_1 rfl ?_
  refine l_iadd (pc' := 1642) C dL_1641 rfl ?_
  refine l_sld (pc' := 1643) C dL_1642 rfl ?_
  refine l_aload_n (pc' := 1644) C 0 dL_1643 rfl rfl ?_
  refine l_iload_n (pc' := 1645) C 3 dL_1644 rfl rfl ?_
  refine l_iconst (pc' := 1646) C dL_1645 ki_2 rfl ?_
  refine l_iadd (pc' := 1647) C dL_1646 rfl ?_
  refine l_sld (pc' := 1648) C dL_1647 rfl ?_
  refine l_callC (out' := o_w) (fr' := 7) (lo' := 175) (pc' := 1651) C FC_FL_pieceY rfl lmL_215 dL_1648 [.int (G.2.2.2.2 (Int32.toNatClampNeg (a.1 + (1 : Int32)))), .int (G.2.2.2.2 (Int32.toNatClampNeg (a.1 + (2 : Int32))))] [] rfl rfl (Nat.le_of_ble_eq_true rfl) ⟨rfl, rfl⟩ (fun x h => cC_FL_pieceY _ G.1 C.2.2.2.2.2.2.2.2.2.1 a.2.1 (G.2.2.2.2 (Int32.toNatClampNeg (a.1 + (1 : Int32)))) (G.2.2.2.2 (Int32.toNatClampNeg (a.1 + (2 : Int32)))) x h) rfl (fun x1 _ => ?_)
  show Lw v G 1651 _ [.int x1.1] x1.2 a.2.2 _
  refine l_aload_n (pc' := 1652) C 2 dL_1651 rfl rfl ?_
  refine l_aload_n (pc' := 1653) C 0 dL_1652 rfl rfl ?_
  refine l_iload_n (pc' := 1654) C 3 dL_1653 rfl rfl ?_
  refine l_iconst (pc' := 1655) C dL_1654 ki_1 rfl ?_
  refine l_iadd (pc' := 1656) C dL_1655 rfl ?_
  refine l_sld (pc' := 1657) C dL_1656 rfl ?_
  refine l_aload_n (pc' := 1658) C 0 dL_1657 rfl rfl ?_
  refine l_iload_n (pc' := 1659) C 3 dL_1658 rfl rfl ?_
  refine l_iconst (pc' := 1660) C dL_1659 ki_2 rfl ?_
  refine l_iadd (pc' := 1661) C dL_1660 rfl ?_
  refine l_sld (pc' := 1662) C dL_1661 rfl ?_
  refine l_callM (out' := o_w) (fr' := 10) (lo' := 242) (pc' := 1665) C FM_pieceY rfl lmL_218 dL_1662 [.int (G.2.2.2.2 (Int32.toNatClampNeg (a.1 + (1 : Int32)))), .int (G.2.2.2.2 (Int32.toNatClampNeg (a.1 + (2 : Int32))))] [.int x1.1] rfl rfl (Nat.le_of_ble_eq_true rfl) ⟨rfl, rfl⟩ (fun x h => cM_pieceY _ G.2.1 C.2.2.2.2.2.2.2.2.2.2.1 a.2.2 (G.2.2.2.2 (Int32.toNatClampNeg (a.1 + (1 : Int32)))) (G.2.2.2.2 (Int32.toNatClampNeg (a.1 + (2 : Int32)))) x h) rfl (fun x2 _ => ?_)
  show Lw v G 1665 _ [.int x2.1, .int x1.1] x1.2 x2.2 _
  refine l_icmp_eq (tgt := 1960) (pc' := 1668) C dL_1665 rfl rfl ?_ ?_
  · exact w_end C hih _ _ _
  · refine l_iconst (pc' := 1669) C dL_1668 ki_0 rfl ?_
    exact l_ret0
def law_50 (L : Nat) (xs : Nat → Int32) (ih : Int32 × St × St → Option Int32) (a : Int32 × St × St) : Option Int32 :=
  Gd (Ix (a.1 + (1 : Int32)) L) <|
  Gd (Ix (a.1 + (2 : Int32)) L) <|
  Option.bind (f_FL_climbAltitude a.2.1 (xs (Int32.toNatClampNeg (a.1 + (1 : Int32)))) (xs (Int32.toNatClampNeg (a.1 + (2 : Int32))))) fun x1 =>
  Gd (Ix (a.1 + (1 : Int32)) L) <|
  Gd (Ix (a.1 + (2 : Int32)) L) <|
  Option.bind (m_climbAltitude a.2.2 (xs (Int32.toNatClampNeg (a.1 + (1 : Int32)))) (xs (Int32.toNatClampNeg (a.1 + (2 : Int32))))) fun x2 =>
  if (x1.1 : Int32) = x2.1 then (ih (a.1 + (4 : Int32), x1.2, x2.2)) else (some 0)
set_option maxHeartbeats 4000000 in
theorem w_50 {v : Zl} {G : Gl} (C : Lc v G) (ih : Int32 × St × St → Option Int32) (hih : ∀ a : Int32 × St × St, Lw v G 18 [(0, .ref G.2.2.1), (1, .ref (G.1.1 0)), (2, .ref (G.2.1.1 0)), (3, .int a.1)] [] a.2.1 a.2.2 (ih a)) (a : Int32 × St × St) : Lw v G 1670 [(0, .ref G.2.2.1), (1, .ref (G.1.1 0)), (2, .ref (G.2.1.1 0)), (3, .int a.1)] [] a.2.1 a.2.2 (law_50 G.2.2.2.1 G.2.2.2.2 ih a) := by
  unfold law_50
  refine l_aload_n (pc' := 1671) C 1 dL_1670 rfl rfl ?_
  refine l_aload_n (pc' := 1672) C 0 dL_1671 rfl rfl ?_
  refine l_iload_n (pc' := 1673) C 3 dL_1672 rfl rfl ?_
  refine l_iconst (pc' := 1674) C dL_1673 ki_1 rfl ?_
  refine l_iadd (pc' := 1675) C dL_1674 rfl ?_
  refine l_sld (pc' := 1676) C dL_1675 rfl ?_
  refine l_aload_n (pc' := 1677) C 0 dL_1676 rfl rfl ?_
  refine l_iload_n (pc' := 1678) C 3 dL_1677 rfl rfl ?_
  refine l_iconst (pc' := 1679) C dL_1678 ki_2 rfl ?_
  refine l_iadd (pc' := 1680) C dL_1679 rfl ?_
  refine l_sld (pc' := 1681) C dL_1680 rfl ?_
  refine l_callC (out' := o_w) (fr' := 7) (lo' := 175) (pc' := 1684) C FC_FL_climbAltitude rfl lmL_219 dL_1681 [.int (G.2.2.2.2 (Int32.toNatClampNeg (a.1 + (1 : Int32)))), .int (G.2.2.2.2 (Int32.toNatClampNeg (a.1 + (2 : Int32))))] [] rfl rfl (Nat.le_of_ble_eq_true rfl) ⟨rfl, rfl⟩ (fun x h => cC_FL_climbAltitude _ G.1 C.2.2.2.2.2.2.2.2.2.1 a.2.1 (G.2.2.2.2 (Int32.toNatClampNeg (a.1 + (1 : Int32)))) (G.2.2.2.2 (Int32.toNatClampNeg (a.1 + (2 : Int32)))) x h) rfl (fun x1 _ => ?_)
  show Lw v G 1684 _ [.int x1.1] x1.2 a.2.2 _
  refine l_aload_n (pc' := 1685) C 2 dL_1684 rfl rfl ?_
  refine l_aload_n (pc' := 1686) C 0 dL_1685 rfl rfl ?_
  refine l_iload_n (pc' := 1687) C 3 dL_1686 rfl rfl ?_
  refine l_iconst (pc' := 1688) C dL_1687 ki_1 rfl ?_
  refine l_iadd (pc' := 1689) C dL_1688 rfl ?_
  refine l_sld (pc' := 1690) C dL_1689 rfl ?_
  refine l_aload_n (pc' := 1691) C 0 dL_1690 rfl rfl ?_
  refine l_iload_n (pc' := 1692) C 3 dL_1691 rfl rfl ?_
  refine l_iconst (pc' := 1693) C dL_1692 ki_2 rfl ?_
  refine l_iadd (pc' := 1694) C dL_1693 rfl ?_
  refine l_sld (pc' := 1695) C dL_1694 rfl ?_
  refine l_callM (out' := o_w) (fr' := 10) (lo' := 242) (pc' := 1698) C FM_climbAltitude rfl lmL_222 dL_1695 [.int (G.2.2.2.2 (Int32.toNatClampNeg (a.1 + (1 : Int32)))), .int (G.2.2.2.2 (Int32.toNatClampNeg (a.1 + (2 : Int32))))] [.int x1.1] rfl rfl (Nat.le_of_ble_eq_true rfl) ⟨rfl, rfl⟩ (fun x h => cM_climbAltitude _ G.2.1 C.2.2.2.2.2.2.2.2.2.2.1 a.2.2 (G.2.2.2.2 (Int32.toNatClampNeg (a.1 + (1 : Int32)))) (G.2.2.2.2 (Int32.toNatClampNeg (a.1 + (2 : Int32)))) x h) rfl (fun x2 _ => ?_)
  show Lw v G 1698 _ [.int x2.1, .int x1.1] x1.2 x2.2 _
  refine l_icmp_eq (tgt := 1960) (pc' := 1701) C dL_1698 rfl rfl ?_ ?_
  · exact w_end C hih _ _ _
  · refine l_iconst (pc' := 1702) C dL_1701 ki_0 rfl ?_
    exact l_ret0
def law_51 (L : Nat) (xs : Nat → Int32) (ih : Int32 × St × St → Option Int32) (a : Int32 × St × St) : Option Int32 :=
  Gd (Ix (a.1 + (1 : Int32)) L) <|
  Gd (Ix (a.1 + (2 : Int32)) L) <|
  Option.bind (f_FL_descentAltitude a.2.1 (xs (Int32.toNatClampNeg (a.1 + (1 : Int32)))) (xs (Int32.toNatClampNeg (a.1 + (2 : Int32))))) fun x1 =>
  Gd (Ix (a.1 + (1 : Int32)) L) <|
  Gd (Ix (a.1 + (2 : Int32)) L) <|
  Option.bind (m_descentAltitude a.2.2 (xs (Int32.toNatClampNeg (a.1 + (1 : Int32)))) (xs (Int32.toNatClampNeg (a.1 + (2 : Int32))))) fun x2 =>
  if (x1.1 : Int32) = x2.1 then (ih (a.1 + (4 : Int32), x1.2, x2.2)) else (some 0)
set_option maxHeartbeats 4000000 in
theorem w_51 {v : Zl} {G : Gl} (C : Lc v G) (ih : Int32 × St × St → Option Int32) (hih : ∀ a : Int32 × St × St, Lw v G 18 [(0, .ref G.2.2.1), (1, .ref (G.1.1 0)), (2, .ref (G.2.1.1 0)), (3, .int a.1)] [] a.2.1 a.2.2 (ih a)) (a : Int32 × St × St) : Lw v G 1703 [(0, .ref G.2.2.1), (1, .ref (G.1.1 0)), (2, .ref (G.2.1.1 0)), (3, .int a.1)] [] a.2.1 a.2.2 (law_51 G.2.2.2.1 G.2.2.2.2 ih a) := by
  unfold law_51
  refine l_aload_n (pc' := 1704) C 1 dL_1703 rfl rfl ?_
  refine l_aload_n (pc' := 1705) C 0 dL_1704 rfl rfl ?_
  refine l_iload_n (pc' := 1706) C 3 dL_1705 rfl rfl ?_
  refine l_iconst (pc' := 1707) C dL_1706 ki_1 rfl ?_
  refine l_iadd (pc' := 1708) C dL_1707 rfl ?_
  refine l_sld (pc' := 1709) C dL_1708 rfl ?_
  refine l_aload_n (pc' := 1710) C 0 dL_1709 rfl rfl ?_
  refine l_iload_n (pc' := 1711) C 3 dL_1710 rfl rfl ?_
  refine l_iconst (pc' := 1712) C dL_1711 ki_2 rfl ?_
  refine l_iadd (pc' := 1713) C dL_1712 rfl ?_
  refine l_sld (pc' := 1714) C dL_1713 rfl ?_
  refine l_callC (out' := o_w) (fr' := 7) (lo' := 175) (pc' := 1717) C FC_FL_descentAltitude rfl lmL_223 dL_1714 [.int (G.2.2.2.2 (Int32.toNatClampNeg (a.1 + (1 : Int32)))), .int (G.2.2.2.2 (Int32.toNatClampNeg (a.1 + (2 : Int32))))] [] rfl rfl (Nat.le_of_ble_eq_true rfl) ⟨rfl, rfl⟩ (fun x h => cC_FL_descentAltitude _ G.1 C.2.2.2.2.2.2.2.2.2.1 a.2.1 (G.2.2.2.2 (Int32.toNatClampNeg (a.1 + (1 : Int32)))) (G.2.2.2.2 (Int32.toNatClampNeg (a.1 + (2 : Int32)))) x h) rfl (fun x1 _ => ?_)
  show Lw v G 1717 _ [.int x1.1] x1.2 a.2.2 _
  refine l_aload_n (pc' := 1718) C 2 dL_1717 rfl rfl ?_
  refine l_aload_n (pc' := 1719) C 0 dL_1718 rfl rfl ?_
  refine l_iload_n (pc' := 1720) C 3 dL_1719 rfl rfl ?_
  refine l_iconst (pc' := 1721) C dL_1720 ki_1 rfl ?_
  refine l_iadd (pc' := 1722) C dL_1721 rfl ?_
  refine l_sld (pc' := 1723) C dL_1722 rfl ?_
  refine l_aload_n (pc' := 1724) C 0 dL_1723 rfl rfl ?_
  refine l_iload_n (pc' := 1725) C 3 dL_1724 rfl rfl ?_
  refine l_iconst (pc' := 1726) C dL_1725 ki_2 rfl ?_
  refine l_iadd (pc' := 1727) C dL_1726 rfl ?_
  refine l_sld (pc' := 1728) C dL_1727 rfl ?_
  refine l_callM (out' := o_w) (fr' := 10) (lo' := 242) (pc' := 1731) C FM_descentAltitude rfl lmL_226 dL_1728 [.int (G.2.2.2.2 (Int32.toNatClampNeg (a.1 + (1 : Int32)))), .int (G.2.2.2.2 (Int32.toNatClampNeg (a.1 + (2 : Int32))))] [.int x1.1] rfl rfl (Nat.le_of_ble_eq_true rfl) ⟨rfl, rfl⟩ (fun x h => cM_descentAltitude _ G.2.1 C.2.2.2.2.2.2.2.2.2.2.1 a.2.2 (G.2.2.2.2 (Int32.toNatClampNeg (a.1 + (1 : Int32)))) (G.2.2.2.2 (Int32.toNatClampNeg (a.1 + (2 : Int32)))) x h) rfl (fun x2 _ => ?_)
  show Lw v G 1731 _ [.int x2.1, .int x1.1] x1.2 x2.2 _
  refine l_icmp_eq (tgt := 1960) (pc' := 1734) C dL_1731 rfl rfl ?_ ?_
  · exact w_end C hih _ _ _
  · refine l_iconst (pc' := 1735) C dL_1734 ki_0 rfl ?_
    exact l_ret0
def law_52 (L : Nat) (xs : Nat → Int32) (ih : Int32 × St × St → Option Int32) (a : Int32 × St × St) : Option Int32 :=
  Gd (Ix (a.1 + (1 : Int32)) L) <|
  Gd (Ix (a.1 + (2 : Int32)) L) <|
  Option.bind (f_FL_altitude a.2.1 (xs (Int32.toNatClampNeg (a.1 + (1 : Int32)))) (xs (Int32.toNatClampNeg (a.1 + (2 : Int32))))) fun x1 =>
  Gd (Ix (a.1 + (1 : Int32)) L) <|
  Gd (Ix (a.1 + (2 : Int32)) L) <|
  Option.bind (m_altitude a.2.2 (xs (Int32.toNatClampNeg (a.1 + (1 : Int32)))) (xs (Int32.toNatClampNeg (a.1 + (2 : Int32))))) fun x2 =>
  if (x1.1 : Int32) = x2.1 then (ih (a.1 + (4 : Int32), x1.2, x2.2)) else (some 0)
set_option maxHeartbeats 4000000 in
theorem w_52 {v : Zl} {G : Gl} (C : Lc v G) (ih : Int32 × St × St → Option Int32) (hih : ∀ a : Int32 × St × St, Lw v G 18 [(0, .ref G.2.2.1), (1, .ref (G.1.1 0)), (2, .ref (G.2.1.1 0)), (3, .int a.1)] [] a.2.1 a.2.2 (ih a)) (a : Int32 × St × St) : Lw v G 1736 [(0, .ref G.2.2.1), (1, .ref (G.1.1 0)), (2, .ref (G.2.1.1 0)), (3, .int a.1)] [] a.2.1 a.2.2 (law_52 G.2.2.2.1 G.2.2.2.2 ih a) := by
  unfold law_52
  refine l_aload_n (pc' := 1737) C 1 dL_1736 rfl rfl ?_
  refine l_aload_n (pc' := 1738) C 0 dL_1737 rfl rfl ?_
  refine l_iload_n (pc' := 1739) C 3 dL_1738 rfl rfl ?_
  refine l_iconst (pc' := 1740) C dL_1739 ki_1 rfl ?_
  refine l_iadd (pc' := 1741) C dL_1740 rfl ?_
  refine l_sld (pc' := 1742) C dL_1741 rfl ?_
  refine l_aload_n (pc' := 1743) C 0 dL_1742 rfl rfl ?_
  refine l_iload_n (pc' := 1744) C 3 dL_1743 rfl rfl ?_
  refine l_iconst (pc' := 1745) C dL_1744 ki_2 rfl ?_
  refine l_iadd (pc' := 1746) C dL_1745 rfl ?_
  refine l_sld (pc' := 1747) C dL_1746 rfl ?_
  refine l_callC (out' := o_w) (fr' := 7) (lo' := 175) (pc' := 1750) C FC_FL_altitude rfl lmL_227 dL_1747 [.int (G.2.2.2.2 (Int32.toNatClampNeg (a.1 + (1 : Int32)))), .int (G.2.2.2.2 (Int32.toNatClampNeg (a.1 + (2 : Int32))))] [] rfl rfl (Nat.le_of_ble_eq_true rfl) ⟨rfl, rfl⟩ (fun x h => cC_FL_altitude _ G.1 C.2.2.2.2.2.2.2.2.2.1 a.2.1 (G.2.2.2.2 (Int32.toNatClampNeg (a.1 + (1 : Int32)))) (G.2.2.2.2 (Int32.toNatClampNeg (a.1 + (2 : Int32)))) x h) rfl (fun x1 _ => ?_)
  show Lw v G 1750 _ [.int x1.1] x1.2 a.2.2 _
  refine l_aload_n (pc' := 1751) C 2 dL_1750 rfl rfl ?_
  refine l_aload_n (pc' := 1752) C 0 dL_1751 rfl rfl ?_
  refine l_iload_n (pc' := 1753) C 3 dL_1752 rfl rfl ?_
  refine l_iconst (pc' := 1754) C dL_1753 ki_1 rfl ?_
  refine l_iadd (pc' := 1755) C dL_1754 rfl ?_
  refine l_sld (pc' := 1756) C dL_1755 rfl ?_
  refine l_aload_n (pc' := 1757) C 0 dL_1756 rfl rfl ?_
  refine l_iload_n (pc' := 1758) C 3 dL_1757 rfl rfl ?_
  refine l_iconst (pc' := 1759) C dL_1758 ki_2 rfl ?_
  refine l_iadd (pc' := 1760) C dL_1759 rfl ?_
  refine l_sld (pc' := 1761) C dL_1760 rfl ?_
  refine l_callM (out' := o_w) (fr' := 10) (lo' := 242) (pc' := 1764) C FM_altitude rfl lmL_230 dL_1761 [.int (G.2.2.2.2 (Int32.toNatClampNeg (a.1 + (1 : Int32)))), .int (G.2.2.2.2 (Int32.toNatClampNeg (a.1 + (2 : Int32))))] [.int x1.1] rfl rfl (Nat.le_of_ble_eq_true rfl) ⟨rfl, rfl⟩ (fun x h => cM_altitude _ G.2.1 C.2.2.2.2.2.2.2.2.2.2.1 a.2.2 (G.2.2.2.2 (Int32.toNatClampNeg (a.1 + (1 : Int32)))) (G.2.2.2.2 (Int32.toNatClampNeg (a.1 + (2 : Int32)))) x h) rfl (fun x2 _ => ?_)
  show Lw v G 1764 _ [.int x2.1, .int x1.1] x1.2 x2.2 _
  refine l_icmp_eq (tgt := 1960) (pc' := 1767) C dL_1764 rfl rfl ?_ ?_
  · exact w_end C hih _ _ _
  · refine l_iconst (pc' := 1768) C dL_1767 ki_0 rfl ?_
    exact l_ret0
def law_53 (L : Nat) (xs : Nat → Int32) (ih : Int32 × St × St → Option Int32) (a : Int32 × St × St) : Option Int32 :=
  Gd (Ix (a.1 + (1 : Int32)) L) <|
  Gd (Ix (a.1 + (2 : Int32)) L) <|
  Gd (Ix (a.1 + (3 : Int32)) L) <|
  Option.bind (f_FL_altitudeAt a.2.1 (xs (Int32.toNatClampNeg (a.1 + (1 : Int32)))) (xs (Int32.toNatClampNeg (a.1 + (2 : Int32)))) (xs (Int32.toNatClampNeg (a.1 + (3 : Int32))))) fun x1 =>
  Gd (Ix (a.1 + (1 : Int32)) L) <|
  Gd (Ix (a.1 + (2 : Int32)) L) <|
  Gd (Ix (a.1 + (3 : Int32)) L) <|
  Option.bind (m_altitudeAt a.2.2 (xs (Int32.toNatClampNeg (a.1 + (1 : Int32)))) (xs (Int32.toNatClampNeg (a.1 + (2 : Int32)))) (xs (Int32.toNatClampNeg (a.1 + (3 : Int32))))) fun x2 =>
  if (x1.1 : Int32) = x2.1 then (ih (a.1 + (4 : Int32), x1.2, x2.2)) else (some 0)
set_option maxHeartbeats 4000000 in
theorem w_53 {v : Zl} {G : Gl} (C : Lc v G) (ih : Int32 × St × St → Option Int32) (hih : ∀ a : Int32 × St × St, Lw v G 18 [(0, .ref G.2.2.1), (1, .ref (G.1.1 0)), (2, .ref (G.2.1.1 0)), (3, .int a.1)] [] a.2.1 a.2.2 (ih a)) (a : Int32 × St × St) : Lw v G 1769 [(0, .ref G.2.2.1), (1, .ref (G.1.1 0)), (2, .ref (G.2.1.1 0)), (3, .int a.1)] [] a.2.1 a.2.2 (law_53 G.2.2.2.1 G.2.2.2.2 ih a) := by
  unfold law_53
  refine l_aload_n (pc' := 1770) C 1 dL_1769 rfl rfl ?_
  refine l_aload_n (pc' := 1771) C 0 dL_1770 rfl rfl ?_
  refine l_iload_n (pc' := 1772) C 3 dL_1771 rfl rfl ?_
  refine l_iconst (pc' := 1773) C dL_1772 ki_1 rfl ?_
  refine l_iadd (pc' := 1774) C dL_1773 rfl ?_
  refine l_sld (pc' := 1775) C dL_1774 rfl ?_
  refine l_aload_n (pc' := 1776) C 0 dL_1775 rfl rfl ?_
  refine l_iload_n (pc' := 1777) C 3 dL_1776 rfl rfl ?_
  refine l_iconst (pc' := 1778) C dL_1777 ki_2 rfl ?_
  refine l_iadd (pc' := 1779) C dL_1778 rfl ?_
  refine l_sld (pc' := 1780) C dL_1779 rfl ?_
  refine l_aload_n (pc' := 1781) C 0 dL_1780 rfl rfl ?_
  refine l_iload_n (pc' := 1782) C 3 dL_1781 rfl rfl ?_
  refine l_iconst (pc' := 1783) C dL_1782 ki_3 rfl ?_
  refine l_iadd (pc' := 1784) C dL_1783 rfl ?_
  refine l_sld (pc' := 1785) C dL_1784 rfl ?_
  refine l_callC (out' := o_w) (fr' := 7) (lo' := 173) (pc' := 1788) C FC_FL_altitudeAt rfl lmL_231 dL_1785 [.int (G.2.2.2.2 (Int32.toNatClampNeg (a.1 + (1 : Int32)))), .int (G.2.2.2.2 (Int32.toNatClampNeg (a.1 + (2 : Int32)))), .int (G.2.2.2.2 (Int32.toNatClampNeg (a.1 + (3 : Int32))))] [] rfl rfl (Nat.le_of_ble_eq_true rfl) ⟨rfl, rfl⟩ (fun x h => cC_FL_altitudeAt _ G.1 C.2.2.2.2.2.2.2.2.2.1 a.2.1 (G.2.2.2.2 (Int32.toNatClampNeg (a.1 + (1 : Int32)))) (G.2.2.2.2 (Int32.toNatClampNeg (a.1 + (2 : Int32)))) (G.2.2.2.2 (Int32.toNatClampNeg (a.1 + (3 : Int32)))) x h) rfl (fun x1 _ => ?_)
  show Lw v G 1788 _ [.int x1.1] x1.2 a.2.2 _
  refine l_aload_n (pc' := 1789) C 2 dL_1788 rfl rfl ?_
  refine l_aload_n (pc' := 1790) C 0 dL_1789 rfl rfl ?_
  refine l_iload_n (pc' := 1791) C 3 dL_1790 rfl rfl ?_
  refine l_iconst (pc' := 1792) C dL_1791 ki_1 rfl ?_
  refine l_iadd (pc' := 1793) C dL_1792 rfl ?_
  refine l_sld (pc' := 1794) C dL_1793 rfl ?_
  refine l_aload_n (pc' := 1795) C 0 dL_1794 rfl rfl ?_
  refine l_iload_n (pc' := 1796) C 3 dL_1795 rfl rfl ?_
  refine l_iconst (pc' := 1797) C dL_1796 ki_2 rfl ?_
  refine l_iadd (pc' := 1798) C dL_1797 rfl ?_
  refine l_sld (pc' := 1799) C dL_1798 rfl ?_
  refine l_aload_n (pc' := 1800) C 0 dL_1799 rfl rfl ?_
  refine l_iload_n (pc' := 1801) C 3 dL_1800 rfl rfl ?_
  refine l_iconst (pc' := 1802) C dL_1801 ki_3 rfl ?_
  refine l_iadd (pc' := 1803) C dL_1802 rfl ?_
  refine l_sld (pc' := 1804) C dL_1803 rfl ?_
  refine l_callM (out' := o_w) (fr' := 10) (lo' := 242) (pc' := 1807) C FM_altitudeAt rfl lmL_234 dL_1804 [.int (G.2.2.2.2 (Int32.toNatClampNeg (a.1 + (1 : Int32)))), .int (G.2.2.2.2 (Int32.toNatClampNeg (a.1 + (2 : Int32)))), .int (G.2.2.2.2 (Int32.toNatClampNeg (a.1 + (3 : Int32))))] [.int x1.1] rfl rfl (Nat.le_of_ble_eq_true rfl) ⟨rfl, rfl⟩ (fun x h => cM_altitudeAt _ G.2.1 C.2.2.2.2.2.2.2.2.2.2.1 a.2.2 (G.2.2.2.2 (Int32.toNatClampNeg (a.1 + (1 : Int32)))) (G.2.2.2.2 (Int32.toNatClampNeg (a.1 + (2 : Int32)))) (G.2.2.2.2 (Int32.toNatClampNeg (a.1 + (3 : Int32)))) x h) rfl (fun x2 _ => ?_)
  show Lw v G 1807 _ [.int x2.1, .int x1.1] x1.2 x2.2 _
  refine l_icmp_eq (tgt := 1960) (pc' := 1810) C dL_1807 rfl rfl ?_ ?_
  · exact w_end C hih _ _ _
  · refine l_iconst (pc' := 1811) C dL_1810 ki_0 rfl ?_
    exact l_ret0
def law_54 (L : Nat) (xs : Nat → Int32) (ih : Int32 × St × St → Option Int32) (a : Int32 × St × St) : Option Int32 :=
  Gd (Ix (a.1 + (1 : Int32)) L) <|
  Gd (Ix (a.1 + (2 : Int32)) L) <|
  Option.bind (f_FL_violation a.2.1 (xs (Int32.toNatClampNeg (a.1 + (1 : Int32)))) (xs (Int32.toNatClampNeg (a.1 + (2 : Int32))))) fun x1 =>
  Gd (Ix (a.1 + (1 : Int32)) L) <|
  Gd (Ix (a.1 + (2 : Int32)) L) <|
  Option.bind (m_violation a.2.2 (xs (Int32.toNatClampNeg (a.1 + (1 : Int32)))) (xs (Int32.toNatClampNeg (a.1 + (2 : Int32))))) fun x2 =>
  if (x1.1 : Int32) = x2.1 then (ih (a.1 + (4 : Int32), x1.2, x2.2)) else (some 0)
set_option maxHeartbeats 4000000 in
theorem w_54 {v : Zl} {G : Gl} (C : Lc v G) (ih : Int32 × St × St → Option Int32) (hih : ∀ a : Int32 × St × St, Lw v G 18 [(0, .ref G.2.2.1), (1, .ref (G.1.1 0)), (2, .ref (G.2.1.1 0)), (3, .int a.1)] [] a.2.1 a.2.2 (ih a)) (a : Int32 × St × St) : Lw v G 1812 [(0, .ref G.2.2.1), (1, .ref (G.1.1 0)), (2, .ref (G.2.1.1 0)), (3, .int a.1)] [] a.2.1 a.2.2 (law_54 G.2.2.2.1 G.2.2.2.2 ih a) := by
  unfold law_54
  refine l_aload_n (pc' := 1813) C 1 dL_1812 rfl rfl ?_
  refine l_aload_n (pc' := 1814) C 0 dL_1813 rfl rfl ?_
  refine l_iload_n (pc' := 1815) C 3 dL_1814 rfl rfl ?_
  refine l_iconst (pc' := 1816) C dL_1815 ki_1 rfl ?_
  refine l_iadd (pc' := 1817) C dL_1816 rfl ?_
  refine l_sld (pc' := 1818) C dL_1817 rfl ?_
  refine l_aload_n (pc' := 1819) C 0 dL_1818 rfl rfl ?_
  refine l_iload_n (pc' := 1820) C 3 dL_1819 rfl rfl ?_
  refine l_iconst (pc' := 1821) C dL_1820 ki_2 rfl ?_
  refine l_iadd (pc' := 1822) C dL_1821 rfl ?_
  refine l_sld (pc' := 1823) C dL_1822 rfl ?_
  refine l_callC (out' := o_w) (fr' := 7) (lo' := 175) (pc' := 1826) C FC_FL_violation rfl lmL_235 dL_1823 [.int (G.2.2.2.2 (Int32.toNatClampNeg (a.1 + (1 : Int32)))), .int (G.2.2.2.2 (Int32.toNatClampNeg (a.1 + (2 : Int32))))] [] rfl rfl (Nat.le_of_ble_eq_true rfl) ⟨rfl, rfl⟩ (fun x h => cC_FL_violation _ G.1 C.2.2.2.2.2.2.2.2.2.1 a.2.1 (G.2.2.2.2 (Int32.toNatClampNeg (a.1 + (1 : Int32)))) (G.2.2.2.2 (Int32.toNatClampNeg (a.1 + (2 : Int32)))) x h) rfl (fun x1 _ => ?_)
  show Lw v G 1826 _ [.int x1.1] x1.2 a.2.2 _
  refine l_aload_n (pc' := 1827) C 2 dL_1826 rfl rfl ?_
  refine l_aload_n (pc' := 1828) C 0 dL_1827 rfl rfl ?_
  refine l_iload_n (pc' := 1829) C 3 dL_1828 rfl rfl ?_
  refine l_iconst (pc' := 1830) C dL_1829 ki_1 rfl ?_
  refine l_iadd (pc' := 1831) C dL_1830 rfl ?_
  refine l_sld (pc' := 1832) C dL_1831 rfl ?_
  refine l_aload_n (pc' := 1833) C 0 dL_1832 rfl rfl ?_
  refine l_iload_n (pc' := 1834) C 3 dL_1833 rfl rfl ?_
  refine l_iconst (pc' := 1835) C dL_1834 ki_2 rfl ?_
  refine l_iadd (pc' := 1836) C dL_1835 rfl ?_
  refine l_sld (pc' := 1837) C dL_1836 rfl ?_
  refine l_callM (out' := o_w) (fr' := 10) (lo' := 242) (pc' := 1840) C FM_violation rfl lmL_238 dL_1837 [.int (G.2.2.2.2 (Int32.toNatClampNeg (a.1 + (1 : Int32)))), .int (G.2.2.2.2 (Int32.toNatClampNeg (a.1 + (2 : Int32))))] [.int x1.1] rfl rfl (Nat.le_of_ble_eq_true rfl) ⟨rfl, rfl⟩ (fun x h => cM_violation _ G.2.1 C.2.2.2.2.2.2.2.2.2.2.1 a.2.2 (G.2.2.2.2 (Int32.toNatClampNeg (a.1 + (1 : Int32)))) (G.2.2.2.2 (Int32.toNatClampNeg (a.1 + (2 : Int32)))) x h) rfl (fun x2 _ => ?_)
  show Lw v G 1840 _ [.int x2.1, .int x1.1] x1.2 x2.2 _
  refine l_icmp_eq (tgt := 1960) (pc' := 1843) C dL_1840 rfl rfl ?_ ?_
  · exact w_end C hih _ _ _
  · refine l_iconst (pc' := 1844) C dL_1843 ki_0 rfl ?_
    exact l_ret0
def law_55 (L : Nat) (xs : Nat → Int32) (ih : Int32 × St × St → Option Int32) (a : Int32 × St × St) : Option Int32 :=
  Gd (Ix (a.1 + (1 : Int32)) L) <|
  Option.bind (f_FL_topOfDescent a.2.1 (xs (Int32.toNatClampNeg (a.1 + (1 : Int32))))) fun x1 =>
  Gd (Ix (a.1 + (1 : Int32)) L) <|
  Option.bind (m_topOfDescent a.2.2 (xs (Int32.toNatClampNeg (a.1 + (1 : Int32))))) fun x2 =>
  if (x1.1 : Int32) = x2.1 then (ih (a.1 + (4 : Int32), x1.2, x2.2)) else (some 0)
set_option maxHeartbeats 4000000 in
theorem w_55 {v : Zl} {G : Gl} (C : Lc v G) (ih : Int32 × St × St → Option Int32) (hih : ∀ a : Int32 × St × St, Lw v G 18 [(0, .ref G.2.2.1), (1, .ref (G.1.1 0)), (2, .ref (G.2.1.1 0)), (3, .int a.1)] [] a.2.1 a.2.2 (ih a)) (a : Int32 × St × St) : Lw v G 1845 [(0, .ref G.2.2.1), (1, .ref (G.1.1 0)), (2, .ref (G.2.1.1 0)), (3, .int a.1)] [] a.2.1 a.2.2 (law_55 G.2.2.2.1 G.2.2.2.2 ih a) := by
  unfold law_55
  refine l_aload_n (pc' := 1846) C 1 dL_1845 rfl rfl ?_
  refine l_aload_n (pc' := 1847) C 0 dL_1846 rfl rfl ?_
  refine l_iload_n (pc' := 1848) C 3 dL_1847 rfl rfl ?_
  refine l_iconst (pc' := 1849) C dL_1848 ki_1 rfl ?_
  refine l_iadd (pc' := 1850) C dL_1849 rfl ?_
  refine l_sld (pc' := 1851) C dL_1850 rfl ?_
  refine l_callC (out' := o_w) (fr' := 7) (lo' := 173) (pc' := 1854) C FC_FL_topOfDescent rfl lmL_239 dL_1851 [.int (G.2.2.2.2 (Int32.toNatClampNeg (a.1 + (1 : Int32))))] [] rfl rfl (Nat.le_of_ble_eq_true rfl) ⟨rfl, rfl⟩ (fun x h => cC_FL_topOfDescent _ G.1 C.2.2.2.2.2.2.2.2.2.1 a.2.1 (G.2.2.2.2 (Int32.toNatClampNeg (a.1 + (1 : Int32)))) x h) rfl (fun x1 _ => ?_)
  show Lw v G 1854 _ [.int x1.1] x1.2 a.2.2 _
  refine l_aload_n (pc' := 1855) C 2 dL_1854 rfl rfl ?_
  refine l_aload_n (pc' := 1856) C 0 dL_1855 rfl rfl ?_
  refine l_iload_n (pc' := 1857) C 3 dL_1856 rfl rfl ?_
  refine l_iconst (pc' := 1858) C dL_1857 ki_1 rfl ?_
  refine l_iadd (pc' := 1859) C dL_1858 rfl ?_
  refine l_sld (pc' := 1860) C dL_1859 rfl ?_
  refine l_callM (out' := o_w) (fr' := 9) (lo' := 220) (pc' := 1863) C FM_topOfDescent rfl lmL_242 dL_1860 [.int (G.2.2.2.2 (Int32.toNatClampNeg (a.1 + (1 : Int32))))] [.int x1.1] rfl rfl (Nat.le_of_ble_eq_true rfl) ⟨rfl, rfl⟩ (fun x h => cM_topOfDescent _ G.2.1 C.2.2.2.2.2.2.2.2.2.2.1 a.2.2 (G.2.2.2.2 (Int32.toNatClampNeg (a.1 + (1 : Int32)))) x h) rfl (fun x2 _ => ?_)
  show Lw v G 1863 _ [.int x2.1, .int x1.1] x1.2 x2.2 _
  refine l_icmp_eq (tgt := 1960) (pc' := 1866) C dL_1863 rfl rfl ?_ ?_
  · exact w_end C hih _ _ _
  · refine l_iconst (pc' := 1867) C dL_1866 ki_0 rfl ?_
    exact l_ret0
def law_56 (L : Nat) (xs : Nat → Int32) (ih : Int32 × St × St → Option Int32) (a : Int32 × St × St) : Option Int32 :=
  Gd (Ix (a.1 + (1 : Int32)) L) <|
  Option.bind (f_FL_gapCount a.2.1 (xs (Int32.toNatClampNeg (a.1 + (1 : Int32))))) fun x1 =>
  Gd (Ix (a.1 + (1 : Int32)) L) <|
  Option.bind (m_gapCount a.2.2 (xs (Int32.toNatClampNeg (a.1 + (1 : Int32))))) fun x2 =>
  if (x1.1 : Int32) = x2.1 then (ih (a.1 + (4 : Int32), x1.2, x2.2)) else (some 0)
set_option maxHeartbeats 4000000 in
theorem w_56 {v : Zl} {G : Gl} (C : Lc v G) (ih : Int32 × St × St → Option Int32) (hih : ∀ a : Int32 × St × St, Lw v G 18 [(0, .ref G.2.2.1), (1, .ref (G.1.1 0)), (2, .ref (G.2.1.1 0)), (3, .int a.1)] [] a.2.1 a.2.2 (ih a)) (a : Int32 × St × St) : Lw v G 1868 [(0, .ref G.2.2.1), (1, .ref (G.1.1 0)), (2, .ref (G.2.1.1 0)), (3, .int a.1)] [] a.2.1 a.2.2 (law_56 G.2.2.2.1 G.2.2.2.2 ih a) := by
  unfold law_56
  refine l_aload_n (pc' := 1869) C 1 dL_1868 rfl rfl ?_
  refine l_aload_n (pc' := 1870) C 0 dL_1869 rfl rfl ?_
  refine l_iload_n (pc' := 1871) C 3 dL_1870 rfl rfl ?_
  refine l_iconst (pc' := 1872) C dL_1871 ki_1 rfl ?_
  refine l_iadd (pc' := 1873) C dL_1872 rfl ?_
  refine l_sld (pc' := 1874) C dL_1873 rfl ?_
  refine l_callC (out' := o_w) (fr' := 7) (lo' := 173) (pc' := 1877) C FC_FL_gapCount rfl lmL_243 dL_1874 [.int (G.2.2.2.2 (Int32.toNatClampNeg (a.1 + (1 : Int32))))] [] rfl rfl (Nat.le_of_ble_eq_true rfl) ⟨rfl, rfl⟩ (fun x h => cC_FL_gapCount _ G.1 C.2.2.2.2.2.2.2.2.2.1 a.2.1 (G.2.2.2.2 (Int32.toNatClampNeg (a.1 + (1 : Int32)))) x h) rfl (fun x1 _ => ?_)
  show Lw v G 1877 _ [.int x1.1] x1.2 a.2.2 _
  refine l_aload_n (pc' := 1878) C 2 dL_1877 rfl rfl ?_
  refine l_aload_n (pc' := 1879) C 0 dL_1878 rfl rfl ?_
  refine l_iload_n (pc' := 1880) C 3 dL_1879 rfl rfl ?_
  refine l_iconst (pc' := 1881) C dL_1880 ki_1 rfl ?_
  refine l_iadd (pc' := 1882) C dL_1881 rfl ?_
  refine l_sld (pc' := 1883) C dL_1882 rfl ?_
  refine l_callM (out' := o_w) (fr' := 9) (lo' := 220) (pc' := 1886) C FM_gapCount rfl lmL_246 dL_1883 [.int (G.2.2.2.2 (Int32.toNatClampNeg (a.1 + (1 : Int32))))] [.int x1.1] rfl rfl (Nat.le_of_ble_eq_true rfl) ⟨rfl, rfl⟩ (fun x h => cM_gapCount _ G.2.1 C.2.2.2.2.2.2.2.2.2.2.1 a.2.2 (G.2.2.2.2 (Int32.toNatClampNeg (a.1 + (1 : Int32)))) x h) rfl (fun x2 _ => ?_)
  show Lw v G 1886 _ [.int x2.1, .int x1.1] x1.2 x2.2 _
  refine l_icmp_eq (tgt := 1960) (pc' := 1889) C dL_1886 rfl rfl ?_ ?_
  · exact w_end C hih _ _ _
  · refine l_iconst (pc' := 1890) C dL_1889 ki_0 rfl ?_
    exact l_ret0
def law_57 (L : Nat) (xs : Nat → Int32) (ih : Int32 × St × St → Option Int32) (a : Int32 × St × St) : Option Int32 :=
  Gd (Ix (a.1 + (1 : Int32)) L) <|
  Option.bind (f_FL_totalLength a.2.1 (xs (Int32.toNatClampNeg (a.1 + (1 : Int32))))) fun x1 =>
  Gd (Ix (a.1 + (1 : Int32)) L) <|
  Option.bind (m_totalLength a.2.2 (xs (Int32.toNatClampNeg (a.1 + (1 : Int32))))) fun x2 =>
  if (x1.1 : Int32) = x2.1 then (ih (a.1 + (4 : Int32), x1.2, x2.2)) else (some 0)
set_option maxHeartbeats 4000000 in
theorem w_57 {v : Zl} {G : Gl} (C : Lc v G) (ih : Int32 × St × St → Option Int32) (hih : ∀ a : Int32 × St × St, Lw v G 18 [(0, .ref G.2.2.1), (1, .ref (G.1.1 0)), (2, .ref (G.2.1.1 0)), (3, .int a.1)] [] a.2.1 a.2.2 (ih a)) (a : Int32 × St × St) : Lw v G 1891 [(0, .ref G.2.2.1), (1, .ref (G.1.1 0)), (2, .ref (G.2.1.1 0)), (3, .int a.1)] [] a.2.1 a.2.2 (law_57 G.2.2.2.1 G.2.2.2.2 ih a) := by
  unfold law_57
  refine l_aload_n (pc' := 1892) C 1 dL_1891 rfl rfl ?_
  refine l_aload_n (pc' := 1893) C 0 dL_1892 rfl rfl ?_
  refine l_iload_n (pc' := 1894) C 3 dL_1893 rfl rfl ?_
  refine l_iconst (pc' := 1895) C dL_1894 ki_1 rfl ?_
  refine l_iadd (pc' := 1896) C dL_1895 rfl ?_
  refine l_sld (pc' := 1897) C dL_1896 rfl ?_
  refine l_callC (out' := o_w) (fr' := 7) (lo' := 173) (pc' := 1900) C FC_FL_totalLength rfl lmL_247 dL_1897 [.int (G.2.2.2.2 (Int32.toNatClampNeg (a.1 + (1 : Int32))))] [] rfl rfl (Nat.le_of_ble_eq_true rfl) ⟨rfl, rfl⟩ (fun x h => cC_FL_totalLength _ G.1 C.2.2.2.2.2.2.2.2.2.1 a.2.1 (G.2.2.2.2 (Int32.toNatClampNeg (a.1 + (1 : Int32)))) x h) rfl (fun x1 _ => ?_)
  show Lw v G 1900 _ [.int x1.1] x1.2 a.2.2 _
  refine l_aload_n (pc' := 1901) C 2 dL_1900 rfl rfl ?_
  refine l_aload_n (pc' := 1902) C 0 dL_1901 rfl rfl ?_
  refine l_iload_n (pc' := 1903) C 3 dL_1902 rfl rfl ?_
  refine l_iconst (pc' := 1904) C dL_1903 ki_1 rfl ?_
  refine l_iadd (pc' := 1905) C dL_1904 rfl ?_
  refine l_sld (pc' := 1906) C dL_1905 rfl ?_
  refine l_callM (out' := o_w) (fr' := 9) (lo' := 220) (pc' := 1909) C FM_totalLength rfl lmL_250 dL_1906 [.int (G.2.2.2.2 (Int32.toNatClampNeg (a.1 + (1 : Int32))))] [.int x1.1] rfl rfl (Nat.le_of_ble_eq_true rfl) ⟨rfl, rfl⟩ (fun x h => cM_totalLength _ G.2.1 C.2.2.2.2.2.2.2.2.2.2.1 a.2.2 (G.2.2.2.2 (Int32.toNatClampNeg (a.1 + (1 : Int32)))) x h) rfl (fun x2 _ => ?_)
  show Lw v G 1909 _ [.int x2.1, .int x1.1] x1.2 x2.2 _
  refine l_icmp_eq (tgt := 1960) (pc' := 1912) C dL_1909 rfl rfl ?_ ?_
  · exact w_end C hih _ _ _
  · refine l_iconst (pc' := 1913) C dL_1912 ki_0 rfl ?_
    exact l_ret0
def law_58 (L : Nat) (xs : Nat → Int32) (ih : Int32 × St × St → Option Int32) (a : Int32 × St × St) : Option Int32 :=
  Gd (Ix (a.1 + (1 : Int32)) L) <|
  Option.bind (f_FL_totalTime a.2.1 (xs (Int32.toNatClampNeg (a.1 + (1 : Int32))))) fun x1 =>
  Gd (Ix (a.1 + (1 : Int32)) L) <|
  Option.bind (m_totalTime a.2.2 (xs (Int32.toNatClampNeg (a.1 + (1 : Int32))))) fun x2 =>
  if (x1.1 : Int32) = x2.1 then (ih (a.1 + (4 : Int32), x1.2, x2.2)) else (some 0)
set_option maxHeartbeats 4000000 in
theorem w_58 {v : Zl} {G : Gl} (C : Lc v G) (ih : Int32 × St × St → Option Int32) (hih : ∀ a : Int32 × St × St, Lw v G 18 [(0, .ref G.2.2.1), (1, .ref (G.1.1 0)), (2, .ref (G.2.1.1 0)), (3, .int a.1)] [] a.2.1 a.2.2 (ih a)) (a : Int32 × St × St) : Lw v G 1914 [(0, .ref G.2.2.1), (1, .ref (G.1.1 0)), (2, .ref (G.2.1.1 0)), (3, .int a.1)] [] a.2.1 a.2.2 (law_58 G.2.2.2.1 G.2.2.2.2 ih a) := by
  unfold law_58
  refine l_aload_n (pc' := 1915) C 1 dL_1914 rfl rfl ?_
  refine l_aload_n (pc' := 1916) C 0 dL_1915 rfl rfl ?_
  refine l_iload_n (pc' := 1917) C 3 dL_1916 rfl rfl ?_
  refine l_iconst (pc' := 1918) C dL_1917 ki_1 rfl ?_
  refine l_iadd (pc' := 1919) C dL_1918 rfl ?_
  refine l_sld (pc' := 1920) C dL_1919 rfl ?_
  refine l_callC (out' := o_w) (fr' := 7) (lo' := 173) (pc' := 1923) C FC_FL_totalTime rfl lmL_251 dL_1920 [.int (G.2.2.2.2 (Int32.toNatClampNeg (a.1 + (1 : Int32))))] [] rfl rfl (Nat.le_of_ble_eq_true rfl) ⟨rfl, rfl⟩ (fun x h => cC_FL_totalTime _ G.1 C.2.2.2.2.2.2.2.2.2.1 a.2.1 (G.2.2.2.2 (Int32.toNatClampNeg (a.1 + (1 : Int32)))) x h) rfl (fun x1 _ => ?_)
  show Lw v G 1923 _ [.int x1.1] x1.2 a.2.2 _
  refine l_aload_n (pc' := 1924) C 2 dL_1923 rfl rfl ?_
  refine l_aload_n (pc' := 1925) C 0 dL_1924 rfl rfl ?_
  refine l_iload_n (pc' := 1926) C 3 dL_1925 rfl rfl ?_
  refine l_iconst (pc' := 1927) C dL_1926 ki_1 rfl ?_
  refine l_iadd (pc' := 1928) C dL_1927 rfl ?_
  refine l_sld (pc' := 1929) C dL_1928 rfl ?_
  refine l_callM (out' := o_w) (fr' := 9) (lo' := 220) (pc' := 1932) C FM_totalTime rfl lmL_254 dL_1929 [.int (G.2.2.2.2 (Int32.toNatClampNeg (a.1 + (1 : Int32))))] [.int x1.1] rfl rfl (Nat.le_of_ble_eq_true rfl) ⟨rfl, rfl⟩ (fun x h => cM_totalTime _ G.2.1 C.2.2.2.2.2.2.2.2.2.2.1 a.2.2 (G.2.2.2.2 (Int32.toNatClampNeg (a.1 + (1 : Int32)))) x h) rfl (fun x2 _ => ?_)
  show Lw v G 1932 _ [.int x2.1, .int x1.1] x1.2 x2.2 _
  refine l_icmp_eq (tgt := 1960) (pc' := 1935) C dL_1932 rfl rfl ?_ ?_
  · exact w_end C hih _ _ _
  · refine l_iconst (pc' := 1936) C dL_1935 ki_0 rfl ?_
    exact l_ret0
def law_59 (L : Nat) (xs : Nat → Int32) (ih : Int32 × St × St → Option Int32) (a : Int32 × St × St) : Option Int32 :=
  Gd (Ix (a.1 + (1 : Int32)) L) <|
  Option.bind (f_FL_violationCount a.2.1 (xs (Int32.toNatClampNeg (a.1 + (1 : Int32))))) fun x1 =>
  Gd (Ix (a.1 + (1 : Int32)) L) <|
  Option.bind (m_violationCount a.2.2 (xs (Int32.toNatClampNeg (a.1 + (1 : Int32))))) fun x2 =>
  if (x1.1 : Int32) = x2.1 then (ih (a.1 + (4 : Int32), x1.2, x2.2)) else (some 0)
set_option maxHeartbeats 4000000 in
theorem w_59 {v : Zl} {G : Gl} (C : Lc v G) (ih : Int32 × St × St → Option Int32) (hih : ∀ a : Int32 × St × St, Lw v G 18 [(0, .ref G.2.2.1), (1, .ref (G.1.1 0)), (2, .ref (G.2.1.1 0)), (3, .int a.1)] [] a.2.1 a.2.2 (ih a)) (a : Int32 × St × St) : Lw v G 1937 [(0, .ref G.2.2.1), (1, .ref (G.1.1 0)), (2, .ref (G.2.1.1 0)), (3, .int a.1)] [] a.2.1 a.2.2 (law_59 G.2.2.2.1 G.2.2.2.2 ih a) := by
  unfold law_59
  refine l_aload_n (pc' := 1938) C 1 dL_1937 rfl rfl ?_
  refine l_aload_n (pc' := 1939) C 0 dL_1938 rfl rfl ?_
  refine l_iload_n (pc' := 1940) C 3 dL_1939 rfl rfl ?_
  refine l_iconst (pc' := 1941) C dL_1940 ki_1 rfl ?_
  refine l_iadd (pc' := 1942) C dL_1941 rfl ?_
  refine l_sld (pc' := 1943) C dL_1942 rfl ?_
  refine l_callC (out' := o_w) (fr' := 7) (lo' := 173) (pc' := 1946) C FC_FL_violationCount rfl lmL_255 dL_1943 [.int (G.2.2.2.2 (Int32.toNatClampNeg (a.1 + (1 : Int32))))] [] rfl rfl (Nat.le_of_ble_eq_true rfl) ⟨rfl, rfl⟩ (fun x h => cC_FL_violationCount _ G.1 C.2.2.2.2.2.2.2.2.2.1 a.2.1 (G.2.2.2.2 (Int32.toNatClampNeg (a.1 + (1 : Int32)))) x h) rfl (fun x1 _ => ?_)
  show Lw v G 1946 _ [.int x1.1] x1.2 a.2.2 _
  refine l_aload_n (pc' := 1947) C 2 dL_1946 rfl rfl ?_
  refine l_aload_n (pc' := 1948) C 0 dL_1947 rfl rfl ?_
  refine l_iload_n (pc' := 1949) C 3 dL_1948 rfl rfl ?_
  refine l_iconst (pc' := 1950) C dL_1949 ki_1 rfl ?_
  refine l_iadd (pc' := 1951) C dL_1950 rfl ?_
  refine l_sld (pc' := 1952) C dL_1951 rfl ?_
  refine l_callM (out' := o_w) (fr' := 9) (lo' := 220) (pc' := 1955) C FM_violationCount rfl lmL_258 dL_1952 [.int (G.2.2.2.2 (Int32.toNatClampNeg (a.1 + (1 : Int32))))] [.int x1.1] rfl rfl (Nat.le_of_ble_eq_true rfl) ⟨rfl, rfl⟩ (fun x h => cM_violationCount _ G.2.1 C.2.2.2.2.2.2.2.2.2.2.1 a.2.2 (G.2.2.2.2 (Int32.toNatClampNeg (a.1 + (1 : Int32)))) x h) rfl (fun x2 _ => ?_)
  show Lw v G 1955 _ [.int x2.1, .int x1.1] x1.2 x2.2 _
  refine l_icmp_eq (tgt := 1960) (pc' := 1958) C dL_1955 rfl rfl ?_ ?_
  · exact w_end C hih _ _ _
  · refine l_iconst (pc' := 1959) C dL_1958 ki_0 rfl ?_
    exact l_ret0
