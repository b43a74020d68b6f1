/-! the law, case by case -/
theorem lo4 : Int32.ofInt 4 = (4 : Int32) := by decide
theorem lmL_13 : Cond.methodLink R_law 13 yC_FL_type ∈ lw_g := mg2 175 rfl rfl
theorem lmL_17 : Cond.methodLink R_law 17 yM_type ∈ lw_g := mg7 42 rfl rfl
theorem lmL_18 : Cond.methodLink R_law 18 yC_FL_clearText ∈ lw_g := mg2 188 rfl rfl
theorem lmL_22 : Cond.methodLink R_law 22 yM_clearText ∈ lw_g := mg7 52 rfl rfl
theorem lmL_23 : Cond.methodLink R_law 23 yC_FL_textFault ∈ lw_g := mg2 192 rfl rfl
theorem lmL_26 : Cond.methodLink R_law 26 yM_textFault ∈ lw_g := mg7 56 rfl rfl
theorem lmL_27 : Cond.methodLink R_law 27 yC_FL_addFix ∈ lw_g := mg3 80 rfl rfl
theorem lmL_31 : Cond.methodLink R_law 31 yM_addFix ∈ lw_g := mg7 126 rfl rfl
theorem lmL_32 : Cond.methodLink R_law 32 yC_FL_setWind ∈ lw_g := mg3 85 rfl rfl
theorem lmL_35 : Cond.methodLink R_law 35 yM_setWind ∈ lw_g := mg7 132 rfl rfl
theorem lmL_36 : Cond.methodLink R_law 36 yC_FL_setCruise ∈ lw_g := mg4 126 rfl rfl
theorem lmL_39 : Cond.methodLink R_law 39 yM_setCruise ∈ lw_g := mg8 54 rfl rfl
theorem lmL_40 : Cond.methodLink R_law 40 yC_FL_setGradients ∈ lw_g := mg4 130 rfl rfl
theorem lmL_44 : Cond.methodLink R_law 44 yM_setGradients ∈ lw_g := mg8 61 rfl rfl
theorem lmL_45 : Cond.methodLink R_law 45 yC_FL_setEnds ∈ lw_g := mg4 137 rfl rfl
theorem lmL_48 : Cond.methodLink R_law 48 yM_setEnds ∈ lw_g := mg8 66 rfl rfl
theorem lmL_49 : Cond.methodLink R_law 49 yC_FL_load ∈ lw_g := mg4 141 rfl rfl
theorem lmL_52 : Cond.methodLink R_law 52 yM_load ∈ lw_g := mg8 70 rfl rfl
theorem lmL_53 : Cond.methodLink R_law 53 yC_FL_insert ∈ lw_g := mg4 177 rfl rfl
theorem lmL_56 : Cond.methodLink R_law 56 yM_insert ∈ lw_g := mg8 87 rfl rfl
theorem lmL_57 : Cond.methodLink R_law 57 yC_FL_delete ∈ lw_g := mg4 195 rfl rfl
theorem lmL_60 : Cond.methodLink R_law 60 yM_delete ∈ lw_g := mg8 108 rfl rfl
theorem lmL_61 : Cond.methodLink R_law 61 yC_FL_closeGap ∈ lw_g := mg4 204 rfl rfl
theorem lmL_64 : Cond.methodLink R_law 64 yM_closeGap ∈ lw_g := mg8 116 rfl rfl
theorem lmL_65 : Cond.methodLink R_law 65 yC_FL_setWindow ∈ lw_g := mg4 224 rfl rfl
theorem lmL_68 : Cond.methodLink R_law 68 yM_setWindow ∈ lw_g := mg8 124 rfl rfl
theorem lmL_69 : Cond.methodLink R_law 69 yC_FL_setSpeedLimit ∈ lw_g := mg4 232 rfl rfl
theorem lmL_72 : Cond.methodLink R_law 72 yM_setSpeedLimit ∈ lw_g := mg8 144 rfl rfl
theorem lmL_73 : Cond.methodLink R_law 73 yC_FL_setFlyOver ∈ lw_g := mg4 236 rfl rfl
theorem lmL_77 : Cond.methodLink R_law 77 yM_setFlyOver ∈ lw_g := mg8 148 rfl rfl
theorem lmL_78 : Cond.methodLink R_law 78 yC_FL_directTo ∈ lw_g := mg5 0 rfl rfl
theorem lmL_81 : Cond.methodLink R_law 81 yM_directTo ∈ lw_g := mg8 152 rfl rfl
theorem lmL_82 : Cond.methodLink R_law 82 yC_FL_undo ∈ lw_g := mg5 30 rfl rfl
theorem lmL_85 : Cond.methodLink R_law 85 yM_undo ∈ lw_g := mg8 164 rfl rfl
theorem lmL_86 : Cond.methodLink R_law 86 yC_FL_execute ∈ lw_g := mg5 40 rfl rfl
theorem lmL_89 : Cond.methodLink R_law 89 yM_execute ∈ lw_g := mg8 168 rfl rfl
theorem lmL_90 : Cond.methodLink R_law 90 yC_FL_cancel ∈ lw_g := mg5 48 rfl rfl
theorem lmL_93 : Cond.methodLink R_law 93 yM_cancel ∈ lw_g := mg8 172 rfl rfl
theorem lmL_94 : Cond.methodLink R_law 94 yC_FL_fly ∈ lw_g := mg5 52 rfl rfl
theorem lmL_97 : Cond.methodLink R_law 97 yM_fly ∈ lw_g := mg8 176 rfl rfl
theorem lmL_98 : Cond.methodLink R_law 98 yC_FL_resume ∈ lw_g := mg5 70 rfl rfl
theorem lmL_101 : Cond.methodLink R_law 101 yM_resume ∈ lw_g := mg8 181 rfl rfl
theorem lmL_102 : Cond.methodLink R_law 102 yC_FL_currentLeg ∈ lw_g := mg5 79 rfl rfl
theorem lmL_105 : Cond.methodLink R_law 105 yM_currentLeg ∈ lw_g := mg8 185 rfl rfl
theorem lmL_106 : Cond.methodLink R_law 106 yC_FL_flownLength ∈ lw_g := mg5 83 rfl rfl
theorem lmL_109 : Cond.methodLink R_law 109 yM_flownLength ∈ lw_g := mg8 189 rfl rfl
theorem lmL_110 : Cond.methodLink R_law 110 yC_FL_positionX ∈ lw_g := mg5 87 rfl rfl
theorem lmL_113 : Cond.methodLink R_law 113 yM_positionX ∈ lw_g := mg8 193 rfl rfl
theorem lmL_114 : Cond.methodLink R_law 114 yC_FL_positionY ∈ lw_g := mg5 91 rfl rfl
theorem lmL_117 : Cond.methodLink R_law 117 yM_positionY ∈ lw_g := mg8 197 rfl rfl
theorem lmL_118 : Cond.methodLink R_law 118 yC_FL_presentCourse ∈ lw_g := mg5 95 rfl rfl
theorem lmL_121 : Cond.methodLink R_law 121 yM_presentCourse ∈ lw_g := mg8 201 rfl rfl
theorem lmL_122 : Cond.methodLink R_law 122 yC_FL_directSaving ∈ lw_g := mg5 99 rfl rfl
theorem lmL_125 : Cond.methodLink R_law 125 yM_directSaving ∈ lw_g := mg8 205 rfl rfl
theorem lmL_126 : Cond.methodLink R_law 126 yC_FL_legCount ∈ lw_g := mg5 107 rfl rfl
theorem lmL_129 : Cond.methodLink R_law 129 yM_legCount ∈ lw_g := mg8 213 rfl rfl
theorem lmL_130 : Cond.methodLink R_law 130 yC_FL_legKind ∈ lw_g := mg5 119 rfl rfl
theorem lmL_133 : Cond.methodLink R_law 133 yM_legKind ∈ lw_g := mg8 225 rfl rfl
theorem lmL_134 : Cond.methodLink R_law 134 yC_FL_legFix ∈ lw_g := mg5 131 rfl rfl
theorem lmL_137 : Cond.methodLink R_law 137 yM_legFix ∈ lw_g := mg8 233 rfl rfl
theorem lmL_138 : Cond.methodLink R_law 138 yC_FL_hasGap ∈ lw_g := mg5 135 rfl rfl
theorem lmL_141 : Cond.methodLink R_law 141 yM_hasGap ∈ lw_g := mg8 237 rfl rfl
theorem lmL_142 : Cond.methodLink R_law 142 yC_FL_endX ∈ lw_g := mg5 140 rfl rfl
theorem lmL_145 : Cond.methodLink R_law 145 yM_endX ∈ lw_g := mg9 1 rfl rfl
theorem lmL_146 : Cond.methodLink R_law 146 yC_FL_endY ∈ lw_g := mg5 148 rfl rfl
theorem lmL_149 : Cond.methodLink R_law 149 yM_endY ∈ lw_g := mg9 5 rfl rfl
theorem lmL_150 : Cond.methodLink R_law 150 yC_FL_legCourse ∈ lw_g := mg5 152 rfl rfl
theorem lmL_153 : Cond.methodLink R_law 153 yM_legCourse ∈ lw_g := mg9 9 rfl rfl
theorem lmL_154 : Cond.methodLink R_law 154 yC_FL_legLength ∈ lw_g := mg5 156 rfl rfl
theorem lmL_157 : Cond.methodLink R_law 157 yM_legLength ∈ lw_g := mg9 13 rfl rfl
theorem lmL_158 : Cond.methodLink R_law 158 yC_FL_legTime ∈ lw_g := mg5 160 rfl rfl
theorem lmL_161 : Cond.methodLink R_law 161 yM_legTime ∈ lw_g := mg9 17 rfl rfl
theorem lmL_162 : Cond.methodLink R_law 162 yC_FL_lengthTo ∈ lw_g := mg5 164 rfl rfl
theorem lmL_165 : Cond.methodLink R_law 165 yM_lengthTo ∈ lw_g := mg9 21 rfl rfl
theorem lmL_166 : Cond.methodLink R_law 166 yC_FL_turnKind ∈ lw_g := mg5 168 rfl rfl
theorem lmL_169 : Cond.methodLink R_law 169 yM_turnKind ∈ lw_g := mg9 25 rfl rfl
theorem lmL_170 : Cond.methodLink R_law 170 yC_FL_turnSteps ∈ lw_g := mg5 172 rfl rfl
theorem lmL_173 : Cond.methodLink R_law 173 yM_turnSteps ∈ lw_g := mg9 33 rfl rfl
theorem lmL_174 : Cond.methodLink R_law 174 yC_FL_turnRadius ∈ lw_g := mg5 176 rfl rfl
theorem lmL_177 : Cond.methodLink R_law 177 yM_turnRadius ∈ lw_g := mg9 37 rfl rfl
theorem lmL_178 : Cond.methodLink R_law 178 yC_FL_turnLead ∈ lw_g := mg5 180 rfl rfl
theorem lmL_181 : Cond.methodLink R_law 181 yM_turnLead ∈ lw_g := mg9 41 rfl rfl
theorem lmL_182 : Cond.methodLink R_law 182 yC_FL_holdEntry ∈ lw_g := mg5 184 rfl rfl
theorem lmL_185 : Cond.methodLink R_law 185 yM_holdEntry ∈ lw_g := mg9 45 rfl rfl
theorem lmL_186 : Cond.methodLink R_law 186 yC_FL_entryFor ∈ lw_g := mg5 188 rfl rfl
theorem lmL_190 : Cond.methodLink R_law 190 yM_entryFor ∈ lw_g := mg9 49 rfl rfl
theorem lmL_191 : Cond.methodLink R_law 191 yC_FL_pieceCount ∈ lw_g := mg5 193 rfl rfl
theorem lmL_194 : Cond.methodLink R_law 194 yM_pieceCount ∈ lw_g := mg9 54 rfl rfl
theorem lmL_195 : Cond.methodLink R_law 195 yC_FL_pieceLeg ∈ lw_g := mg5 197 rfl rfl
theorem lmL_198 : Cond.methodLink R_law 198 yM_pieceLeg ∈ lw_g := mg9 58 rfl rfl
theorem lmL_199 : Cond.methodLink R_law 199 yC_FL_pieceKind ∈ lw_g := mg5 205 rfl rfl
theorem lmL_202 : Cond.methodLink R_law 202 yM_pieceKind ∈ lw_g := mg9 66 rfl rfl
theorem lmL_203 : Cond.methodLink R_law 203 yC_FL_pieceLength ∈ lw_g := mg5 209 rfl rfl
theorem lmL_206 : Cond.methodLink R_law 206 yM_pieceLength ∈ lw_g := mg9 70 rfl rfl
theorem lmL_207 : Cond.methodLink R_law 207 yC_FL_pieceCourse ∈ lw_g := mg5 213 rfl rfl
theorem lmL_210 : Cond.methodLink R_law 210 yM_pieceCourse ∈ lw_g := mg9 74 rfl rfl
theorem lmL_211 : Cond.methodLink R_law 211 yC_FL_pieceX ∈ lw_g := mg5 217 rfl rfl
theorem lmL_214 : Cond.methodLink R_law 214 yM_pieceX ∈ lw_g := mg9 78 rfl rfl
theorem lmL_215 : Cond.methodLink R_law 215 yC_FL_pieceY ∈ lw_g := mg5 221 rfl rfl
theorem lmL_218 : Cond.methodLink R_law 218 yM_pieceY ∈ lw_g := mg9 82 rfl rfl
theorem lmL_219 : Cond.methodLink R_law 219 yC_FL_climbAltitude ∈ lw_g := mg5 225 rfl rfl
theorem lmL_222 : Cond.methodLink R_law 222 yM_climbAltitude ∈ lw_g := mg9 86 rfl rfl
theorem lmL_223 : Cond.methodLink R_law 223 yC_FL_descentAltitude ∈ lw_g := mg5 229 rfl rfl
theorem lmL_226 : Cond.methodLink R_law 226 yM_descentAltitude ∈ lw_g := mg9 90 rfl rfl
theorem lmL_227 : Cond.methodLink R_law 227 yC_FL_altitude ∈ lw_g := mg5 233 rfl rfl
theorem lmL_230 : Cond.methodLink R_law 230 yM_altitude ∈ lw_g := mg9 94 rfl rfl
theorem lmL_231 : Cond.methodLink R_law 231 yC_FL_altitudeAt ∈ lw_g := mg5 237 rfl rfl
theorem lmL_234 : Cond.methodLink R_law 234 yM_altitudeAt ∈ lw_g := mg9 98 rfl rfl
theorem lmL_235 : Cond.methodLink R_law 235 yC_FL_violation ∈ lw_g := mg6 5 rfl rfl
theorem lmL_238 : Cond.methodLink R_law 238 yM_violation ∈ lw_g := mg9 102 rfl rfl
theorem lmL_239 : Cond.methodLink R_law 239 yC_FL_topOfDescent ∈ lw_g := mg6 9 rfl rfl
theorem lmL_242 : Cond.methodLink R_law 242 yM_topOfDescent ∈ lw_g := mg9 106 rfl rfl
theorem lmL_243 : Cond.methodLink R_law 243 yC_FL_gapCount ∈ lw_g := mg6 29 rfl rfl
theorem lmL_246 : Cond.methodLink R_law 246 yM_gapCount ∈ lw_g := mg9 110 rfl rfl
theorem lmL_247 : Cond.methodLink R_law 247 yC_FL_totalLength ∈ lw_g := mg6 33 rfl rfl
theorem lmL_250 : Cond.methodLink R_law 250 yM_totalLength ∈ lw_g := mg9 114 rfl rfl
theorem lmL_251 : Cond.methodLink R_law 251 yC_FL_totalTime ∈ lw_g := mg6 37 rfl rfl
theorem lmL_254 : Cond.methodLink R_law 254 yM_totalTime ∈ lw_g := mg9 118 rfl rfl
theorem lmL_255 : Cond.methodLink R_law 255 yC_FL_violationCount ∈ lw_g := mg6 45 rfl rfl
theorem lmL_258 : Cond.methodLink R_law 258 yM_violationCount ∈ lw_g := mg9 122 rfl rfl
theorem w_end {v : Zl} {G : Gl} (C : Lc v G) {ih : Int32 × St × St → Option Int32} (hih : ∀ a : Int32 × St × St, Lw v G 18 [(0, .ref G.2.2.1), (1, .ref (G.1.1 0)), (2, .ref (G.2.1.1 0)), (3, .int a.1)] [] a.2.1 a.2.2 (ih a)) (i : Int32) (c m : St) : Lw v G 1960 [(0, .ref G.2.2.1), (1, .ref (G.1.1 0)), (2, .ref (G.2.1.1 0)), (3, .int i)] [] c m (ih (i + (4 : Int32), c, m)) := by
  refine l_iinc (pc' := 1963) (lv' := [(3, .int (i + (4 : Int32))), (0, .ref G.2.2.1), (1, .ref (G.1.1 0)), (2, .ref (G.2.1.1 0))]) C 3 dL_1960 rfl (by rw [lo4]) (by decide) rfl rfl ?_
  refine l_goto (tgt := 18) C dL_1963 rfl ?_
  exact Lw.sub [1, 2, 3, 0] rfl (hih (i + (4 : Int32), c, m))
def law_0 (L : Nat) (xs : Nat → Int32) (ih : Int32 × St × St → Option Int32) (a : Int32 × St × St) : Option Int32 :=
  Gd (Ix (a.1 + (1 : Int32)) L) <|
  Option.bind (f_FL_type a.2.1 (xs (Int32.toNatClampNeg (a.1 + (1 : Int32))))) fun x1 =>
  Gd (Ix (a.1 + (1 : Int32)) L) <|
  Option.bind (m_type a.2.2 (xs (Int32.toNatClampNeg (a.1 + (1 : Int32))))) fun x2 =>
  if (x1.1 : Int32) = x2.1 then (ih (a.1 + (4 : Int32), x1.2, x2.2)) else (some 0)
set_option maxHeartbeats 4000000 in
theorem w_0 {v : Zl} {G : Gl} (C : Lc v G) (ih : Int32 × St × St → Option Int32) (hih : ∀ a : Int32 × St × St, Lw v G 18 [(0, .ref G.2.2.1), (1, .ref (G.1.1 0)), (2, .ref (G.2.1.1 0)), (3, .int a.1)] [] a.2.1 a.2.2 (ih a)) (a : Int32 × St × St) : Lw v G 288 [(0, .ref G.2.2.1), (1, .ref (G.1.1 0)), (2, .ref (G.2.1.1 0)), (3, .int a.1)] [] a.2.1 a.2.2 (law_0 G.2.2.2.1 G.2.2.2.2 ih a) := by
  unfold law_0
  refine l_aload_n (pc' := 289) C 1 dL_288 rfl rfl ?_
  refine l_aload_n (pc' := 290) C 0 dL_289 rfl rfl ?_
  refine l_iload_n (pc' := 291) C 3 dL_290 rfl rfl ?_
  refine l_iconst (pc' := 292) C dL_291 ki_1 rfl ?_
  refine l_iadd (pc' := 293) C dL_292 rfl ?_
  refine l_sld (pc' := 294) C dL_293 rfl ?_
  refine l_callC (out' := o_w) (fr' := 1) (lo' := 22) (pc' := 297) C FC_FL_type rfl lmL_13 dL_294 [.int (G.2.2.2.2 (Int32.toNatClampNeg (a.1 + (1 : Int32))))] [] rfl rfl (Nat.le_of_ble_eq_true rfl) ⟨rfl, rfl⟩ (fun x h => cC_FL_type _ G.1 C.2.2.2.2.2.2.2.2.2.1 a.2.1 (G.2.2.2.2 (Int32.toNatClampNeg (a.1 + (1 : Int32)))) x h) rfl (fun x1 _ => ?_)
  show Lw v G 297 _ [.int x1.1] x1.2 a.2.2 _
  refine l_aload_n (pc' := 298) C 2 dL_297 rfl rfl ?_
  refine l_aload_n (pc' := 299) C 0 dL_298 rfl rfl ?_
  refine l_iload_n (pc' := 300) C 3 dL_299 rfl rfl ?_
  refine l_iconst (pc' := 301) C dL_300 ki_1 rfl ?_
  refine l_iadd (pc' := 302) C dL_301 rfl ?_
  refine l_sld (pc' := 303) C dL_302 rfl ?_
  refine l_callM (out' := o_w) (fr' := 1) (lo' := 25) (pc' := 306) C FM_type rfl lmL_17 dL_303 [.int (G.2.2.2.2 (Int32.toNatClampNeg (a.1 + (1 : Int32))))] [.int x1.1] rfl rfl (Nat.le_of_ble_eq_true rfl) ⟨rfl, rfl⟩ (fun x h => cM_type _ G.2.1 C.2.2.2.2.2.2.2.2.2.2.1 a.2.2 (G.2.2.2.2 (Int32.toNatClampNeg (a.1 + (1 : Int32)))) x h) rfl (fun x2 _ => ?_)
  show Lw v G 306 _ [.int x2.1, .int x1.1] x1.2 x2.2 _
  refine l_icmp_eq (tgt := 1960) (pc' := 309) C dL_306 rfl rfl ?_ ?_
  · exact w_end C hih _ _ _
  · refine l_iconst (pc' := 310) C dL_309 ki_0 rfl ?_
    exact l_ret0
def law_1 (L : Nat) (xs : Nat → Int32) (ih : Int32 × St × St → Option Int32) (a : Int32 × St × St) : Option Int32 :=
  Option.bind (f_FL_clearText a.2.1) fun x1 =>
  Option.bind (m_clearText a.2.2) fun x2 =>
  if (x1.1 : Int32) = x2.1 then (ih (a.1 + (4 : Int32), x1.2, x2.2)) else (some 0)
set_option maxHeartbeats 4000000 in
theorem w_1 {v : Zl} {G : Gl} (C : Lc v G) (ih : Int32 × St × St → Option Int32) (hih : ∀ a : Int32 × St × St, Lw v G 18 [(0, .ref G.2.2.1), (1, .ref (G.1.1 0)), (2, .ref (G.2.1.1 0)), (3, .int a.1)] [] a.2.1 a.2.2 (ih a)) (a : Int32 × St × St) : Lw v G 311 [(0, .ref G.2.2.1), (1, .ref (G.1.1 0)), (2, .ref (G.2.1.1 0)), (3, .int a.1)] [] a.2.1 a.2.2 (law_1 G.2.2.2.1 G.2.2.2.2 ih a) := by
  unfold law_1
  refine l_aload_n (pc' := 312) C 1 dL_311 rfl rfl ?_
  refine l_callC (out' := o_w) (fr' := 0) (lo' := 0) (pc' := 315) C FC_FL_clearText rfl lmL_18 dL_312 [] [] rfl rfl (Nat.le_of_ble_eq_true rfl) ⟨rfl, rfl⟩ (fun x h => cC_FL_clearText _ G.1 C.2.2.2.2.2.2.2.2.2.1 a.2.1 x h) rfl (fun x1 _ => ?_)
  show Lw v G 315 _ [.int x1.1] x1.2 a.2.2 _
  refine l_aload_n (pc' := 316) C 2 dL_315 rfl rfl ?_
  refine l_callM (out' := o_w) (fr' := 0) (lo' := 0) (pc' := 319) C FM_clearText rfl lmL_22 dL_316 [] [.int x1.1] rfl rfl (Nat.le_of_ble_eq_true rfl) ⟨rfl, rfl⟩ (fun x h => cM_clearText _ G.2.1 C.2.2.2.2.2.2.2.2.2.2.1 a.2.2 x h) rfl (fun x2 _ => ?_)
  show Lw v G 319 _ [.int x2.1, .int x1.1] x1.2 x2.2 _
  refine l_icmp_eq (tgt := 1960) (pc' := 322) C dL_319 rfl rfl ?_ ?_
  · exact w_end C hih _ _ _
  · refine l_iconst (pc' := 323) C dL_322 ki_0 rfl ?_
    exact l_ret0
def law_2 (L : Nat) (xs : Nat → Int32) (ih : Int32 × St × St → Option Int32) (a : Int32 × St × St) : Option Int32 :=
  Option.bind (f_FL_textFault a.2.1) fun x1 =>
  Option.bind (m_textFault a.2.2) fun x2 =>
  if (x1.1 : Int32) = x2.1 then (ih (a.1 + (4 : Int32), x1.2, x2.2)) else (some 0)
set_option maxHeartbeats 4000000 in
theorem w_2 {v : Zl} {G : Gl} (C : Lc v G) (ih : Int32 × St × St → Option Int32) (hih : ∀ a : Int32 × St × St, Lw v G 18 [(0, .ref G.2.2.1), (1, .ref (G.1.1 0)), (2, .ref (G.2.1.1 0)), (3, .int a.1)] [] a.2.1 a.2.2 (ih a)) (a : Int32 × St × St) : Lw v G 324 [(0, .ref G.2.2.1), (1, .ref (G.1.1 0)), (2, .ref (G.2.1.1 0)), (3, .int a.1)] [] a.2.1 a.2.2 (law_2 G.2.2.2.1 G.2.2.2.2 ih a) := by
  unfold law_2
  refine l_aload_n (pc' := 325) C 1 dL_324 rfl rfl ?_
  refine l_callC (out' := o_w) (fr' := 8) (lo' := 170) (pc' := 328) C FC_FL_textFault rfl lmL_23 dL_325 [] [] rfl rfl (Nat.le_of_ble_eq_true rfl) ⟨rfl, rfl⟩ (fun x h => cC_FL_textFault _ G.1 C.2.2.2.2.2.2.2.2.2.1 a.2.1 x h) rfl (fun x1 _ => ?_)
  show Lw v G 328 _ [.int x1.1] x1.2 a.2.2 _
  refine l_aload_n (pc' := 329) C 2 dL_328 rfl rfl ?_
  refine l_callM (out' := o_w) (fr' := 8) (lo' := 179) (pc' := 332) C FM_textFault rfl lmL_26 dL_329 [] [.int x1.1] rfl rfl (Nat.le_of_ble_eq_true rfl) ⟨rfl, rfl⟩ (fun x h => cM_textFault _ G.2.1 C.2.2.2.2.2.2.2.2.2.2.1 a.2.2 x h) rfl (fun x2 _ => ?_)
  show Lw v G 332 _ [.int x2.1, .int x1.1] x1.2 x2.2 _
  refine l_icmp_eq (tgt := 1960) (pc' := 335) C dL_332 rfl rfl ?_ ?_
  · exact w_end C hih _ _ _
  · refine l_iconst (pc' := 336) C dL_335 ki_0 rfl ?_
    exact l_ret0
def law_3 (L : Nat) (xs : Nat → Int32) (ih : Int32 × St × St → Option Int32) (a : Int32 × St × St) : Option Int32 :=
  Gd (Ix (a.1 + (1 : Int32)) L) <|
  Gd (Ix (a.1 + (2 : Int32)) L) <|
  Option.bind (f_FL_addFix a.2.1 (xs (Int32.toNatClampNeg (a.1 + (1 : Int32)))) (xs (Int32.toNatClampNeg (a.1 + (2 : Int32))))) fun x1 =>
  Gd (Ix (a.1 + (1 : Int32)) L) <|
  Gd (Ix (a.1 + (2 : Int32)) L) <|
  Option.bind (m_addFix a.2.2 (xs (Int32.toNatClampNeg (a.1 + (1 : Int32)))) (xs (Int32.toNatClampNeg (a.1 + (2 : Int32))))) fun x2 =>
  if (x1.1 : Int32) = x2.1 then (ih (a.1 + (4 : Int32), x1.2, x2.2)) else (some 0)
set_option maxHeartbeats 4000000 in
theorem w_3 {v : Zl} {G : Gl} (C : Lc v G) (ih : Int32 × St × St → Option Int32) (hih : ∀ a : Int32 × St × St, Lw v G 18 [(0, .ref G.2.2.1), (1, .ref (G.1.1 0)), (2, .ref (G.2.1.1 0)), (3, .int a.1)] [] a.2.1 a.2.2 (ih a)) (a : Int32 × St × St) : Lw v G 337 [(0, .ref G.2.2.1), (1, .ref (G.1.1 0)), (2, .ref (G.2.1.1 0)), (3, .int a.1)] [] a.2.1 a.2.2 (law_3 G.2.2.2.1 G.2.2.2.2 ih a) := by
  unfold law_3
  refine l_aload_n (pc' := 338) C 1 dL_337 rfl rfl ?_
  refine l_aload_n (pc' := 339) C 0 dL_338 rfl rfl ?_
  refine l_iload_n (pc' := 340) C 3 dL_339 rfl rfl ?_
  refine l_iconst (pc' := 341) C dL_340 ki_1 rfl ?_
  refine l_iadd (pc' := 342) C dL_341 rfl ?_
  refine l_sld (pc' := 343) C dL_342 rfl ?_
  refine l_aload_n (pc' := 344) C 0 dL_343 rfl rfl ?_
  refine l_iload_n (pc' := 345) C 3 dL_344 rfl rfl ?_
  refine l_iconst (pc' := 346) C dL_345 ki_2 rfl ?_
  refine l_iadd (pc' := 347) C dL_346 rfl ?_
  refine l_sld (pc' := 348) C dL_347 rfl ?_
  refine l_callC (out' := o_w) (fr' := 1) (lo' := 23) (pc' := 351) C FC_FL_addFix rfl lmL_27 dL_348 [.int (G.2.2.2.2 (Int32.toNatClampNeg (a.1 + (1 : Int32)))), .int (G.2.2.2.2 (Int32.toNatClampNeg (a.1 + (2 : Int32))))] [] rfl rfl (Nat.le_of_ble_eq_true rfl) ⟨rfl, rfl⟩ (fun x h => cC_FL_addFix _ G.1 C.2.2.2.2.2.2.2.2.2.1 a.2.1 (G.2.2.2.2 (Int32.toNatClampNeg (a.1 + (1 : Int32)))) (G.2.2.2.2 (Int32.toNatClampNeg (a.1 + (2 : Int32)))) x h) rfl (fun x1 _ => ?_)
  show Lw v G 351 _ [.int x1.1] x1.2 a.2.2 _
  refine l_aload_n (pc' := 352) C 2 dL_351 rfl rfl ?_
  refine l_aload_n (pc' := 353) C 0 dL_352 rfl rfl ?_
  refine l_iload_n (pc' := 354) C 3 dL_353 rfl rfl ?_
  refine l_iconst (pc' := 355) C dL_354 ki_1 rfl ?_
  refine l_iadd (pc' := 356) C dL_355 rfl ?_
  refine l_sld (pc' := 357) C dL_356 rfl ?_
  refine l_aload_n (pc' := 358) C 0 dL_357 rfl rfl ?_
  refine l_iload_n (pc' := 359) C 3 dL_358 rfl rfl ?_
  refine l_iconst (pc' := 360) C dL_359 ki_2 rfl ?_
  refine l_iadd (pc' := 361) C dL_360 rfl ?_
  refine l_sld (pc' := 362) C dL_361 rfl ?_
  refine l_callM (out' := o_w) (fr' := 1) (lo' := 25) (pc' := 365) C FM_addFix rfl lmL_31 dL_362 [.int (G.2.2.2.2 (Int32.toNatClampNeg (a.1 + (1 : Int32)))), .int (G.2.2.2.2 (Int32.toNatClampNeg (a.1 + (2 : Int32))))] [.int x1.1] rfl rfl (Nat.le_of_ble_eq_true rfl) ⟨rfl, rfl⟩ (fun x h => cM_addFix _ G.2.1 C.2.2.2.2.2.2.2.2.2.2.1 a.2.2 (G.2.2.2.2 (Int32.toNatClampNeg (a.1 + (1 : Int32)))) (G.2.2.2.2 (Int32.toNatClampNeg (a.1 + (2 : Int32)))) x h) rfl (fun x2 _ => ?_)
  show Lw v G 365 _ [.int x2.1, .int x1.1] x1.2 x2.2 _
  refine l_icmp_eq (tgt := 1960) (pc' := 368) C dL_365 rfl rfl ?_ ?_
  · exact w_end C hih _ _ _
  · refine l_iconst (pc' := 369) C dL_368 ki_0 rfl ?_
    exact l_ret0
def law_4 (L : Nat) (xs : Nat → Int32) (ih : Int32 × St × St → Option Int32) (a : Int32 × St × St) : Option Int32 :=
  Gd (Ix (a.1 + (1 : Int32)) L) <|
  Gd (Ix (a.1 + (2 : Int32)) L) <|
  Option.bind (f_FL_setWind a.2.1 (xs (Int32.toNatClampNeg (a.1 + (1 : Int32)))) (xs (Int32.toNatClampNeg (a.1 + (2 : Int32))))) fun x1 =>
  Gd (Ix (a.1 + (1 : Int32)) L) <|
  Gd (Ix (a.1 + (2 : Int32)) L) <|
  Option.bind (m_setWind a.2.2 (xs (Int32.toNatClampNeg (a.1 + (1 : Int32)))) (xs (Int32.toNatClampNeg (a.1 + (2 : Int32))))) fun x2 =>
  if (x1.1 : Int32) = x2.1 then (ih (a.1 + (4 : Int32), x1.2, x2.2)) else (some 0)
set_option maxHeartbeats 4000000 in
theorem w_4 {v : Zl} {G : Gl} (C : Lc v G) (ih : Int32 × St × St → Option Int32) (hih : ∀ a : Int32 × St × St, Lw v G 18 [(0, .ref G.2.2.1), (1, .ref (G.1.1 0)), (2, .ref (G.2.1.1 0)), (3, .int a.1)] [] a.2.1 a.2.2 (ih a)) (a : Int32 × St × St) : Lw v G 370 [(0, .ref G.2.2.1), (1, .ref (G.1.1 0)), (2, .ref (G.2.1.1 0)), (3, .int a.1)] [] a.2.1 a.2.2 (law_4 G.2.2.2.1 G.2.2.2.2 ih a) := by
  unfold law_4
  refine l_aload_n (pc' := 371) C 1 dL_370 rfl rfl ?_
  refine l_aload_n (pc' := 372) C 0 dL_371 rfl rfl ?_
  refine l_iload_n (pc' := 373) C 3 dL_372 rfl rfl ?_
  refine l_iconst (pc' := 374) C dL_373 ki_1 rfl ?_
  refine l_iadd (pc' := 375) C dL_374 rfl ?_
  refine l_sld (pc' := 376) C dL_375 rfl ?_
  refine l_aload_n (pc' := 377) C 0 dL_376 rfl rfl ?_
  refine l_iload_n (pc' := 378) C 3 dL_377 rfl rfl ?_
  refine l_iconst (pc' := 379) C dL_378 ki_2 rfl ?_
  refine l_iadd (pc' := 380) C dL_379 rfl ?_
  refine l_sld (pc' := 381) C dL_380 rfl ?_
  refine l_callC (out' := o_w) (fr' := 7) (lo' := 171) (pc' := 384) C FC_FL_setWind rfl lmL_32 dL_381 [.int (G.2.2.2.2 (Int32.toNatClampNeg (a.1 + (1 : Int32)))), .int (G.2.2.2.2 (Int32.toNatClampNeg (a.1 + (2 : Int32))))] [] rfl rfl (Nat.le_of_ble_eq_true rfl) ⟨rfl, rfl⟩ (fun x h => cC_FL_setWind _ G.1 C.2.2.2.2.2.2.2.2.2.1 a.2.1 (G.2.2.2.2 (Int32.toNatClampNeg (a.1 + (1 : Int32)))) (G.2.2.2.2 (Int32.toNatClampNeg (a.1 + (2 : Int32)))) x h) rfl (fun x1 _ => ?_)
  show Lw v G 384 _ [.int x1.1] x1.2 a.2.2 _
  refine l_aload_n (pc' := 385) C 2 dL_384 rfl rfl ?_
  refine l_aload_n (pc' := 386) C 0 dL_385 rfl rfl ?_
  refine l_iload_n (pc' := 387) C 3 dL_386 rfl rfl ?_
  refine l_iconst (pc' := 388) C dL_387 ki_1 rfl ?_
  refine l_iadd (pc' := 389) C dL_388 rfl ?_
  refine l_sld (pc' := 390) C dL_389 rfl ?_
  refine l_aload_n (pc' := 391) C 0 dL_390 rfl rfl ?_
  refine l_iload_n (pc' := 392) C 3 dL_391 rfl rfl ?_
  refine l_iconst (pc' := 393) C dL_392 ki_2 rfl ?_
  refine l_iadd (pc' := 394) C dL_393 rfl ?_
  refine l_sld (pc' := 395) C dL_394 rfl ?_
  refine l_callM (out' := o_w) (fr' := 9) (lo' := 219) (pc' := 398) C FM_setWind rfl lmL_35 dL_395 [.int (G.2.2.2.2 (Int32.toNatClampNeg (a.1 + (1 : Int32)))), .int (G.2.2.2.2 (Int32.toNatClampNeg (a.1 + (2 : Int32))))] [.int x1.1] rfl rfl (Nat.le_of_ble_eq_true rfl) ⟨rfl, rfl⟩ (fun x h => cM_setWind _ G.2.1 C.2.2.2.2.2.2.2.2.2.2.1 a.2.2 (G.2.2.2.2 (Int32.toNatClampNeg (a.1 + (1 : Int32)))) (G.2.2.2.2 (Int32.toNatClampNeg (a.1 + (2 : Int32)))) x h) rfl (fun x2 _ => ?_)
  show Lw v G 398 _ [.int x2.1, .int x1.1] x1.2 x2.2 _
  refine l_icmp_eq (tgt := 1960) (pc' := 401) C dL_398 rfl rfl ?_ ?_
  · exact w_end C hih _ _ _
  · refine l_iconst (pc' := 402) C dL_401 ki_0 rfl ?_
    exact l_ret0
def law_5 (L : Nat) (xs : Nat → Int32) (ih : Int32 × St × St → Option Int32) (a : Int32 × St × St) : Option Int32 :=
  Gd (Ix (a.1 + (1 : Int32)) L) <|
  Gd (Ix (a.1 + (2 : Int32)) L) <|
  Option.bind (f_FL_setCruise a.2.1 (xs (Int32.toNatClampNeg (a.1 + (1 : Int32)))) (xs (Int32.toNatClampNeg (a.1 + (2 : Int32))))) fun x1 =>
  Gd (Ix (a.1 + (1 : Int32)) L) <|
  Gd (Ix (a.1 + (2 : Int32)) L) <|
  Option.bind (m_setCruise a.2.2 (xs (Int32.toNatClampNeg (a.1 + (1 : Int32)))) (xs (Int32.toNatClampNeg (a.1 + (2 : Int32))))) fun x2 =>
  if (x1.1 : Int32) = x2.1 then (ih (a.1 + (4 : Int32), x1.2, x2.2)) else (some 0)
set_option maxHeartbeats 4000000 in
theorem w_5 {v : Zl} {G : Gl} (C : Lc v G) (ih : Int32 × St × St → Option Int32) (hih : ∀ a : Int32 × St × St, Lw v G 18 [(0, .ref G.2.2.1), (1, .ref (G.1.1 0)), (2, .ref (G.2.1.1 0)), (3, .int a.1)] [] a.2.1 a.2.2 (ih a)) (a : Int32 × St × St) : Lw v G 403 [(0, .ref G.2.2.1), (1, .ref (G.1.1 0)), (2, .ref (G.2.1.1 0)), (3, .int a.1)] [] a.2.1 a.2.2 (law_5 G.2.2.2.1 G.2.2.2.2 ih a) := by
  unfold law_5
  refine l_aload_n (pc' := 404) C 1 dL_403 rfl rfl ?_
  refine l_aload_n (pc' := 405) C 0 dL_404 rfl rfl ?_
  refine l_iload_n (pc' := 406) C 3 dL_405 rfl rfl ?_
  refine l_iconst (pc' := 407) C dL_406 ki_1 rfl ?_
  refine l_iadd (pc' := 408) C dL_407 rfl ?_
  refine l_sld (pc' := 409) C dL_408 rfl ?_
  refine l_aload_n (pc' := 410) C 0 dL_409 rfl rfl ?_
  refine l_iload_n (pc' := 411) C 3 dL_410 rfl rfl ?_
  refine l_iconst (pc' := 412) C dL_411 ki_2 rfl ?_
  refine l_iadd (pc' := 413) C dL_412 rfl ?_
  refine l_sld (pc' := 414) C dL_413 rfl ?_
  refine l_callC (out' := o_w) (fr' := 7) (lo' := 171) (pc' := 417) C FC_FL_setCruise rfl lmL_36 dL_414 [.int (G.2.2.2.2 (Int32.toNatClampNeg (a.1 + (1 : Int32)))), .int (G.2.2.2.2 (Int32.toNatClampNeg (a.1 + (2 : Int32))))] [] rfl rfl (Nat.le_of_ble_eq_true rfl) ⟨rfl, rfl⟩ (fun x h => cC_FL_setCruise _ G.1 C.2.2.2.2.2.2.2.2.2.1 a.2.1 (G.2.2.2.2 (Int32.toNatClampNeg (a.1 + (1 : Int32)))) (G.2.2.2.2 (Int32.toNatClampNeg (a.1 + (2 : Int32)))) x h) rfl (fun x1 _ => ?_)
  show Lw v G 417 _ [.int x1.1] x1.2 a.2.2 _
  refine l_aload_n (pc' := 418) C 2 dL_417 rfl rfl ?_
  refine l_aload_n (pc' := 419) C 0 dL_418 rfl rfl ?_
  refine l_iload_n (pc' := 420) C 3 dL_419 rfl rfl ?_
  refine l_iconst (pc' := 421) C dL_420 ki_1 rfl ?_
  refine l_iadd (pc' := 422) C dL_421 rfl ?_
  refine l_sld (pc' := 423) C dL_422 rfl ?_
  refine l_aload_n (pc' := 424) C 0 dL_423 rfl rfl ?_
  refine l_iload_n (pc' := 425) C 3 dL_424 rfl rfl ?_
  refine l_iconst (pc' := 426) C dL_425 ki_2 rfl ?_
  refine l_iadd (pc' := 427) C dL_426 rfl ?_
  refine l_sld (pc' := 428) C dL_427 rfl ?_
  refine l_callM (out' := o_w) (fr' := 9) (lo' := 219) (pc' := 431) C FM_setCruise rfl lmL_39 dL_428 [.int (G.2.2.2.2 (Int32.toNatClampNeg (a.1 + (1 : Int32)))), .int (G.2.2.2.2 (Int32.toNatClampNeg (a.1 + (2 : Int32))))] [.int x1.1] rfl rfl (Nat.le_of_ble_eq_true rfl) ⟨rfl, rfl⟩ (fun x h => cM_setCruise _ G.2.1 C.2.2.2.2.2.2.2.2.2.2.1 a.2.2 (G.2.2.2.2 (Int32.toNatClampNeg (a.1 + (1 : Int32)))) (G.2.2.2.2 (Int32.toNatClampNeg (a.1 + (2 : Int32)))) x h) rfl (fun x2 _ => ?_)
  show Lw v G 431 _ [.int x2.1, .int x1.1] x1.2 x2.2 _
  refine l_icmp_eq (tgt := 1960) (pc' := 434) C dL_431 rfl rfl ?_ ?_
  · exact w_end C hih _ _ _
  · refine l_iconst (pc' := 435) C dL_434 ki_0 rfl ?_
    exact l_ret0
def law_6 (L : Nat) (xs : Nat → Int32) (ih : Int32 × St × St → Option Int32) (a : Int32 × St × St) : Option Int32 :=
  Gd (Ix (a.1 + (1 : Int32)) L) <|
  Gd (Ix (a.1 + (2 : Int32)) L) <|
  Gd (Ix (a.1 + (3 : Int32)) L) <|
  Option.bind (f_FL_setGradients a.2.1 (xs (Int32.toNatClampNeg (a.1 + (1 : Int32)))) (xs (Int32.toNatClampNeg (a.1 + (2 : Int32)))) (xs (Int32.toNatClampNeg (a.1 + (3 : Int32))))) fun x1 =>
  Gd (Ix (a.1 + (1 : Int32)) L) <|
  Gd (Ix (a.1 + (2 : Int32)) L) <|
  Gd (Ix (a.1 + (3 : Int32)) L) <|
  Option.bind (m_setGradients a.2.2 (xs (Int32.toNatClampNeg (a.1 + (1 : Int32)))) (xs (Int32.toNatClampNeg (a.1 + (2 : Int32)))) (xs (Int32.toNatClampNeg (a.1 + (3 : Int32))))) fun x2 =>
  if (x1.1 : Int32) = x2.1 then (ih (a.1 + (4 : Int32), x1.2, x2.2)) else (some 0)
set_option maxHeartbeats 4000000 in
theorem w_6 {v : Zl} {G : Gl} (C : Lc v G) (ih : Int32 × St × St → Option Int32) (hih : ∀ a : Int32 × St × St, Lw v G 18 [(0, .ref G.2.2.1), (1, .ref (G.1.1 0)), (2, .ref (G.2.1.1 0)), (3, .int a.1)] [] a.2.1 a.2.2 (ih a)) (a : Int32 × St × St) : Lw v G 436 [(0, .ref G.2.2.1), (1, .ref (G.1.1 0)), (2, .ref (G.2.1.1 0)), (3, .int a.1)] [] a.2.1 a.2.2 (law_6 G.2.2.2.1 G.2.2.2.2 ih a) := by
  unfold law_6
  refine l_aload_n (pc' := 437) C 1 dL_436 rfl rfl ?_
  refine l_aload_n (pc' := 438) C 0 dL_437 rfl rfl ?_
  refine l_iload_n (pc' := 439) C 3 dL_438 rfl rfl ?_
  refine l_iconst (pc' := 440) C dL_439 ki_1 rfl ?_
  refine l_iadd (pc' := 441) C dL_440 rfl ?_
  refine l_sld (pc' := 442) C dL_441 rfl ?_
  refine l_aload_n (pc' := 443) C 0 dL_442 rfl rfl ?_
  refine l_iload_n (pc' := 444) C 3 dL_443 rfl rfl ?_
  refine l_iconst (pc' := 445) C dL_444 ki_2 rfl ?_
  refine l_iadd (pc' := 446) C dL_445 rfl ?_
  refine l_sld (pc' := 447) C dL_446 rfl ?_
  refine l_aload_n (pc' := 448) C 0 dL_447 rfl rfl ?_
  refine l_iload_n (pc' := 449) C 3 dL_448 rfl rfl ?_
  refine l_iconst (pc' := 450) C dL_449 ki_3 rfl ?_
  refine l_iadd (pc' := 451) C dL_450 rfl ?_
  refine l_sld (pc' := 452) C dL_451 rfl ?_
  refine l_callC (out' := o_w) (fr' := 7) (lo' := 171) (pc' := 455) C FC_FL_setGradients rfl lmL_40 dL_452 [.int (G.2.2.2.2 (Int32.toNatClampNeg (a.1 + (1 : Int32)))), .int (G.2.2.2.2 (Int32.toNatClampNeg (a.1 + (2 : Int32)))), .int (G.2.2.2.2 (Int32.toNatClampNeg (a.1 + (3 : Int32))))] [] rfl rfl (Nat.le_of_ble_eq_true rfl) ⟨rfl, rfl⟩ (fun x h => cC_FL_setGradients _ G.1 C.2.2.2.2.2.2.2.2.2.1 a.2.1 (G.2.2.2.2 (Int32.toNatClampNeg (a.1 + (1 : Int32)))) (G.2.2.2.2 (Int32.toNatClampNeg (a.1 + (2 : Int32)))) (G.2.2.2.2 (Int32.toNatClampNeg (a.1 + (3 : Int32)))) x h) rfl (fun x1 _ => ?_)
  show Lw v G 455 _ [.int x1.1] x1.2 a.2.2 _
  refine l_aload_n (pc' := 456) C 2 dL_455 rfl rfl ?_
  refine l_aload_n (pc' := 457) C 0 dL_456 rfl rfl ?_
  refine l_iload_n (pc' := 458) C 3 dL_457 rfl rfl ?_
  refine l_iconst (pc' := 459) C dL_458 ki_1 rfl ?_
  refine l_iadd (pc' := 460) C dL_459 rfl ?_
  refine l_sld (pc' := 461) C dL_460 rfl ?_
  refine l_aload_n (pc' := 462) C 0 dL_461 rfl rfl ?_
  refine l_iload_n (pc' := 463) C 3 dL_462 rfl rfl ?_
  refine l_iconst (pc' := 464) C dL_463 ki_2 rfl ?_
  refine l_iadd (pc' := 465) C dL_464 rfl ?_
  refine l_sld (pc' := 466) C dL_465 rfl ?_
  refine l_aload_n (pc' := 467) C 0 dL_466 rfl rfl ?_
  refine l_iload_n (pc' := 468) C 3 dL_467 rfl rfl ?_
  refine l_iconst (pc' := 469) C dL_468 ki_3 rfl ?_
  refine l_iadd (pc' := 470) C dL_469 rfl ?_
  refine l_sld (pc' := 471) C dL_470 rfl ?_
  refine l_callM (out' := o_w) (fr' := 9) (lo' := 219) (pc' := 474) C FM_setGradients rfl lmL_44 dL_471 [.int (G.2.2.2.2 (Int32.toNatClampNeg (a.1 + (1 : Int32)))), .int (G.2.2.2.2 (Int32.toNatClampNeg (a.1 + (2 : Int32)))), .int (G.2.2.2.2 (Int32.toNatClampNeg (a.1 + (3 : Int32))))] [.int x1.1] rfl rfl (Nat.le_of_ble_eq_true rfl) ⟨rfl, rfl⟩ (fun x h => cM_setGradients _ G.2.1 C.2.2.2.2.2.2.2.2.2.2.1 a.2.2 (G.2.2.2.2 (Int32.toNatClampNeg (a.1 + (1 : Int32)))) (G.2.2.2.2 (Int32.toNatClampNeg (a.1 + (2 : Int32)))) (G.2.2.2.2 (Int32.toNatClampNeg (a.1 + (3 : Int32)))) x h) rfl (fun x2 _ => ?_)
  show Lw v G 474 _ [.int x2.1, .int x1.1] x1.2 x2.2 _
  refine l_icmp_eq (tgt := 1960) (pc' := 477) C dL_474 rfl rfl ?_ ?_
  · exact w_end C hih _ _ _
  · refine l_iconst (pc' := 478) C dL_477 ki_0 rfl ?_
    exact l_ret0
def law_7 (L : Nat) (xs : Nat → Int32) (ih : Int32 × St × St → Option Int32) (a : Int32 × St × St) : Option Int32 :=
  Gd (Ix (a.1 + (1 : Int32)) L) <|
  Gd (Ix (a.1 + (2 : Int32)) L) <|
  Option.bind (f_FL_setEnds a.2.1 (xs (Int32.toNatClampNeg (a.1 + (1 : Int32)))) (xs (Int32.toNatClampNeg (a.1 + (2 : Int32))))) fun x1 =>
  Gd (Ix (a.1 + (1 : Int32)) L) <|
  Gd (Ix (a.1 + (2 : Int32)) L) <|
  Option.bind (m_setEnds a.2.2 (xs (Int32.toNatClampNeg (a.1 + (1 : Int32)))) (xs (Int32.toNatClampNeg (a.1 + (2 : Int32))))) fun x2 =>
  if (x1.1 : Int32) = x2.1 then (ih (a.1 + (4 : Int32), x1.2, x2.2)) else (some 0)
set_option maxHeartbeats 4000000 in
theorem w_7 {v : Zl} {G : Gl} (C : Lc v G) (ih : Int32 × St × St → Option Int32) (hih : ∀ a : Int32 × St × St, Lw v G 18 [(0, .ref G.2.2.1), (1, .ref (G.1.1 0)), (2, .ref (G.2.1.1 0)), (3, .int a.1)] [] a.2.1 a.2.2 (ih a)) (a : Int32 × St × St) : Lw v G 479 [(0, .ref G.2.2.1), (1, .ref (G.1.1 0)), (2, .ref (G.2.1.1 0)), (3, .int a.1)] [] a.2.1 a.2.2 (law_7 G.2.2.2.1 G.2.2.2.2 ih a) := by
  unfold law_7
  refine l_aload_n (pc' := 480) C 1 dL_479 rfl rfl ?_
  refine l_aload_n (pc' := 481) C 0 dL_480 rfl rfl ?_
  refine l_iload_n (pc' := 482) C 3 dL_481 rfl rfl ?_
  refine l_iconst (pc' := 483) C dL_482 ki_1 rfl ?_
  refine l_iadd (pc' := 484) C dL_483 rfl ?_
  refine l_sld (pc' := 485) C dL_484 rfl ?_
  refine l_aload_n (pc' := 486) C 0 dL_485 rfl rfl ?_
  refine l_iload_n (pc' := 487) C 3 dL_486 rfl rfl ?_
  refine l_iconst (pc' := 488) C dL_487 ki_2 rfl ?_
  refine l_iadd (pc' := 489) C dL_488 rfl ?_
  refine l_sld (pc' := 490) C dL_489 rfl ?_
  refine l_callC (out' := o_w) (fr' := 7) (lo' := 171) (pc' := 493) C FC_FL_setEnds rfl lmL_45 dL_490 [.int (G.2.2.2.2 (Int32.toNatClampNeg (a.1 + (1 : Int32)))), .int (G.2.2.2.2 (Int32.toNatClampNeg (a.1 + (2 : Int32))))] [] rfl rfl (Nat.le_of_ble_eq_true rfl) ⟨rfl, rfl⟩ (fun x h => cC_FL_setEnds _ G.1 C.2.2.2.2.2.2.2.2.2.1 a.2.1 (G.2.2.2.2 (Int32.toNatClampNeg (a.1 + (1 : Int32)))) (G.2.2.2.2 (Int32.toNatClampNeg (a.1 + (2 : Int32)))) x h) rfl (fun x1 _ => ?_)
  show Lw v G 493 _ [.int x1.1] x1.2 a.2.2 _
  refine l_aload_n (pc' := 494) C 2 dL_493 rfl rfl ?_
  refine l_aload_n (pc' := 495) C 0 dL_494 rfl rfl ?_
  refine l_iload_n (pc' := 496) C 3 dL_495 rfl rfl ?_
  refine l_iconst (pc' := 497) C dL_496 ki_1 rfl ?_
  refine l_iadd (pc' := 498) C dL_497 rfl ?_
  refine l_sld (pc' := 499) C dL_498 rfl ?_
  refine l_aload_n (pc' := 500) C 0 dL_499 rfl rfl ?_
  refine l_iload_n (pc' := 501) C 3 dL_500 rfl rfl ?_
  refine l_iconst (pc' := 502) C dL_501 ki_2 rfl ?_
  refine l_iadd (pc' := 503) C dL_502 rfl ?_
  refine l_sld (pc' := 504) C dL_503 rfl ?_
  refine l_callM (out' := o_w) (fr' := 9) (lo' := 219) (pc' := 507) C FM_setEnds rfl lmL_48 dL_504 [.int (G.2.2.2.2 (Int32.toNatClampNeg (a.1 + (1 : Int32)))), .int (G.2.2.2.2 (Int32.toNatClampNeg (a.1 + (2 : Int32))))] [.int x1.1] rfl rfl (Nat.le_of_ble_eq_true rfl) ⟨rfl, rfl⟩ (fun x h => cM_setEnds _ G.2.1 C.2.2.2.2.2.2.2.2.2.2.1 a.2.2 (G.2.2.2.2 (Int32.toNatClampNeg (a.1 + (1 : Int32)))) (G.2.2.2.2 (Int32.toNatClampNeg (a.1 + (2 : Int32)))) x h) rfl (fun x2 _ => ?_)
  show Lw v G 507 _ [.int x2.1, .int x1.1] x1.2 x2.2 _
  refine l_icmp_eq (tgt := 1960) (pc' := 510) C dL_507 rfl rfl ?_ ?_
  · exact w_end C hih _ _ _
  · refine l_iconst (pc' := 511) C dL_510 ki_0 rfl ?_
    exact l_ret0
def law_8 (L : Nat) (xs : Nat → Int32) (ih : Int32 × St × St → Option Int32) (a : Int32 × St × St) : Option Int32 :=
  Option.bind (f_FL_load a.2.1) fun x1 =>
  Option.bind (m_load a.2.2) fun x2 =>
  if (x1.1 : Int32) = x2.1 then (ih (a.1 + (4 : Int32), x1.2, x2.2)) else (some 0)
set_option maxHeartbeats 4000000 in
theorem w_8 {v : Zl} {G : Gl} (C : Lc v G) (ih : Int32 × St × St → Option Int32) (hih : ∀ a : Int32 × St × St, Lw v G 18 [(0, .ref G.2.2.1), (1, .ref (G.1.1 0)), (2, .ref (G.2.1.1 0)), (3, .int a.1)] [] a.2.1 a.2.2 (ih a)) (a : Int32 × St × St) : Lw v G 512 [(0, .ref G.2.2.1), (1, .ref (G.1.1 0)), (2, .ref (G.2.1.1 0)), (3, .int a.1)] [] a.2.1 a.2.2 (law_8 G.2.2.2.1 G.2.2.2.2 ih a) := by
  unfold law_8
  refine l_aload_n (pc' := 513) C 1 dL_512 rfl rfl ?_
  refine l_callC (out' := o_w) (fr' := 8) (lo' := 170) (pc' := 516) C FC_FL_load rfl lmL_49 dL_513 [] [] rfl rfl (Nat.le_of_ble_eq_true rfl) ⟨rfl, rfl⟩ (fun x h => cC_FL_load _ G.1 C.2.2.2.2.2.2.2.2.2.1 a.2.1 x h) rfl (fun x1 _ => ?_)
  show Lw v G 516 _ [.int x1.1] x1.2 a.2.2 _
  refine l_aload_n (pc' := 517) C 2 dL_516 rfl rfl ?_
  refine l_callM (out' := o_w) (fr' := 8) (lo' := 179) (pc' := 520) C FM_load rfl lmL_52 dL_517 [] [.int x1.1] rfl rfl (Nat.le_of_ble_eq_true rfl) ⟨rfl, rfl⟩ (fun x h => cM_load _ G.2.1 C.2.2.2.2.2.2.2.2.2.2.1 a.2.2 x h) rfl (fun x2 _ => ?_)
  show Lw v G 520 _ [.int x2.1, .int x1.1] x1.2 x2.2 _
  refine l_icmp_eq (tgt := 1960) (pc' := 523) C dL_520 rfl rfl ?_ ?_
  · exact w_end C hih _ _ _
  · refine l_iconst (pc' := 524) C dL_523 ki_0 rfl ?_
    exact l_ret0
def law_9 (L : Nat) (xs : Nat → Int32) (ih : Int32 × St × St → Option Int32) (a : Int32 × St × St) : Option Int32 :=
  Gd (Ix (a.1 + (1 : Int32)) L) <|
  Option.bind (f_FL_insert a.2.1 (xs (Int32.toNatClampNeg (a.1 + (1 : Int32))))) fun x1 =>
  Gd (Ix (a.1 + (1 : Int32)) L) <|
  Option.bind (m_insert a.2.2 (xs (Int32.toNatClampNeg (a.1 + (1 : Int32))))) fun x2 =>
  if (x1.1 : Int32) = x2.1 then (ih (a.1 + (4 : Int32), x1.2, x2.2)) else (some 0)
set_option maxHeartbeats 4000000 in
theorem w_9 {v : Zl} {G : Gl} (C : Lc v G) (ih : Int32 × St × St → Option Int32) (hih : ∀ a : Int32 × St × St, Lw v G 18 [(0, .ref G.2.2.1), (1, .ref (G.1.1 0)), (2, .ref (G.2.1.1 0)), (3, .int a.1)] [] a.2.1 a.2.2 (ih a)) (a : Int32 × St × St) : Lw v G 525 [(0, .ref G.2.2.1), (1, .ref (G.1.1 0)), (2, .ref (G.2.1.1 0)), (3, .int a.1)] [] a.2.1 a.2.2 (law_9 G.2.2.2.1 G.2.2.2.2 ih a) := by
  unfold law_9
  refine l_aload_n (pc' := 526) C 1 dL_525 rfl rfl ?_
  refine l_aload_n (pc' := 527) C 0 dL_526 rfl rfl ?_
  refine l_iload_n (pc' := 528) C 3 dL_527 rfl rfl ?_
  refine l_iconst (pc' := 529) C dL_528 ki_1 rfl ?_
  refine l_iadd (pc' := 530) C dL_529 rfl ?_
  refine l_sld (pc' := 531) C dL_530 rfl ?_
  refine l_callC (out' := o_w) (fr' := 8) (lo' := 170) (pc' := 534) C FC_FL_insert rfl lmL_53 dL_531 [.int (G.2.2.2.2 (Int32.toNatClampNeg (a.1 + (1 : Int32))))] [] rfl rfl (Nat.le_of_ble_eq_true rfl) ⟨rfl, rfl⟩ (fun x h => cC_FL_insert _ G.1 C.2.2.2.2.2.2.2.2.2.1 a.2.1 (G.2.2.2.2 (Int32.toNatClampNeg (a.1 + (1 : Int32)))) x h) rfl (fun x1 _ => ?_)
  show Lw v G 534 _ [.int x1.1] x1.2 a.2.2 _
  refine l_aload_n (pc' := 535) C 2 dL_534 rfl rfl ?_
  refine l_aload_n (pc' := 536) C 0 dL_535 rfl rfl ?_
  refine l_iload_n (pc' := 537) C 3 dL_536 rfl rfl ?_
  refine l_iconst (pc' := 538) C dL_537 ki_1 rfl ?_
  refine l_iadd (pc' := 539) C dL_538 rfl ?_
  refine l_sld (pc' := 540) C dL_539 rfl ?_
  refine l_callM (out' := o_w) (fr' := 8) (lo' := 179) (pc' := 543) C FM_insert rfl lmL_56 dL_540 [.int (G.2.2.2.2 (Int32.toNatClampNeg (a.1 + (1 : Int32))))] [.int x1.1] rfl rfl (Nat.le_of_ble_eq_true rfl) ⟨rfl, rfl⟩ (fun x h => cM_insert _ G.2.1 C.2.2.2.2.2.2.2.2.2.2.1 a.2.2 (G.2.2.2.2 (Int32.toNatClampNeg (a.1 + (1 : Int32)))) x h) rfl (fun x2 _ => ?_)
  show Lw v G 543 _ [.int x2.1, .int x1.1] x1.2 x2.2 _
  refine l_icmp_eq (tgt := 1960) (pc' := 546) C dL_543 rfl rfl ?_ ?_
  · exact w_end C hih _ _ _
  · refine l_iconst (pc' := 547) C dL_546 ki_0 rfl ?_
    exact l_ret0
def law_10 (L : Nat) (xs : Nat → Int32) (ih : Int32 × St × St → Option Int32) (a : Int32 × St × St) : Option Int32 :=
  Gd (Ix (a.1 + (1 : Int32)) L) <|
  Option.bind (f_FL_delete a.2.1 (xs (Int32.toNatClampNeg (a.1 + (1 : Int32))))) fun x1 =>
  Gd (Ix (a.1 + (1 : Int32)) L) <|
  Option.bind (m_delete a.2.2 (xs (Int32.toNatClampNeg (a.1 + (1 : Int32))))) fun x2 =>
  if (x1.1 : Int32) = x2.1 then (ih (a.1 + (4 : Int32), x1.2, x2.2)) else (some 0)
set_option maxHeartbeats 4000000 in
theorem w_10 {v : Zl} {G : Gl} (C : Lc v G) (ih : Int32 × St × St → Option Int32) (hih : ∀ a : Int32 × St × St, Lw v G 18 [(0, .ref G.2.2.1), (1, .ref (G.1.1 0)), (2, .ref (G.2.1.1 0)), (3, .int a.1)] [] a.2.1 a.2.2 (ih a)) (a : Int32 × St × St) : Lw v G 548 [(0, .ref G.2.2.1), (1, .ref (G.1.1 0)), (2, .ref (G.2.1.1 0)), (3, .int a.1)] [] a.2.1 a.2.2 (law_10 G.2.2.2.1 G.2.2.2.2 ih a) := by
  unfold law_10
  refine l_aload_n (pc' := 549) C 1 dL_548 rfl rfl ?_
  refine l_aload_n (pc' := 550) C 0 dL_549 rfl rfl ?_
  refine l_iload_n (pc' := 551) C 3 dL_550 rfl rfl ?_
  refine l_iconst (pc' := 552) C dL_551 ki_1 rfl ?_
  refine l_iadd (pc' := 553) C dL_552 rfl ?_
  refine l_sld (pc' := 554) C dL_553 rfl ?_
  refine l_callC (out' := o_w) (fr' := 4) (lo' := 92) (pc' := 557) C FC_FL_delete rfl lmL_57 dL_554 [.int (G.2.2.2.2 (Int32.toNatClampNeg (a.1 + (1 : Int32))))] [] rfl rfl (Nat.le_of_ble_eq_true rfl) ⟨rfl, rfl⟩ (fun x h => cC_FL_delete _ G.1 C.2.2.2.2.2.2.2.2.2.1 a.2.1 (G.2.2.2.2 (Int32.toNatClampNeg (a.1 + (1 : Int32)))) x h) rfl (fun x1 _ => ?_)
  show Lw v G 557 _ [.int x1.1] x1.2 a.2.2 _
  refine l_aload_n (pc' := 558) C 2 dL_557 rfl rfl ?_
  refine l_aload_n (pc' := 559) C 0 dL_558 rfl rfl ?_
  refine l_iload_n (pc' := 560) C 3 dL_559 rfl rfl ?_
  refine l_iconst (pc' := 561) C dL_560 ki_1 rfl ?_
  refine l_iadd (pc' := 562) C dL_561 rfl ?_
  refine l_sld (pc' := 563) C dL_562 rfl ?_
  refine l_callM (out' := o_w) (fr' := 2) (lo' := 47) (pc' := 566) C FM_delete rfl lmL_60 dL_563 [.int (G.2.2.2.2 (Int32.toNatClampNeg (a.1 + (1 : Int32))))] [.int x1.1] rfl rfl (Nat.le_of_ble_eq_true rfl) ⟨rfl, rfl⟩ (fun x h => cM_delete _ G.2.1 C.2.2.2.2.2.2.2.2.2.2.1 a.2.2 (G.2.2.2.2 (Int32.toNatClampNeg (a.1 + (1 : Int32)))) x h) rfl (fun x2 _ => ?_)
  show Lw v G 566 _ [.int x2.1, .int x1.1] x1.2 x2.2 _
  refine l_icmp_eq (tgt := 1960) (pc' := 569) C dL_566 rfl rfl ?_ ?_
  · exact w_end C hih _ _ _
  · refine l_iconst (pc' := 570) C dL_569 ki_0 rfl ?_
    exact l_ret0
def law_11 (L : Nat) (xs : Nat → Int32) (ih : Int32 × St × St → Option Int32) (a : Int32 × St × St) : Option Int32 :=
  Gd (Ix (a.1 + (1 : Int32)) L) <|
  Option.bind (f_FL_closeGap a.2.1 (xs (Int32.toNatClampNeg (a.1 + (1 : Int32))))) fun x1 =>
  Gd (Ix (a.1 + (1 : Int32)) L) <|
  Option.bind (m_closeGap a.2.2 (xs (Int32.toNatClampNeg (a.1 + (1 : Int32))))) fun x2 =>
  if (x1.1 : Int32) = x2.1 then (ih (a.1 + (4 : Int32), x1.2, x2.2)) else (some 0)
set_option maxHeartbeats 4000000 in
theorem w_11 {v : Zl} {G : Gl} (C : Lc v G) (ih : Int32 × St × St → Option Int32) (hih : ∀ a : Int32 × St × St, Lw v G 18 [(0, .ref G.2.2.1), (1, .ref (G.1.1 0)), (2, .ref (G.2.1.1 0)), (3, .int a.1)] [] a.2.1 a.2.2 (ih a)) (a : Int32 × St × St) : Lw v G 571 [(0, .ref G.2.2.1), (1, .ref (G.1.1 0)), (2, .ref (G.2.1.1 0)), (3, .int a.1)] [] a.2.1 a.2.2 (law_11 G.2.2.2.1 G.2.2.2.2 ih a) := by
  unfold law_11
  refine l_aload_n (pc' := 572) C 1 dL_571 rfl rfl ?_
  refine l_aload_n (pc' := 573) C 0 dL_572 rfl rfl ?_
  refine l_iload_n (pc' := 574) C 3 dL_573 rfl rfl ?_
  refine l_iconst (pc' := 575) C dL_574 ki_1 rfl ?_
  refine l_iadd (pc' := 576) C dL_575 rfl ?_
  refine l_sld (pc' := 577) C dL_576 rfl ?_
  refine l_callC (out' := o_w) (fr' := 7) (lo' := 173) (pc' := 580) C FC_FL_closeGap rfl lmL_61 dL_577 [.int (G.2.2.2.2 (Int32.toNatClampNeg (a.1 + (1 : Int32))))] [] rfl rfl (Nat.le_of_ble_eq_true rfl) ⟨rfl, rfl⟩ (fun x h => cC_FL_closeGap _ G.1 C.2.2.2.2.2.2.2.2.2.1 a.2.1 (G.2.2.2.2 (Int32.toNatClampNeg (a.1 + (1 : Int32)))) x h) rfl (fun x1 _ => ?_)
  show Lw v G 580 _ [.int x1.1] x1.2 a.2.2 _
  refine l_aload_n (pc' := 581) C 2 dL_580 rfl rfl ?_
  refine l_aload_n (pc' := 582) C 0 dL_581 rfl rfl ?_
  refine l_iload_n (pc' := 583) C 3 dL_582 rfl rfl ?_
  refine l_iconst (pc' := 584) C dL_583 ki_1 rfl ?_
  refine l_iadd (pc' := 585) C dL_584 rfl ?_
  refine l_sld (pc' := 586) C dL_585 rfl ?_
  refine l_callM (out' := o_w) (fr' := 8) (lo' := 199) (pc' := 589) C FM_closeGap rfl lmL_64 dL_586 [.int (G.2.2.2.2 (Int32.toNatClampNeg (a.1 + (1 : Int32))))] [.int x1.1] rfl rfl (Nat.le_of_ble_eq_true rfl) ⟨rfl, rfl⟩ (fun x h => cM_closeGap _ G.2.1 C.2.2.2.2.2.2.2.2.2.2.1 a.2.2 (G.2.2.2.2 (Int32.toNatClampNeg (a.1 + (1 : Int32)))) x h) rfl (fun x2 _ => ?_)
  show Lw v G 589 _ [.int x2.1, .int x1.1] x1.2 x2.2 _
  refine l_icmp_eq (tgt := 1960) (pc' := 592) C dL_589 rfl rfl ?_ ?_
  · exact w_end C hih _ _ _
  · refine l_iconst (pc' := 593) C dL_592 ki_0 rfl ?_
    exact l_ret0
def law_12 (L : Nat) (xs : Nat → Int32) (ih : Int32 × St × St → Option Int32) (a : Int32 × St × St) : Option Int32 :=
  Gd (Ix (a.1 + (1 : Int32)) L) <|
  Gd (Ix (a.1 + (2 : Int32)) L) <|
  Gd (Ix (a.1 + (3 : Int32)) L) <|
  Option.bind (f_FL_setWindow a.2.1 (xs (Int32.toNatClampNeg (a.1 + (1 : Int32)))) (xs (Int32.toNatClampNeg (a.1 + (2 : Int32)))) (xs (Int32.toNatClampNeg (a.1 + (3 : Int32))))) fun x1 =>
  Gd (Ix (a.1 + (1 : Int32)) L) <|
  Gd (Ix (a.1 + (2 : Int32)) L) <|
  Gd (Ix (a.1 + (3 : Int32)) L) <|
  Option.bind (m_setWindow a.2.2 (xs (Int32.toNatClampNeg (a.1 + (1 : Int32)))) (xs (Int32.toNatClampNeg (a.1 + (2 : Int32)))) (xs (Int32.toNatClampNeg (a.1 + (3 : Int32))))) fun x2 =>
  if (x1.1 : Int32) = x2.1 then (ih (a.1 + (4 : Int32), x1.2, x2.2)) else (some 0)
set_option maxHeartbeats 4000000 in
theorem w_12 {v : Zl} {G : Gl} (C : Lc v G) (ih : Int32 × St × St → Option Int32) (hih : ∀ a : Int32 × St × St, Lw v G 18 [(0, .ref G.2.2.1), (1, .ref (G.1.1 0)), (2, .ref (G.2.1.1 0)), (3, .int a.1)] [] a.2.1 a.2.2 (ih a)) (a : Int32 × St × St) : Lw v G 594 [(0, .ref G.2.2.1), (1, .ref (G.1.1 0)), (2, .ref (G.2.1.1 0)), (3, .int a.1)] [] a.2.1 a.2.2 (law_12 G.2.2.2.1 G.2.2.2.2 ih a) := by
  unfold law_12
  refine l_aload_n (pc' := 595) C 1 dL_594 rfl rfl ?_
  refine l_aload_n (pc' := 596) C 0 dL_595 rfl rfl ?_
  refine l_iload_n (pc' := 597) C 3 dL_596 rfl rfl ?_
  refine l_iconst (pc' := 598) C dL_597 ki_1 rfl ?_
  refine l_iadd (pc' := 599) C dL_598 rfl ?_
  refine l_sld (pc' := 600) C dL_599 rfl ?_
  refine l_aload_n (pc' := 601) C 0 dL_600 rfl rfl ?_
  refine l_iload_n (pc' := 602) C 3 dL_601 rfl rfl ?_
  refine l_iconst (pc' := 603) C dL_602 ki_2 rfl ?_
  refine l_iadd (pc' := 604) C dL_603 rfl ?_
  refine l_sld (pc' := 605) C dL_604 rfl ?_
  refine l_aload_n (pc' := 606) C 0 dL_605 rfl rfl ?_
  refine l_iload_n (pc' := 607) C 3 dL_606 rfl rfl ?_
  refine l_iconst (pc' := 608) C dL_607 ki_3 rfl ?_
  refine l_iadd (pc' := 609) C dL_608 rfl ?_
  refine l_sld (pc' := 610) C dL_609 rfl ?_
  refine l_callC (out' := o_w) (fr' := 7) (lo' := 173) (pc' := 613) C FC_FL_setWindow rfl lmL_65 dL_610 [.int (G.2.2.2.2 (Int32.toNatClampNeg (a.1 + (1 : Int32)))), .int (G.2.2.2.2 (Int32.toNatClampNeg (a.1 + (2 : Int32)))), .int (G.2.2.2.2 (Int32.toNatClampNeg (a.1 + (3 : Int32))))] [] rfl rfl (Nat.le_of_ble_eq_true rfl) ⟨rfl, rfl⟩ (fun x h => cC_FL_setWindow _ G.1 C.2.2.2.2.2.2.2.2.2.1 a.2.1 (G.2.2.2.2 (Int32.toNatClampNeg (a.1 + (1 : Int32)))) (G.2.2.2.2 (Int32.toNatClampNeg (a.1 + (2 : Int32)))) (G.2.2.2.2 (Int32.toNatClampNeg (a.1 + (3 : Int32)))) x h) rfl (fun x1 _ => ?_)
  show Lw v G 613 _ [.int x1.1] x1.2 a.2.2 _
  refine l_aload_n (pc' := 614) C 2 dL_613 rfl rfl ?_
  refine l_aload_n (pc' := 615) C 0 dL_614 rfl rfl ?_
  refine l_iload_n (pc' := 616) C 3 dL_615 rfl rfl ?_
  refine l_iconst (pc' := 617) C dL_616 ki_1 rfl ?_
  refine l_iadd (pc' := 618) C dL_617 rfl ?_
  refine l_sld (pc' := 619) C dL_618 rfl ?_
  refine l_aload_n (pc' := 620) C 0 dL_619 rfl rfl ?_
  refine l_iload_n (pc' := 621) C 3 dL_620 rfl rfl ?_
  refine l_iconst (pc' := 622) C dL_621 ki_2 rfl ?_
  refine l_iadd (pc' := 623) C dL_622 rfl ?_
  refine l_sld (pc' := 624) C dL_623 rfl ?_
  refine l_aload_n (pc' := 625) C 0 dL_624 rfl rfl ?_
  refine l_iload_n (pc' := 626) C 3 dL_625 rfl rfl ?_
  refine l_iconst (pc' := 627) C dL_626 ki_3 rfl ?_
  refine l_iadd (pc' := 628) C dL_627 rfl ?_
  refine l_sld (pc' := 629) C dL_628 rfl ?_
  refine l_callM (out' := o_w) (fr' := 8) (lo' := 199) (pc' := 632) C FM_setWindow rfl lmL_68 dL_629 [.int (G.2.2.2.2 (Int32.toNatClampNeg (a.1 + (1 : Int32)))), .int (G.2.2.2.2 (Int32.toNatClampNeg (a.1 + (2 : Int32)))), .int (G.2.2.2.2 (Int32.toNatClampNeg (a.1 + (3 : Int32))))] [.int x1.1] rfl rfl (Nat.le_of_ble_eq_true rfl) ⟨rfl, rfl⟩ (fun x h => cM_setWindow _ G.2.1 C.2.2.2.2.2.2.2.2.2.2.1 a.2.2 (G.2.2.2.2 (Int32.toNatClampNeg (a.1 + (1 : Int32)))) (G.2.2.2.2 (Int32.toNatClampNeg (a.1 + (2 : Int32)))) (G.2.2.2.2 (Int32.toNatClampNeg (a.1 + (3 : Int32)))) x h) rfl (fun x2 _ => ?_)
  show Lw v G 632 _ [.int x2.1, .int x1.1] x1.2 x2.2 _
  refine l_icmp_eq (tgt := 1960) (pc' := 635) C dL_632 rfl rfl ?_ ?_
  · exact w_end C hih _ _ _
  · refine l_iconst (pc' := 636) C dL_635 ki_0 rfl ?_
    exact l_ret0
def law_13 (L : Nat) (xs : Nat → Int32) (ih : Int32 × St × St → Option Int32) (a : Int32 × St × St) : Option Int32 :=
  Gd (Ix (a.1 + (1 : Int32)) L) <|
  Gd (Ix (a.1 + (2 : Int32)) L) <|
  Option.bind (f_FL_setSpeedLimit a.2.1 (xs (Int32.toNatClampNeg (a.1 + (1 : Int32)))) (xs (Int32.toNatClampNeg (a.1 + (2 : Int32))))) fun x1 =>
  Gd (Ix (a.1 + (1 : Int32)) L) <|
  Gd (Ix (a.1 + (2 : Int32)) L) <|
  Option.bind (m_setSpeedLimit a.2.2 (xs (Int32.toNatClampNeg (a.1 + (1 : Int32)))) (xs (Int32.toNatClampNeg (a.1 + (2 : Int32))))) fun x2 =>
  if (x1.1 : Int32) = x2.1 then (ih (a.1 + (4 : Int32), x1.2, x2.2)) else (some 0)
set_option maxHeartbeats 4000000 in
theorem w_13 {v : Zl} {G : Gl} (C : Lc v G) (ih : Int32 × St × St → Option Int32) (hih : ∀ a : Int32 × St × St, Lw v G 18 [(0, .ref G.2.2.1), (1, .ref (G.1.1 0)), (2, .ref (G.2.1.1 0)), (3, .int a.1)] [] a.2.1 a.2.2 (ih a)) (a : Int32 × St × St) : Lw v G 637 [(0, .ref G.2.2.1), (1, .ref (G.1.1 0)), (2, .ref (G.2.1.1 0)), (3, .int a.1)] [] a.2.1 a.2.2 (law_13 G.2.2.2.1 G.2.2.2.2 ih a) := by
  unfold law_13
  refine l_aload_n (pc' := 638) C 1 dL_637 rfl rfl ?_
  refine l_aload_n (pc' := 639) C 0 dL_638 rfl rfl ?_
  refine l_iload_n (pc' := 640) C 3 dL_639 rfl rfl ?_
  refine l_iconst (pc' := 641) C dL_640 ki_1 rfl ?_
  refine l_iadd (pc' := 642) C dL_641 rfl ?_
  refine l_sld (pc' := 643) C dL_642 rfl ?_
  refine l_aload_n (pc' := 644) C 0 dL_643 rfl rfl ?_
  refine l_iload_n (pc' := 645) C 3 dL_644 rfl rfl ?_
  refine l_iconst (pc' := 646) C dL_645 ki_2 rfl ?_
  refine l_iadd (pc' := 647) C dL_646 rfl ?_
  refine l_sld (pc' := 648) C dL_647 rfl ?_
  refine l_callC (out' := o_w) (fr' := 4) (lo' := 92) (pc' := 651) C FC_FL_setSpeedLimit rfl lmL_69 dL_648 [.int (G.2.2.2.2 (Int32.toNatClampNeg (a.1 + (1 : Int32)))), .int (G.2.2.2.2 (Int32.toNatClampNeg (a.1 + (2 : Int32))))] [] rfl rfl (Nat.le_of_ble_eq_true rfl) ⟨rfl, rfl⟩ (fun x h => cC_FL_setSpeedLimit _ G.1 C.2.2.2.2.2.2.2.2.2.1 a.2.1 (G.2.2.2.2 (Int32.toNatClampNeg (a.1 + (1 : Int32)))) (G.2.2.2.2 (Int32.toNatClampNeg (a.1 + (2 : Int32)))) x h) rfl (fun x1 _ => ?_)
  show Lw v G 651 _ [.int x1.1] x1.2 a.2.2 _
  refine l_aload_n (pc' := 652) C 2 dL_651 rfl rfl ?_
  refine l_aload_n (pc' := 653) C 0 dL_652 rfl rfl ?_
  refine l_iload_n (pc' := 654) C 3 dL_653 rfl rfl ?_
  refine l_iconst (pc' := 655) C dL_654 ki_1 rfl ?_
  refine l_iadd (pc' := 656) C dL_655 rfl ?_
  refine l_sld (pc' := 657) C dL_656 rfl ?_
  refine l_aload_n (pc' := 658) C 0 dL_657 rfl rfl ?_
  refine l_iload_n (pc' := 659) C 3 dL_658 rfl rfl ?_
  refine l_iconst (pc' := 660) C dL_659 ki_2 rfl ?_
  refine l_iadd (pc' := 661) C dL_660 rfl ?_
  refine l_sld (pc' := 662) C dL_661 rfl ?_
  refine l_callM (out' := o_w) (fr' := 2) (lo' := 47) (pc' := 665) C FM_setSpeedLimit rfl lmL_72 dL_662 [.int (G.2.2.2.2 (Int32.toNatClampNeg (a.1 + (1 : Int32)))), .int (G.2.2.2.2 (Int32.toNatClampNeg (a.1 + (2 : Int32))))] [.int x1.1] rfl rfl (Nat.le_of_ble_eq_true rfl) ⟨rfl, rfl⟩ (fun x h => cM_setSpeedLimit _ G.2.1 C.2.2.2.2.2.2.2.2.2.2.1 a.2.2 (G.2.2.2.2 (Int32.toNatClampNeg (a.1 + (1 : Int32)))) (G.2.2.2.2 (Int32.toNatClampNeg (a.1 + (2 : Int32)))) x h) rfl (fun x2 _ => ?_)
  show Lw v G 665 _ [.int x2.1, .int x1.1] x1.2 x2.2 _
  refine l_icmp_eq (tgt := 1960) (pc' := 668) C dL_665 rfl rfl ?_ ?_
  · exact w_end C hih _ _ _
  · refine l_iconst (pc' := 669) C dL_668 ki_0 rfl ?_
    exact l_ret0
def law_14 (L : Nat) (xs : Nat → Int32) (ih : Int32 × St × St → Option Int32) (a : Int32 × St × St) : Option Int32 :=
  Gd (Ix (a.1 + (1 : Int32)) L) <|
  Gd (Ix (a.1 + (2 : Int32)) L) <|
  Option.bind (f_FL_setFlyOver a.2.1 (xs (Int32.toNatClampNeg (a.1 + (1 : Int32)))) (bz (xs (Int32.toNatClampNeg (a.1 + (2 : Int32)))))) fun x1 =>
  Gd (Ix (a.1 + (1 : Int32)) L) <|
  Gd (Ix (a.1 + (2 : Int32)) L) <|
  Option.bind (m_setFlyOver a.2.2 (xs (Int32.toNatClampNeg (a.1 + (1 : Int32)))) (bz (xs (Int32.toNatClampNeg (a.1 + (2 : Int32)))))) fun x2 =>
  if (x1.1 : Int32) = x2.1 then (ih (a.1 + (4 : Int32), x1.2, x2.2)) else (some 0)
set_option maxHeartbeats 4000000 in
theorem w_14 {v : Zl} {G : Gl} (C : Lc v G) (ih : Int32 × St × St → Option Int32) (hih : ∀ a : Int32 × St × St, Lw v G 18 [(0, .ref G.2.2.1), (1, .ref (G.1.1 0)), (2, .ref (G.2.1.1 0)), (3, .int a.1)] [] a.2.1 a.2.2 (ih a)) (a : Int32 × St × St) : Lw v G 670 [(0, .ref G.2.2.1), (1, .ref (G.1.1 0)), (2, .ref (G.2.1.1 0)), (3, .int a.1)] [] a.2.1 a.2.2 (law_14 G.2.2.2.1 G.2.2.2.2 ih a) := by
  unfold law_14
  refine l_aload_n (pc' := 671) C 1 dL_670 rfl rfl ?_
  refine l_aload_n (pc' := 672) C 0 dL_671 rfl rfl ?_
  refine l_iload_n (pc' := 673) C 3 dL_672 rfl rfl ?_
  refine l_iconst (pc' := 674) C dL_673 ki_1 rfl ?_
  refine l_iadd (pc' := 675) C dL_674 rfl ?_
  refine l_sld (pc' := 676) C dL_675 rfl ?_
  refine l_aload_n (pc' := 677) C 0 dL_676 rfl rfl ?_
  refine l_iload_n (pc' := 678) C 3 dL_677 rfl rfl ?_
  refine l_iconst (pc' := 679) C dL_678 ki_2 rfl ?_
  refine l_iadd (pc' := 680) C dL_679 rfl ?_
  refine l_sld (pc' := 681) C dL_680 rfl ?_
  refine l_bool (pc' := 689) C dL_681 dL_684 dL_685 dL_688 rfl rfl rfl rfl ?_
  refine l_callC (out' := o_w) (fr' := 4) (lo' := 92) (pc' := 692) C FC_FL_setFlyOver rfl lmL_73 dL_689 [.int (G.2.2.2.2 (Int32.toNatClampNeg (a.1 + (1 : Int32)))), .int (bz (G.2.2.2.2 (Int32.toNatClampNeg (a.1 + (2 : Int32)))))] [] rfl rfl (Nat.le_of_ble_eq_true rfl) ⟨rfl, rfl⟩ (fun x h => cC_FL_setFlyOver _ G.1 C.2.2.2.2.2.2.2.2.2.1 a.2.1 (G.2.2.2.2 (Int32.toNatClampNeg (a.1 + (1 : Int32)))) (bz (G.2.2.2.2 (Int32.toNatClampNeg (a.1 + (2 : Int32))))) x h) rfl (fun x1 _ => ?_)
  show Lw v G 692 _ [.int x1.1] x1.2 a.2.2 _
  refine l_aload_n (pc' := 693) C 2 dL_692 rfl rfl ?_
  refine l_aload_n (pc' := 694) C 0 dL_693 rfl rfl ?_
  refine l_iload_n (pc' := 695) C 3 dL_694 rfl rfl ?_
  refine l_iconst (pc' := 696) C dL_695 ki_1 rfl ?_
  refine l_iadd (pc' := 697) C dL_696 rfl ?_
  refine l_sld (pc' := 698) C dL_697 rfl ?_
  refine l_aload_n (pc' := 699) C 0 dL_698 rfl rfl ?_
  refine l_iload_n (pc' := 700) C 3 dL_699 rfl rfl ?_
  refine l_iconst (pc' := 701) C dL_700 ki_2 rfl ?_
  refine l_iadd (pc' := 702) C dL_701 rfl ?_
  refine l_sld (pc' := 703) C dL_702 rfl ?_
  refine l_bool (pc' := 711) C dL_703 dL_706 dL_707 dL_710 rfl rfl rfl rfl ?_
  refine l_callM (out' := o_w) (fr' := 2) (lo' := 47) (pc' := 714) C FM_setFlyOver rfl lmL_77 dL_711 [.int (G.2.2.2.2 (Int32.toNatClampNeg (a.1 + (1 : Int32)))), .int (bz (G.2.2.2.2 (Int32.toNatClampNeg (a.1 + (2 : Int32)))))] [.int x1.1] rfl rfl (Nat.le_of_ble_eq_true rfl) ⟨rfl, rfl⟩ (fun x h => cM_setFlyOver _ G.2.1 C.2.2.2.2.2.2.2.2.2.2.1 a.2.2 (G.2.2.2.2 (Int32.toNatClampNeg (a.1 + (1 : Int32)))) (bz (G.2.2.2.2 (Int32.toNatClampNeg (a.1 + (2 : Int32))))) x h) rfl (fun x2 _ => ?_)
  show Lw v G 714 _ [.int x2.1, .int x1.1] x1.2 x2.2 _
  refine l_icmp_eq (tgt := 1960) (pc' := 717) C dL_714 rfl rfl ?_ ?_
  · exact w_end C hih _ _ _
  · refine l_iconst (pc' := 718) C dL_717 ki_0 rfl ?_
    exact l_ret0
def law_15 (L : Nat) (xs : Nat → Int32) (ih : Int32 × St × St → Option Int32) (a : Int32 × St × St) : Option Int32 :=
  Gd (Ix (a.1 + (1 : Int32)) L) <|
  Option.bind (f_FL_directTo a.2.1 (xs (Int32.toNatClampNeg (a.1 + (1 : Int32))))) fun x1 =>
  Gd (Ix (a.1 + (1 : Int32)) L) <|
  Option.bind (m_directTo a.2.2 (xs (Int32.toNatClampNeg (a.1 + (1 : Int32))))) fun x2 =>
  if (x1.1 : Int32) = x2.1 then (ih (a.1 + (4 : Int32), x1.2, x2.2)) else (some 0)
set_option maxHeartbeats 4000000 in
theorem w_15 {v : Zl} {G : Gl} (C : Lc v G) (ih : Int32 × St × St → Option Int32) (hih : ∀ a : Int32 × St × St, Lw v G 18 [(0, .ref G.2.2.1), (1, .ref (G.1.1 0)), (2, .ref (G.2.1.1 0)), (3, .int a.1)] [] a.2.1 a.2.2 (ih a)) (a : Int32 × St × St) : Lw v G 719 [(0, .ref G.2.2.1), (1, .ref (G.1.1 0)), (2, .ref (G.2.1.1 0)), (3, .int a.1)] [] a.2.1 a.2.2 (law_15 G.2.2.2.1 G.2.2.2.2 ih a) := by
  unfold law_15
  refine l_aload_n (pc' := 720) C 1 dL_719 rfl rfl ?_
  refine l_aload_n (pc' := 721) C 0 dL_720 rfl rfl ?_
  refine l_iload_n (pc' := 722) C 3 dL_721 rfl rfl ?_
  refine l_iconst (pc' := 723) C dL_722 ki_1 rfl ?_
  refine l_iadd (pc' := 724) C dL_723 rfl ?_
  refine l_sld (pc' := 725) C dL_724 rfl ?_
  refine l_callC (out' := o_w) (fr' := 7) (lo' := 171) (pc' := 728) C FC_FL_directTo rfl lmL_78 dL_725 [.int (G.2.2.2.2 (Int32.toNatClampNeg (a.1 + (1 : Int32))))] [] rfl rfl (Nat.le_of_ble_eq_true rfl) ⟨rfl, rfl⟩ (fun x h => cC_FL_directTo _ G.1 C.2.2.2.2.2.2.2.2.2.1 a.2.1 (G.2.2.2.2 (Int32.toNatClampNeg (a.1 + (1 : Int32)))) x h) rfl (fun x1 _ => ?_)
  show Lw v G 728 _ [.int x1.1] x1.2 a.2.2 _
  refine l_aload_n (pc' := 729) C 2 dL_728 rfl rfl ?_
  refine l_aload_n (pc' := 730) C 0 dL_729 rfl rfl ?_
  refine l_iload_n (pc' := 731) C 3 dL_730 rfl rfl ?_
  refine l_iconst (pc' := 732) C dL_731 ki_1 rfl ?_
  refine l_iadd (pc' := 733) C dL_732 rfl ?_
  refine l_sld (pc' := 734) C dL_733 rfl ?_
  refine l_callM (out' := o_w) (fr' := 9) (lo' := 226) (pc' := 737) C FM_directTo rfl lmL_81 dL_734 [.int (G.2.2.2.2 (Int32.toNatClampNeg (a.1 + (1 : Int32))))] [.int x1.1] rfl rfl (Nat.le_of_ble_eq_true rfl) ⟨rfl, rfl⟩ (fun x h => cM_directTo _ G.2.1 C.2.2.2.2.2.2.2.2.2.2.1 a.2.2 (G.2.2.2.2 (Int32.toNatClampNeg (a.1 + (1 : Int32)))) x h) rfl (fun x2 _ => ?_)
  show Lw v G 737 _ [.int x2.1, .int x1.1] x1.2 x2.2 _
  refine l_icmp_eq (tgt := 1960) (pc' := 740) C dL_737 rfl rfl ?_ ?_
  · exact w_end C hih _ _ _
  · refine l_iconst (pc' := 741) C dL_740 ki_0 rfl ?_
    exact l_ret0
def law_16 (L : Nat) (xs : Nat → Int32) (ih : Int32 × St × St → Option Int32) (a : Int32 × St × St) : Option Int32 :=
  Option.bind (f_FL_undo a.2.1) fun x1 =>
  Option.bind (m_undo a.2.2) fun x2 =>
  if (x1.1 : Int32) = x2.1 then (ih (a.1 + (4 : Int32), x1.2, x2.2)) else (some 0)
set_option maxHeartbeats 4000000 in
theorem w_16 {v : Zl} {G : Gl} (C : Lc v G) (ih : Int32 × St × St → Option Int32) (hih : ∀ a : Int32 × St × St, Lw v G 18 [(0, .ref G.2.2.1), (1, .ref (G.1.1 0)), (2, .ref (G.2.1.1 0)), (3, .int a.1)] [] a.2.1 a.2.2 (ih a)) (a : Int32 × St × St) : Lw v G 742 [(0, .ref G.2.2.1), (1, .ref (G.1.1 0)), (2, .ref (G.2.1.1 0)), (3, .int a.1)] [] a.2.1 a.2.2 (law_16 G.2.2.2.1 G.2.2.2.2 ih a) := by
  unfold law_16
  refine l_aload_n (pc' := 743) C 1 dL_742 rfl rfl ?_
  refine l_callC (out' := o_w) (fr' := 3) (lo' := 71) (pc' := 746) C FC_FL_undo rfl lmL_82 dL_743 [] [] rfl rfl (Nat.le_of_ble_eq_true rfl) ⟨rfl, rfl⟩ (fun x h => cC_FL_undo _ G.1 C.2.2.2.2.2.2.2.2.2.1 a.2.1 x h) rfl (fun x1 _ => ?_)
  show Lw v G 746 _ [.int x1.1] x1.2 a.2.2 _
  refine l_aload_n (pc' := 747) C 2 dL_746 rfl rfl ?_
  refine l_callM (out' := o_w) (fr' := 1) (lo' := 23) (pc' := 750) C FM_undo rfl lmL_85 dL_747 [] [.int x1.1] rfl rfl (Nat.le_of_ble_eq_true rfl) ⟨rfl, rfl⟩ (fun x h => cM_undo _ G.2.1 C.2.2.2.2.2.2.2.2.2.2.1 a.2.2 x h) rfl (fun x2 _ => ?_)
  show Lw v G 750 _ [.int x2.1, .int x1.1] x1.2 x2.2 _
  refine l_icmp_eq (tgt := 1960) (pc' := 753) C dL_750 rfl rfl ?_ ?_
  · exact w_end C hih _ _ _
  · refine l_iconst (pc' := 754) C dL_753 ki_0 rfl ?_
    exact l_ret0
def law_17 (L : Nat) (xs : Nat → Int32) (ih : Int32 × St × St → Option Int32) (a : Int32 × St × St) : Option Int32 :=
  Option.bind (f_FL_execute a.2.1) fun x1 =>
  Option.bind (m_execute a.2.2) fun x2 =>
  if (x1.1 : Int32) = x2.1 then (ih (a.1 + (4 : Int32), x1.2, x2.2)) else (some 0)
set_option maxHeartbeats 4000000 in
theorem w_17 {v : Zl} {G : Gl} (C : Lc v G) (ih : Int32 × St × St → Option Int32) (hih : ∀ a : Int32 × St × St, Lw v G 18 [(0, .ref G.2.2.1), (1, .ref (G.1.1 0)), (2, .ref (G.2.1.1 0)), (3, .int a.1)] [] a.2.1 a.2.2 (ih a)) (a : Int32 × St × St) : Lw v G 755 [(0, .ref G.2.2.1), (1, .ref (G.1.1 0)), (2, .ref (G.2.1.1 0)), (3, .int a.1)] [] a.2.1 a.2.2 (law_17 G.2.2.2.1 G.2.2.2.2 ih a) := by
  unfold law_17
  refine l_aload_n (pc' := 756) C 1 dL_755 rfl rfl ?_
  refine l_callC (out' := o_w) (fr' := 7) (lo' := 171) (pc' := 759) C FC_FL_execute rfl lmL_86 dL_756 [] [] rfl rfl (Nat.le_of_ble_eq_true rfl) ⟨rfl, rfl⟩ (fun x h => cC_FL_execute _ G.1 C.2.2.2.2.2.2.2.2.2.1 a.2.1 x h) rfl (fun x1 _ => ?_)
  show Lw v G 759 _ [.int x1.1] x1.2 a.2.2 _
  refine l_aload_n (pc' := 760) C 2 dL_759 rfl rfl ?_
  refine l_callM (out' := o_w) (fr' := 9) (lo' := 219) (pc' := 763) C FM_execute rfl lmL_89 dL_760 [] [.int x1.1] rfl rfl (Nat.le_of_ble_eq_true rfl) ⟨rfl, rfl⟩ (fun x h => cM_execute _ G.2.1 C.2.2.2.2.2.2.2.2.2.2.1 a.2.2 x h) rfl (fun x2 _ => ?_)
  show Lw v G 763 _ [.int x2.1, .int x1.1] x1.2 x2.2 _
  refine l_icmp_eq (tgt := 1960) (pc' := 766) C dL_763 rfl rfl ?_ ?_
  · exact w_end C hih _ _ _
  · refine l_iconst (pc' := 767) C dL_766 ki_0 rfl ?_
    exact l_ret0
def law_18 (L : Nat) (xs : Nat → Int32) (ih : Int32 × St × St → Option Int32) (a : Int32 × St × St) : Option Int32 :=
  Option.bind (f_FL_cancel a.2.1) fun x1 =>
  Option.bind (m_cancel a.2.2) fun x2 =>
  if (x1.1 : Int32) = x2.1 then (ih (a.1 + (4 : Int32), x1.2, x2.2)) else (some 0)
set_option maxHeartbeats 4000000 in
theorem w_18 {v : Zl} {G : Gl} (C : Lc v G) (ih : Int32 × St × St → Option Int32) (hih : ∀ a : Int32 × St × St, Lw v G 18 [(0, .ref G.2.2.1), (1, .ref (G.1.1 0)), (2, .ref (G.2.1.1 0)), (3, .int a.1)] [] a.2.1 a.2.2 (ih a)) (a : Int32 × St × St) : Lw v G 768 [(0, .ref G.2.2.1), (1, .ref (G.1.1 0)), (2, .ref (G.2.1.1 0)), (3, .int a.1)] [] a.2.1 a.2.2 (law_18 G.2.2.2.1 G.2.2.2.2 ih a) := by
  unfold law_18
  refine l_aload_n (pc' := 769) C 1 dL_768 rfl rfl ?_
  refine l_callC (out' := o_w) (fr' := 1) (lo' := 20) (pc' := 772) C FC_FL_cancel rfl lmL_90 dL_769 [] [] rfl rfl (Nat.le_of_ble_eq_true rfl) ⟨rfl, rfl⟩ (fun x h => cC_FL_cancel _ G.1 C.2.2.2.2.2.2.2.2.2.1 a.2.1 x h) rfl (fun x1 _ => ?_)
  show Lw v G 772 _ [.int x1.1] x1.2 a.2.2 _
  refine l_aload_n (pc' := 773) C 2 dL_772 rfl rfl ?_
  refine l_callM (out' := o_w) (fr' := 1) (lo' := 21) (pc' := 776) C FM_cancel rfl lmL_93 dL_773 [] [.int x1.1] rfl rfl (Nat.le_of_ble_eq_true rfl) ⟨rfl, rfl⟩ (fun x h => cM_cancel _ G.2.1 C.2.2.2.2.2.2.2.2.2.2.1 a.2.2 x h) rfl (fun x2 _ => ?_)
  show Lw v G 776 _ [.int x2.1, .int x1.1] x1.2 x2.2 _
  refine l_icmp_eq (tgt := 1960) (pc' := 779) C dL_776 rfl rfl ?_ ?_
  · exact w_end C hih _ _ _
  · refine l_iconst (pc' := 780) C dL_779 ki_0 rfl ?_
    exact l_ret0
def law_19 (L : Nat) (xs : Nat → Int32) (ih : Int32 × St × St → Option Int32) (a : Int32 × St × St) : Option Int32 :=
  Gd (Ix (a.1 + (1 : Int32)) L) <|
  Option.bind (f_FL_fly a.2.1 (xs (Int32.toNatClampNeg (a.1 + (1 : Int32))))) fun x1 =>
  Gd (Ix (a.1 + (1 : Int32)) L) <|
  Option.bind (m_fly a.2.2 (xs (Int32.toNatClampNeg (a.1 + (1 : Int32))))) fun x2 =>
  if (x1.1 : Int32) = x2.1 then (ih (a.1 + (4 : Int32), x1.2, x2.2)) else (some 0)
set_option maxHeartbeats 4000000 in
theorem w_19 {v : Zl} {G : Gl} (C : Lc v G) (ih : Int32 × St × St → Option Int32) (hih : ∀ a : Int32 × St × St, Lw v G 18 [(0, .ref G.2.2.1), (1, .ref (G.1.1 0)), (2, .ref (G.2.1.1 0)), (3, .int a.1)] [] a.2.1 a.2.2 (ih a)) (a : Int32 × St × St) : Lw v G 781 [(0, .ref G.2.2.1), (1, .ref (G.1.1 0)), (2, .ref (G.2.1.1 0)), (3, .int a.1)] [] a.2.1 a.2.2 (law_19 G.2.2.2.1 G.2.2.2.2 ih a) := by
  unfold law_19
  refine l_aload_n (pc' := 782) C 1 dL_781 rfl rfl ?_
  refine l_aload_n (pc' := 783) C 0 dL_782 rfl rfl ?_
  refine l_iload_n (pc' := 784) C 3 dL_783 rfl rfl ?_
  refine l_iconst (pc' := 785) C dL_784 ki_1 rfl ?_
  refine l_iadd (pc' := 786) C dL_785 rfl ?_
  refine l_sld (pc' := 787) C dL_786 rfl ?_
  refine l_callC (out' := o_w) (fr' := 6) (lo' := 151) (pc' := 790) C FC_FL_fly rfl lmL_94 dL_787 [.int (G.2.2.2.2 (Int32.toNatClampNeg (a.1 + (1 : Int32))))] [] rfl rfl (Nat.le_of_ble_eq_true rfl) ⟨rfl, rfl⟩ (fun x h => cC_FL_fly _ G.1 C.2.2.2.2.2.2.2.2.2.1 a.2.1 (G.2.2.2.2 (Int32.toNatClampNeg (a.1 + (1 : Int32)))) x h) rfl (fun x1 _ => ?_)
  show Lw v G 790 _ [.int x1.1] x1.2 a.2.2 _
  refine l_aload_n (pc' := 791) C 2 dL_790 rfl rfl ?_
  refine l_aload_n (pc' := 792) C 0 dL_791 rfl rfl ?_
  refine l_iload_n (pc' := 793) C 3 dL_792 rfl rfl ?_
  refine l_iconst (pc' := 794) C dL_793 ki_1 rfl ?_
  refine l_iadd (pc' := 795) C dL_794 rfl ?_
  refine l_sld (pc' := 796) C dL_795 rfl ?_
  refine l_callM (out' := o_w) (fr' := 8) (lo' := 199) (pc' := 799) C FM_fly rfl lmL_97 dL_796 [.int (G.2.2.2.2 (Int32.toNatClampNeg (a.1 + (1 : Int32))))] [.int x1.1] rfl rfl (Nat.le_of_ble_eq_true rfl) ⟨rfl, rfl⟩ (fun x h => cM_fly _ G.2.1 C.2.2.2.2.2.2.2.2.2.2.1 a.2.2 (G.2.2.2.2 (Int32.toNatClampNeg (a.1 + (1 : Int32)))) x h) rfl (fun x2 _ => ?_)
  show Lw v G 799 _ [.int x2.1, .int x1.1] x1.2 x2.2 _
  refine l_icmp_eq (tgt := 1960) (pc' := 802) C dL_799 rfl rfl ?_ ?_
  · exact w_end C hih _ _ _
  · refine l_iconst (pc' := 803) C dL_802 ki_0 rfl ?_
    exact l_ret0
def law_20 (L : Nat) (xs : Nat → Int32) (ih : Int32 × St × St → Option Int32) (a : Int32 × St × St) : Option Int32 :=
  Option.bind (f_FL_resume a.2.1) fun x1 =>
  Option.bind (m_resume a.2.2) fun x2 =>
  if (x1.1 : Int32) = x2.1 then (ih (a.1 + (4 : Int32), x1.2, x2.2)) else (some 0)
set_option maxHeartbeats 4000000 in
theorem w_20 {v : Zl} {G : Gl} (C : Lc v G) (ih : Int32 × St × St → Option Int32) (hih : ∀ a : Int32 × St × St, Lw v G 18 [(0, .ref G.2.2.1), (1, .ref (G.1.1 0)), (2, .ref (G.2.1.1 0)), (3, .int a.1)] [] a.2.1 a.2.2 (ih a)) (a : Int32 × St × St) : Lw v G 804 [(0, .ref G.2.2.1), (1, .ref (G.1.1 0)), (2, .ref (G.2.1.1 0)), (3, .int a.1)] [] a.2.1 a.2.2 (law_20 G.2.2.2.1 G.2.2.2.2 ih a) := by
  unfold law_20
  refine l_aload_n (pc' := 805) C 1 dL_804 rfl rfl ?_
  refine l_callC (out' := o_w) (fr' := 6) (lo' := 151) (pc' := 808) C FC_FL_resume rfl lmL_98 dL_805 [] [] rfl rfl (Nat.le_of_ble_eq_true rfl) ⟨rfl, rfl⟩ (fun x h => cC_FL_resume _ G.1 C.2.2.2.2.2.2.2.2.2.1 a.2.1 x h) rfl (fun x1 _ => ?_)
  show Lw v G 808 _ [.int x1.1] x1.2 a.2.2 _
  refine l_aload_n (pc' := 809) C 2 dL_808 rfl rfl ?_
  refine l_callM (out' := o_w) (fr' := 8) (lo' := 199) (pc' := 812) C FM_resume rfl lmL_101 dL_809 [] [.int x1.1] rfl rfl (Nat.le_of_ble_eq_true rfl) ⟨rfl, rfl⟩ (fun x h => cM_resume _ G.2.1 C.2.2.2.2.2.2.2.2.2.2.1 a.2.2 x h) rfl (fun x2 _ => ?_)
  show Lw v G 812 _ [.int x2.1, .int x1.1] x1.2 x2.2 _
  refine l_icmp_eq (tgt := 1960) (pc' := 815) C dL_812 rfl rfl ?_ ?_
  · exact w_end C hih _ _ _
  · refine l_iconst (pc' := 816) C dL_815 ki_0 rfl ?_
    exact l_ret0
def law_21 (L : Nat) (xs : Nat → Int32) (ih : Int32 × St × St → Option Int32) (a : Int32 × St × St) : Option Int32 :=
  Option.bind (f_FL_currentLeg a.2.1) fun x1 =>
  Option.bind (m_currentLeg a.2.2) fun x2 =>
  if (x1 : Int32) = x2 then (ih (a.1 + (4 : Int32), a.2.1, a.2.2)) else (some 0)
set_option maxHeartbeats 4000000 in
theorem w_21 {v : Zl} {G : Gl} (C : Lc v G) (ih : Int32 × St × St → Option Int32) (hih : ∀ a : Int32 × St × St, Lw v G 18 [(0, .ref G.2.2.1), (1, .ref (G.1.1 0)), (2, .ref (G.2.1.1 0)), (3, .int a.1)] [] a.2.1 a.2.2 (ih a)) (a : Int32 × St × St) : Lw v G 817 [(0, .ref G.2.2.1), (1, .ref (G.1.1 0)), (2, .ref (G.2.1.1 0)), (3, .int a.1)] [] a.2.1 a.2.2 (law_21 G.2.2.2.1 G.2.2.2.2 ih a) := by
  unfold law_21
  refine l_aload_n (pc' := 818) C 1 dL_817 rfl rfl ?_
  refine l_callC (out' := (o_r a.2.1)) (fr' := 0) (lo' := 0) (pc' := 821) C FC_FL_currentLeg rfl lmL_102 dL_818 [] [] rfl rfl (Nat.le_of_ble_eq_true rfl) ⟨rfl, rfl⟩ (fun x h => cC_FL_currentLeg _ G.1 C.2.2.2.2.2.2.2.2.2.1 a.2.1 x h) rfl (fun x1 _ => ?_)
  show Lw v G 821 _ [.int x1] a.2.1 a.2.2 _
  refine l_aload_n (pc' := 822) C 2 dL_821 rfl rfl ?_
  refine l_callM (out' := (o_r a.2.2)) (fr' := 1) (lo' := 21) (pc' := 825) C FM_currentLeg rfl lmL_105 dL_822 [] [.int x1] rfl rfl (Nat.le_of_ble_eq_true rfl) ⟨rfl, rfl⟩ (fun x h => cM_currentLeg _ G.2.1 C.2.2.2.2.2.2.2.2.2.2.1 a.2.2 x h) rfl (fun x2 _ => ?_)
  show Lw v G 825 _ [.int x2, .int x1] a.2.1 a.2.2 _
  refine l_icmp_eq (tgt := 1960) (pc' := 828) C dL_825 rfl rfl ?_ ?_
  · exact w_end C hih _ _ _
  · refine l_iconst (pc' := 829) C dL_828 ki_0 rfl ?_
    exact l_ret0
def law_22 (L : Nat) (xs : Nat → Int32) (ih : Int32 × St × St → Option Int32) (a : Int32 × St × St) : Option Int32 :=
  Option.bind (f_FL_flownLength a.2.1) fun x1 =>
  Option.bind (m_flownLength a.2.2) fun x2 =>
  if (x1 : Int32) = x2 then (ih (a.1 + (4 : Int32), a.2.1, a.2.2)) else (some 0)
set_option maxHeartbeats 4000000 in
theorem w_22 {v : Zl} {G : Gl} (C : Lc v G) (ih : Int32 × St × St → Option Int32) (hih : ∀ a : Int32 × St × St, Lw v G 18 [(0, .ref G.2.2.1), (1, .ref (G.1.1 0)), (2, .ref (G.2.1.1 0)), (3, .int a.1)] [] a.2.1 a.2.2 (ih a)) (a : Int32 × St × St) : Lw v G 830 [(0, .ref G.2.2.1), (1, .ref (G.1.1 0)), (2, .ref (G.2.1.1 0)), (3, .int a.1)] [] a.2.1 a.2.2 (law_22 G.2.2.2.1 G.2.2.2.2 ih a) := by
  unfold law_22
  refine l_aload_n (pc' := 831) C 1 dL_830 rfl rfl ?_
  refine l_callC (out' := (o_r a.2.1)) (fr' := 0) (lo' := 0) (pc' := 834) C FC_FL_flownLength rfl lmL_106 dL_831 [] [] rfl rfl (Nat.le_of_ble_eq_true rfl) ⟨rfl, rfl⟩ (fun x h => cC_FL_flownLength _ G.1 C.2.2.2.2.2.2.2.2.2.1 a.2.1 x h) rfl (fun x1 _ => ?_)
  show Lw v G 834 _ [.int x1] a.2.1 a.2.2 _
  refine l_aload_n (pc' := 835) C 2 dL_834 rfl rfl ?_
  refine l_callM (out' := (o_r a.2.2)) (fr' := 1) (lo' := 21) (pc' := 838) C FM_flownLength rfl lmL_109 dL_835 [] [.int x1] rfl rfl (Nat.le_of_ble_eq_true rfl) ⟨rfl, rfl⟩ (fun x h => cM_flownLength _ G.2.1 C.2.2.2.2.2.2.2.2.2.2.1 a.2.2 x h) rfl (fun x2 _ => ?_)
  show Lw v G 838 _ [.int x2, .int x1] a.2.1 a.2.2 _
  refine l_icmp_eq (tgt := 1960) (pc' := 841) C dL_838 rfl rfl ?_ ?_
  · exact w_end C hih _ _ _
  · refine l_iconst (pc' := 842) C dL_841 ki_0 rfl ?_
    exact l_ret0
def law_23 (L : Nat) (xs : Nat → Int32) (ih : Int32 × St × St → Option Int32) (a : Int32 × St × St) : Option Int32 :=
  Option.bind (f_FL_positionX a.2.1) fun x1 =>
  Option.bind (m_positionX a.2.2) fun x2 =>
  if (x1.1 : Int32) = x2.1 then (ih (a.1 + (4 : Int32), x1.2, x2.2)) else (some 0)
set_option maxHeartbeats 4000000 in
theorem w_23 {v : Zl} {G : Gl} (C : Lc v G) (ih : Int32 × St × St → Option Int32) (hih : ∀ a : Int32 × St × St, Lw v G 18 [(0, .ref G.2.2.1), (1, .ref (G.1.1 0)), (2, .ref (G.2.1.1 0)), (3, .int a.1)] [] a.2.1 a.2.2 (ih a)) (a : Int32 × St × St) : Lw v G 843 [(0, .ref G.2.2.1), (1, .ref (G.1.1 0)), (2, .ref (G.2.1.1 0)), (3, .int a.1)] [] a.2.1 a.2.2 (law_23 G.2.2.2.1 G.2.2.2.2 ih a) := by
  unfold law_23
  refine l_aload_n (pc' := 844) C 1 dL_843 rfl rfl ?_
  refine l_callC (out' := o_w) (fr' := 7) (lo' := 171) (pc' := 847) C FC_FL_positionX rfl lmL_110 dL_844 [] [] rfl rfl (Nat.le_of_ble_eq_true rfl) ⟨rfl, rfl⟩ (fun x h => cC_FL_positionX _ G.1 C.2.2.2.2.2.2.2.2.2.1 a.2.1 x h) rfl (fun x1 _ => ?_)
  show Lw v G 847 _ [.int x1.1] x1.2 a.2.2 _
  refine l_aload_n (pc' := 848) C 2 dL_847 rfl rfl ?_
  refine l_callM (out' := o_w) (fr' := 9) (lo' := 226) (pc' := 851) C FM_positionX rfl lmL_113 dL_848 [] [.int x1.1] rfl rfl (Nat.le_of_ble_eq_true rfl) ⟨rfl, rfl⟩ (fun x h => cM_positionX _ G.2.1 C.2.2.2.2.2.2.2.2.2.2.1 a.2.2 x h) rfl (fun x2 _ => ?_)
  show Lw v G 851 _ [.int x2.1, .int x1.1] x1.2 x2.2 _
  refine l_icmp_eq (tgt := 1960) (pc' := 854) C dL_851 rfl rfl ?_ ?_
  · exact w_end C hih _ _ _
  · refine l_iconst (pc' := 855) C dL_854 ki_0 rfl ?_
    exact l_ret0
def law_24 (L : Nat) (xs : Nat → Int32) (ih : Int32 × St × St → Option Int32) (a : Int32 × St × St) : Option Int32 :=
  Option.bind (f_FL_positionY a.2.1) fun x1 =>
  Option.bind (m_positionY a.2.2) fun x2 =>
  if (x1.1 : Int32) = x2.1 then (ih (a.1 + (4 : Int32), x1.2, x2.2)) else (some 0)
set_option maxHeartbeats 4000000 in
theorem w_24 {v : Zl} {G : Gl} (C : Lc v G) (ih : Int32 × St × St → Option Int32) (hih : ∀ a : Int32 × St × St, Lw v G 18 [(0, .ref G.2.2.1), (1, .ref (G.1.1 0)), (2, .ref (G.2.1.1 0)), (3, .int a.1)] [] a.2.1 a.2.2 (ih a)) (a : Int32 × St × St) : Lw v G 856 [(0, .ref G.2.2.1), (1, .ref (G.1.1 0)), (2, .ref (G.2.1.1 0)), (3, .int a.1)] [] a.2.1 a.2.2 (law_24 G.2.2.2.1 G.2.2.2.2 ih a) := by
  unfold law_24
  refine l_aload_n (pc' := 857) C 1 dL_856 rfl rfl ?_
  refine l_callC (out' := o_w) (fr' := 7) (lo' := 171) (pc' := 860) C FC_FL_positionY rfl lmL_114 dL_857 [] [] rfl rfl (Nat.le_of_ble_eq_true rfl) ⟨rfl, rfl⟩ (fun x h => cC_FL_positionY _ G.1 C.2.2.2.2.2.2.2.2.2.1 a.2.1 x h) rfl (fun x1 _ => ?_)
  show Lw v G 860 _ [.int x1.1] x1.2 a.2.2 _
  refine l_aload_n (pc' := 861) C 2 dL_860 rfl rfl ?_
  refine l_callM (out' := o_w) (fr' := 9) (lo' := 226) (pc' := 864) C FM_positionY rfl lmL_117 dL_861 [] [.int x1.1] rfl rfl (Nat.le_of_ble_eq_true rfl) ⟨rfl, rfl⟩ (fun x h => cM_positionY _ G.2.1 C.2.2.2.2.2.2.2.2.2.2.1 a.2.2 x h) rfl (fun x2 _ => ?_)
  show Lw v G 864 _ [.int x2.1, .int x1.1] x1.2 x2.2 _
  refine l_icmp_eq (tgt := 1960) (pc' := 867) C dL_864 rfl rfl ?_ ?_
  · exact w_end C hih _ _ _
  · refine l_iconst (pc' := 868) C dL_867 ki_0 rfl ?_
    exact l_ret0
def law_25 (L : Nat) (xs : Nat → Int32) (ih : Int32 × St × St → Option Int32) (a : Int32 × St × St) : Option Int32 :=
  Option.bind (f_FL_presentCourse a.2.1) fun x1 =>
  Option.bind (m_presentCourse a.2.2) fun x2 =>
  if (x1.1 : Int32) = x2.1 then (ih (a.1 + (4 : Int32), x1.2, x2.2)) else (some 0)
set_option maxHeartbeats 4000000 in
theorem w_25 {v : Zl} {G : Gl} (C : Lc v G) (ih : Int32 × St × St → Option Int32) (hih : ∀ a : Int32 × St × St, Lw v G 18 [(0, .ref G.2.2.1), (1, .ref (G.1.1 0)), (2, .ref (G.2.1.1 0)), (3, .int a.1)] [] a.2.1 a.2.2 (ih a)) (a : Int32 × St × St) : Lw v G 869 [(0, .ref G.2.2.1), (1, .ref (G.1.1 0)), (2, .ref (G.2.1.1 0)), (3, .int a.1)] [] a.2.1 a.2.2 (law_25 G.2.2.2.1 G.2.2.2.2 ih a) := by
  unfold law_25
  refine l_aload_n (pc' := 870) C 1 dL_869 rfl rfl ?_
  refine l_callC (out' := o_w) (fr' := 7) (lo' := 171) (pc' := 873) C FC_FL_presentCourse rfl lmL_118 dL_870 [] [] rfl rfl (Nat.le_of_ble_eq_true rfl) ⟨rfl, rfl⟩ (fun x h => cC_FL_presentCourse _ G.1 C.2.2.2.2.2.2.2.2.2.1 a.2.1 x h) rfl (fun x1 _ => ?_)
  show Lw v G 873 _ [.int x1.1] x1.2 a.2.2 _
  refine l_aload_n (pc' := 874) C 2 dL_873 rfl rfl ?_
  refine l_callM (out' := o_w) (fr' := 9) (lo' := 226) (pc' := 877) C FM_presentCourse rfl lmL_121 dL_874 [] [.int x1.1] rfl rfl (Nat.le_of_ble_eq_true rfl) ⟨rfl, rfl⟩ (fun x h => cM_presentCourse _ G.2.1 C.2.2.2.2.2.2.2.2.2.2.1 a.2.2 x h) rfl (fun x2 _ => ?_)
  show Lw v G 877 _ [.int x2.1, .int x1.1] x1.2 x2.2 _
  refine l_icmp_eq (tgt := 1960) (pc' := 880) C dL_877 rfl rfl ?_ ?_
  · exact w_end C hih _ _ _
  · refine l_iconst (pc' := 881) C dL_880 ki_0 rfl ?_
    exact l_ret0
def law_26 (L : Nat) (xs : Nat → Int32) (ih : Int32 × St × St → Option Int32) (a : Int32 × St × St) : Option Int32 :=
  Gd (Ix (a.1 + (1 : Int32)) L) <|
  Option.bind (f_FL_directSaving a.2.1 (xs (Int32.toNatClampNeg (a.1 + (1 : Int32))))) fun x1 =>
  Gd (Ix (a.1 + (1 : Int32)) L) <|
  Option.bind (m_directSaving a.2.2 (xs (Int32.toNatClampNeg (a.1 + (1 : Int32))))) fun x2 =>
  if (x1.1 : Int32) = x2.1 then (ih (a.1 + (4 : Int32), x1.2, x2.2)) else (some 0)
set_option maxHeartbeats 4000000 in
theorem w_26 {v : Zl} {G : Gl} (C : Lc v G) (ih : Int32 × St × St → Option Int32) (hih : ∀ a : Int32 × St × St, Lw v G 18 [(0, .ref G.2.2.1), (1, .ref (G.1.1 0)), (2, .ref (G.2.1.1 0)), (3, .int a.1)] [] a.2.1 a.2.2 (ih a)) (a : Int32 × St × St) : Lw v G 882 [(0, .ref G.2.2.1), (1, .ref (G.1.1 0)), (2, .ref (G.2.1.1 0)), (3, .int a.1)] [] a.2.1 a.2.2 (law_26 G.2.2.2.1 G.2.2.2.2 ih a) := by
  unfold law_26
  refine l_aload_n (pc' := 883) C 1 dL_882 rfl rfl ?_
  refine l_aload_n (pc' := 884) C 0 dL_883 rfl rfl ?_
  refine l_iload_n (pc' := 885) C 3 dL_884 rfl rfl ?_
  refine l_iconst (pc' := 886) C dL_885 ki_1 rfl ?_
  refine l_iadd (pc' := 887) C dL_886 rfl ?_
  refine l_sld (pc' := 888) C dL_887 rfl ?_
  refine l_callC (out' := o_w) (fr' := 7) (lo' := 171) (pc' := 891) C FC_FL_directSaving rfl lmL_122 dL_888 [.int (G.2.2.2.2 (Int32.toNatClampNeg (a.1 + (1 : Int32))))] [] rfl rfl (Nat.le_of_ble_eq_true rfl) ⟨rfl, rfl⟩ (fun x h => cC_FL_directSaving _ G.1 C.2.2.2.2.2.2.2.2.2.1 a.2.1 (G.2.2.2.2 (Int32.toNatClampNeg (a.1 + (1 : Int32)))) x h) rfl (fun x1 _ => ?_)
  show Lw v G 891 _ [.int x1.1] x1.2 a.2.2 _
  refine l_aload_n (pc' := 892) C 2 dL_891 rfl rfl ?_
  refine l_aload_n (pc' := 893) C 0 dL_892 rfl rfl ?_
  refine l_iload_n (pc' := 894) C 3 dL_893 rfl rfl ?_
  refine l_iconst (pc' := 895) C dL_894 ki_1 rfl ?_
  refine l_iadd (pc' := 896) C dL_895 rfl ?_
  refine l_sld (pc' := 897) C dL_896 rfl ?_
  refine l_callM (out' := o_w) (fr' := 9) (lo' := 226) (pc' := 900) C FM_directSaving rfl lmL_125 dL_897 [.int (G.2.2.2.2 (Int32.toNatClampNeg (a.1 + (1 : Int32))))] [.int x1.1] rfl rfl (Nat.le_of_ble_eq_true rfl) ⟨rfl, rfl⟩ (fun x h => cM_directSaving _ G.2.1 C.2.2.2.2.2.2.2.2.2.2.1 a.2.2 (G.2.2.2.2 (Int32.toNatClampNeg (a.1 + (1 : Int32)))) x h) rfl (fun x2 _ => ?_)
  show Lw v G 900 _ [.int x2.1, .int x1.1] x1.2 x2.2 _
  refine l_icmp_eq (tgt := 1960) (pc' := 903) C dL_900 rfl rfl ?_ ?_
  · exact w_end C hih _ _ _
  · refine l_iconst (pc' := 904) C dL_903 ki_0 rfl ?_
    exact l_ret0
def law_27 (L : Nat) (xs : Nat → Int32) (ih : Int32 × St × St → Option Int32) (a : Int32 × St × St) : Option Int32 :=
  Gd (Ix (a.1 + (1 : Int32)) L) <|
  Option.bind (f_FL_legCount a.2.1 (xs (Int32.toNatClampNeg (a.1 + (1 : Int32))))) fun x1 =>
  Gd (Ix (a.1 + (1 : Int32)) L) <|
  Option.bind (m_legCount a.2.2 (xs (Int32.toNatClampNeg (a.1 + (1 : Int32))))) fun x2 =>
  if (x1 : Int32) = x2.1 then (ih (a.1 + (4 : Int32), a.2.1, x2.2)) else (some 0)
set_option maxHeartbeats 4000000 in
theorem w_27 {v : Zl} {G : Gl} (C : Lc v G) (ih : Int32 × St × St → Option Int32) (hih : ∀ a : Int32 × St × St, Lw v G 18 [(0, .ref G.2.2.1), (1, .ref (G.1.1 0)), (2, .ref (G.2.1.1 0)), (3, .int a.1)] [] a.2.1 a.2.2 (ih a)) (a : Int32 × St × St) : Lw v G 905 [(0, .ref G.2.2.1), (1, .ref (G.1.1 0)), (2, .ref (G.2.1.1 0)), (3, .int a.1)] [] a.2.1 a.2.2 (law_27 G.2.2.2.1 G.2.2.2.2 ih a) := by
  unfold law_27
  refine l_aload_n (pc' := 906) C 1 dL_905 rfl rfl ?_
  refine l_aload_n (pc' := 907) C 0 dL_906 rfl rfl ?_
  refine l_iload_n (pc' := 908) C 3 dL_907 rfl rfl ?_
  refine l_iconst (pc' := 909) C dL_908 ki_1 rfl ?_
  refine l_iadd (pc' := 910) C dL_909 rfl ?_
  refine l_sld (pc' := 911) C dL_910 rfl ?_
  refine l_callC (out' := (o_r a.2.1)) (fr' := 1) (lo' := 21) (pc' := 914) C FC_FL_legCount rfl lmL_126 dL_911 [.int (G.2.2.2.2 (Int32.toNatClampNeg (a.1 + (1 : Int32))))] [] rfl rfl (Nat.le_of_ble_eq_true rfl) ⟨rfl, rfl⟩ (fun x h => cC_FL_legCount _ G.1 C.2.2.2.2.2.2.2.2.2.1 a.2.1 (G.2.2.2.2 (Int32.toNatClampNeg (a.1 + (1 : Int32)))) x h) rfl (fun x1 _ => ?_)
  show Lw v G 914 _ [.int x1] a.2.1 a.2.2 _
  refine l_aload_n (pc' := 915) C 2 dL_914 rfl rfl ?_
  refine l_aload_n (pc' := 916) C 0 dL_915 rfl rfl ?_
  refine l_iload_n (pc' := 917) C 3 dL_916 rfl rfl ?_
  refine l_iconst (pc' := 918) C dL_917 ki_1 rfl ?_
  refine l_iadd (pc' := 919) C dL_918 rfl ?_
  refine l_sld (pc' := 920) C dL_919 rfl ?_
  refine l_callM (out' := o_w) (fr' := 9) (lo' := 220) (pc' := 923) C FM_legCount rfl lmL_129 dL_920 [.int (G.2.2.2.2 (Int32.toNatClampNeg (a.1 + (1 : Int32))))] [.int x1] rfl rfl (Nat.le_of_ble_eq_true rfl) ⟨rfl, rfl⟩ (fun x h => cM_legCount _ G.2.1 C.2.2.2.2.2.2.2.2.2.2.1 a.2.2 (G.2.2.2.2 (Int32.toNatClampNeg (a.1 + (1 : Int32)))) x h) rfl (fun x2 _ => ?_)
  show Lw v G 923 _ [.int x2.1, .int x1] a.2.1 x2.2 _
  refine l_icmp_eq (tgt := 1960) (pc' := 926) C dL_923 rfl rfl ?_ ?_
  · exact w_end C hih _ _ _
  · refine l_iconst (pc' := 927) C dL_926 ki_0 rfl ?_
    exact l_ret0
def law_28 (L : Nat) (xs : Nat → Int32) (ih : Int32 × St × St → Option Int32) (a : Int32 × St × St) : Option Int32 :=
  Gd (Ix (a.1 + (1 : Int32)) L) <|
  Gd (Ix (a.1 + (2 : Int32)) L) <|
  Option.bind (f_FL_legKind a.2.1 (xs (Int32.toNatClampNeg (a.1 + (1 : Int32)))) (xs (Int32.toNatClampNeg (a.1 + (2 : Int32))))) fun x1 =>
  Gd (Ix (a.1 + (1 : Int32)) L) <|
  Gd (Ix (a.1 + (2 : Int32)) L) <|
  Option.bind (m_legKind a.2.2 (xs (Int32.toNatClampNeg (a.1 + (1 : Int32)))) (xs (Int32.toNatClampNeg (a.1 + (2 : Int32))))) fun x2 =>
  if (x1 : Int32) = x2.1 then (ih (a.1 + (4 : Int32), a.2.1, x2.2)) else (some 0)
set_option maxHeartbeats 4000000 in
theorem w_28 {v : Zl} {G : Gl} (C : Lc v G) (ih : Int32 × St × St → Option Int32) (hih : ∀ a : Int32 × St × St, Lw v G 18 [(0, .ref G.2.2.1), (1, .ref (G.1.1 0)), (2, .ref (G.2.1.1 0)), (3, .int a.1)] [] a.2.1 a.2.2 (ih a)) (a : Int32 × St × St) : Lw v G 928 [(0, .ref G.2.2.1), (1, .ref (G.1.1 0)), (2, .ref (G.2.1.1 0)), (3, .int a.1)] [] a.2.1 a.2.2 (law_28 G.2.2.2.1 G.2.2.2.2 ih a) := by
  unfold law_28
  refine l_aload_n (pc' := 929) C 1 dL_928 rfl rfl ?_
  refine l_aload_n (pc' := 930) C 0 dL_929 rfl rfl ?_
  refine l_iload_n (pc' := 931) C 3 dL_930 rfl rfl ?_
  refine l_iconst (pc' := 932) C dL_931 ki_1 rfl ?_
  refine l_iadd (pc' := 933) C dL_932 rfl ?_
  refine l_sld (pc' := 934) C dL_933 rfl ?_
  refine l_aload_n (pc' := 935) C 0 dL_934 rfl rfl ?_
  refine l_iload_n (pc' := 936) C 3 dL_935 rfl rfl ?_
  refine l_iconst (pc' := 937) C dL_936 ki_2 rfl ?_
  refine l_iadd (pc' := 938) C dL_937 rfl ?_
  refine l_sld (pc' := 939) C dL_938 rfl ?_
  refine l_callC (out' := (o_r a.2.1)) (fr' := 3) (lo' := 66) (pc' := 942) C FC_FL_legKind rfl lmL_130 dL_939 [.int (G.2.2.2.2 (Int32.toNatClampNeg (a.1 + (1 : Int32)))), .int (G.2.2.2.2 (Int32.toNatClampNeg (a.1 + (2 : Int32))))] [] rfl rfl (Nat.le_of_ble_eq_true rfl) ⟨rfl, rfl⟩ (fun x h => cC_FL_legKind _ G.1 C.2.2.2.2.2.2.2.2.2.1 a.2.1 (G.2.2.2.2 (Int32.toNatClampNeg (a.1 + (1 : Int32)))) (G.2.2.2.2 (Int32.toNatClampNeg (a.1 + (2 : Int32)))) x h) rfl (fun x1 _ => ?_)
  show Lw v G 942 _ [.int x1] a.2.1 a.2.2 _
  refine l_aload_n (pc' := 943) C 2 dL_942 rfl rfl ?_
  refine l_aload_n (pc' := 944) C 0 dL_943 rfl rfl ?_
  refine l_iload_n (pc' := 945) C 3 dL_944 rfl rfl ?_
  refine l_iconst (pc' := 946) C dL_945 ki_1 rfl ?_
  refine l_iadd (pc' := 947) C dL_946 rfl ?_
  refine l_sld (pc' := 948) C dL_947 rfl ?_
  refine l_aload_n (pc' := 949) C 0 dL_948 rfl rfl ?_
  refine l_iload_n (pc' := 950) C 3 dL_949 rfl rfl ?_
  refine l_iconst (pc' := 951) C dL_950 ki_2 rfl ?_
  refine l_iadd (pc' := 952) C dL_951 rfl ?_
  refine l_sld (pc' := 953) C dL_952 rfl ?_
  refine l_callM (out' := o_w) (fr' := 10) (lo' := 242) (pc' := 956) C FM_legKind rfl lmL_133 dL_953 [.int (G.2.2.2.2 (Int32.toNatClampNeg (a.1 + (1 : Int32)))), .int (G.2.2.2.2 (Int32.toNatClampNeg (a.1 + (2 : Int32))))] [.int x1] rfl rfl (Nat.le_of_ble_eq_true rfl) ⟨rfl, rfl⟩ (fun x h => cM_legKind _ G.2.1 C.2.2.2.2.2.2.2.2.2.2.1 a.2.2 (G.2.2.2.2 (Int32.toNatClampNeg (a.1 + (1 : Int32)))) (G.2.2.2.2 (Int32.toNatClampNeg (a.1 + (2 : Int32)))) x h) rfl (fun x2 _ => ?_)
  show Lw v G 956 _ [.int x2.1, .int x1] a.2.1 x2.2 _
  refine l_icmp_eq (tgt := 1960) (pc' := 959) C dL_956 rfl rfl ?_ ?_
  · exact w_end C hih _ _ _
  · refine l_iconst (pc' := 960) C dL_959 ki_0 rfl ?_
    exact l_ret0
def law_29 (L : Nat) (xs : Nat → Int32) (ih : Int32 × St × St → Option Int32) (a : Int32 × St × St) : Option Int32 :=
  Gd (Ix (a.1 + (1 : Int32)) L) <|
  Gd (Ix (a.1 + (2 : Int32)) L) <|
  Option.bind (f_FL_legFix a.2.1 (xs (Int32.toNatClampNeg (a.1 + (1 : Int32)))) (xs (Int32.toNatClampNeg (a.1 + (2 : Int32))))) fun x1 =>
  Gd (Ix (a.1 + (1 : Int32)) L) <|
  Gd (Ix (a.1 + (2 : Int32)) L) <|
  Option.bind (m_legFix a.2.2 (xs (Int32.toNatClampNeg (a.1 + (1 : Int32)))) (xs (Int32.toNatClampNeg (a.1 + (2 : Int32))))) fun x2 =>
  if (x1 : Int32) = x2.1 then (ih (a.1 + (4 : Int32), a.2.1, x2.2)) else (some 0)
set_option maxHeartbeats 4000000 in
theorem w_29 {v : Zl} {G : Gl} (C : Lc v G) (ih : Int32 × St × St → Option Int32) (hih : ∀ a : Int32 × St × St, Lw v G 18 [(0, .ref G.2.2.1), (1, .ref (G.1.1 0)), (2, .ref (G.2.1.1 0)), (3, .int a.1)] [] a.2.1 a.2.2 (ih a)) (a : Int32 × St × St) : Lw v G 961 [(0, .ref G.2.2.1), (1, .ref (G.1.1 0)), (2, .ref (G.2.1.1 0)), (3, .int a.1)] [] a.2.1 a.2.2 (law_29 G.2.2.2.1 G.2.2.2.2 ih a) := by
  unfold law_29
  refine l_aload_n (pc' := 962) C 1 dL_961 rfl rfl ?_
  refine l_aload_n (pc' := 963) C 0 dL_962 rfl rfl ?_
  refine l_iload_n (pc' := 964) C 3 dL_963 rfl rfl ?_
  refine l_iconst (pc' := 965) C dL_964 ki_1 rfl ?_
  refine l_iadd (pc' := 966) C dL_965 rfl ?_
  refine l_sld (pc' := 967) C dL_966 rfl ?_
  refine l_aload_n (pc' := 968) C 0 dL_967 rfl rfl ?_
  refine l_iload_n (pc' := 969) C 3 dL_968 rfl rfl ?_
  refine l_iconst (pc' := 970) C dL_969 ki_2 rfl ?_
  refine l_iadd (pc' := 971) C dL_970 rfl ?_
  refine l_sld (pc' := 972) C dL_971 rfl ?_
  refine l_callC (out' := (o_r a.2.1)) (fr' := 3) (lo' := 66) (pc' := 975) C FC_FL_legFix rfl lmL_134 dL_972 [.int (G.2.2.2.2 (Int32.toNatClampNeg (a.1 + (1 : Int32)))), .int (G.2.2.2.2 (Int32.toNatClampNeg (a.1 + (2 : Int32))))] [] rfl rfl (Nat.le_of_ble_eq_true rfl) ⟨rfl, rfl⟩ (fun x h => cC_FL_legFix _ G.1 C.2.2.2.2.2.2.2.2.2.1 a.2.1 (G.2.2.2.2 (Int32.toNatClampNeg (a.1 + (1 : Int32)))) (G.2.2.2.2 (Int32.toNatClampNeg (a.1 + (2 : Int32)))) x h) rfl (fun x1 _ => ?_)
  show Lw v G 975 _ [.int x1] a.2.1 a.2.2 _
  refine l_aload_n (pc' := 976) C 2 dL_975 rfl rfl ?_
  refine l_aload_n (pc' := 977) C 0 dL_976 rfl rfl ?_
  refine l_iload_n (pc' := 978) C 3 dL_977 rfl rfl ?_
  refine l_iconst (pc' := 979) C dL_978 ki_1 rfl ?_
  refine l_iadd (pc' := 980) C dL_979 rfl ?_
  refine l_sld (pc' := 981) C dL_980 rfl ?_
  refine l_aload_n (pc' := 982) C 0 dL_981 rfl rfl ?_
  refine l_iload_n (pc' := 983) C 3 dL_982 rfl rfl ?_
  refine l_iconst (pc' := 984) C dL_983 ki_2 rfl ?_
  refine l_iadd (pc' := 985) C dL_984 rfl ?_
  refine l_sld (pc' := 986) C dL_985 rfl ?_
  refine l_callM (out' := o_w) (fr' := 10) (lo' := 242) (pc' := 989) C FM_legFix rfl lmL_137 dL_986 [.int (G.2.2.2.2 (Int32.toNatClampNeg (a.1 + (1 : Int32)))), .int (G.2.2.2.2 (Int32.toNatClampNeg (a.1 + (2 : Int32))))] [.int x1] rfl rfl (Nat.le_of_ble_eq_true rfl) ⟨rfl, rfl⟩ (fun x h => cM_legFix _ G.2.1 C.2.2.2.2.2.2.2.2.2.2.1 a.2.2 (G.2.2.2.2 (Int32.toNatClampNeg (a.1 + (1 : Int32)))) (G.2.2.2.2 (Int32.toNatClampNeg (a.1 + (2 : Int32)))) x h) rfl (fun x2 _ => ?_)
  show Lw v G 989 _ [.int x2.1, .int x1] a.2.1 x2.2 _
  refine l_icmp_eq (tgt := 1960) (pc' := 992) C dL_989 rfl rfl ?_ ?_
  · exact w_end C hih _ _ _
  · refine l_iconst (pc' := 993) C dL_992 ki_0 rfl ?_
    exact l_ret0
