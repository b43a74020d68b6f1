/-! a segment that is flown over, on both sides -/

theorem PcR.of {c m c' m' : St} {b p : Nat} {R : Int} (h : PcR c m b R p) (h5 : c' (b + 6) 5 = c (b + 6) 5) (h8 : c' (b + 8) = c (b + 8)) (h57 : m' 0 57 = m 0 57) (hm : ∀ a, 29 ≤ a → a ≤ 36 → m' a = m a) : PcR c' m' b R p := by
  refine ⟨by rw [h5]; exact h.cc, by rw [h57]; exact h.cm, fun k hk => ?_⟩
  have hq := h.row k hk
  refine ⟨fun j hj => ?_, ?_, ?_, ?_, ?_⟩
  · rw [h8, hm _ (by omega) (by omega)]; exact hq.row j hj
  · rw [hm _ (by omega) (by omega)]; exact hq.len
  · rw [hm _ (by omega) (by omega)]; exact hq.crs
  · rw [hm _ (by omega) (by omega), hm _ (by omega) (by omega)]; exact hq.n1
  · rw [hm _ (by omega) (by omega), hm _ (by omega) (by omega)]; exact hq.n2
theorem dir_lock {c m : St} {b q n p g k : Nat} {R : Int} {ax ay : Int32} (hI : PI b q) (hR : R ≤ 5940000) (hD : Dm c) (hK : RefK m) (hp : PcR c m b R p) (hx : XY c m b R) (h126 : p < 126) (hk : k < 42) (hS : SF3 c m b n R k g) (c9 : c (b + 6) 9 = ax) (c10 : c (b + 6) 10 = ay) (hA : Nb (R + 308) ax ay) (hAd : dsq ax ay (m 8 k) (m 9 k) ≤ 308 * 308) :
    ∃ c' m' p', f_Pc_drawDirect c (b + 6) (nI k) = some c' ∧ (
  Gd (Ix (nI k) 42) <|
  Gd (Ix (nI k) 42) <|
  Option.bind (m_distance ax ay (m 10 k) (m 11 k)) fun x15 =>
  Gd (Ix (nI k) 42) <|
  Gd (Ix (nI k) 42) <|
  Option.bind (m_courseTo m ax ay (m 10 k) (m 11 k)) fun x16 =>
  Gd (Ix (nI k) 42) <|
  Option.bind (m_before ax (m 10 k) (c (b + 5) (k * 16 + 15)) x15) fun x17 =>
  Gd (Ix (nI k) 42) <|
  Option.bind (m_before ay (m 11 k) (c (b + 5) (k * 16 + 15)) x15) fun x18 =>
  Option.bind (m_piece m (nI g) (0 : Int32) (x15 - c (b + 5) (k * 16 + 15)) x16 x17 x18) fun x19 =>
  some x19) = some m' ∧ p' ≤ p + 1 ∧ PS c m c' m' b R p p' g ∧ Dm c' := by
  have g42 : Ix (nI k) 42 := Ix_n hk (by decide)
  obtain ⟨l, l1, l2, lc, lm, ldd⟩ := hS.sg.len
  have el : (nI l).toInt = (l : Int) := nI_toInt (by omega)
  have h0 := hS.sg.nbs.1
  obtain ⟨g', -, gc, gm⟩ := hS.sg.leg
  have hgc : c (b + 5) (k * 16 + 0) = nI g := by rw [gc, ← gm, hS.gm]
  have hN1 := hS.nl.1
  have hN2 := hS.nl.2
  rw [lm, el] at hN2
  obtain ⟨d, d1, d2, d3⟩ := dist_d (D := 308 + ((l : Int) + 2)) hA hS.sg.nbt (by omega) (by omega) (by omega) (dsq_tri (by decide) (by omega) hAd ldd)
  obtain ⟨v, hv, ev⟩ := cr_v c ax ay (m 10 k) (m 11 k)
  have ev' : m_courseTo m ax ay (m 10 k) (m 11 k) = some (nI v) := by rw [courseTo_e hK c]; exact ev
  have ed : (nI d).toInt = (d : Int) := nI_toInt (by omega)
  have hnb : Nb (R + 400) (bf ax (m 10 k) (c (b + 5) (k * 16 + 15)) (nI d)) (bf ay (m 11 k) (c (b + 5) (k * 16 + 15)) (nI d)) := (bf_nb0 (W := R + 308) (by omega) hA (hS.sg.nbt.le (by omega)) hN1 (by omega)).le (by omega)
  have e1 : (nI d - c (b + 5) (k * 16 + 15)).toInt = (d : Int) - (c (b + 5) (k * 16 + 15)).toInt := by rw [tI_sub (by rw [ed]; omega) (by rw [ed]; omega), ed]
  obtain ⟨c', m', p', q1, q2, q3, q4, -, -, q5⟩ := piece_lock (g := g) (v := v) (kd := 0) (L := nI d - c (b + 5) (k * 16 + 15)) hI hD hp hx h126 hv (fun q => by
    have q := Int32.lt_iff_toInt_lt.mp q
    rw [e1, show (0 : Int32).toInt = 0 by decide] at q
    refine ⟨((d : Int) - (c (b + 5) (k * 16 + 15)).toInt).toNat, by omega, i2 ?_⟩
    rw [e1, nI_toInt (by omega)]
    omega) hnb
  refine ⟨c', m', p', ?_, ?_, q3, q4, q5⟩
  · unfold f_Pc_drawDirect
    rw [rc_b63 hI, bd_e (sgg hI hD hk (by decide)), bd_e (sgg hI hD hk (by decide)), bd_e (sgg hI hD hk (by decide)), c9, c10, hS.sg.tx, hS.sg.ty, bd_e d2, bd_e ev, bd_e (bf_c _ _ _ _), bd_e (bf_c _ _ _ _), bd_e (sgg hI hD hk (by decide)), hgc]
    exact bd_e q1
  · rw [Gd_t g42, Gd_t g42, bd_e d1, Gd_t g42, Gd_t g42, bd_e ev', Gd_t g42, bd_e (bf_m _ _ _ _), Gd_t g42, bd_e (bf_m _ _ _ _)]
    exact bd_e q2
theorem reg_lock {c m : St} {b q n p g k v : Nat} {R : Int} {ax ay ox oy : Int32} (hI : PI b q) (hR : R ≤ 5940000) (hD : Dm c) (hK : RefK m) (hp : PcR c m b R p) (hx : XY c m b R) (h126 : p + 1 < 126) (hk : k < 42) (hS : SF3 c m b n R k g) (c9 : c (b + 6) 9 = ax) (c10 : c (b + 6) 10 = ay) (hA : Nb (R + 308) ax ay) (hAd : dsq ax ay (m 8 k) (m 9 k) ≤ 308 * 308)
    (eax : ax = m 8 k + ox) (eay : ay = m 9 k + oy) (eax' : ax.toInt = (m 8 k).toInt + ox.toInt) (eay' : ay.toInt = (m 9 k).toInt + oy.toInt) (hox : -310 ≤ ox.toInt ∧ ox.toInt ≤ 310) (hoy : -310 ≤ oy.toInt ∧ oy.toInt ≤ 310) (vm : m 13 k = nI v) :
    ∃ c' m' p', f_Pc_drawRegaining c (b + 6) (nI k) = some c' ∧ (
  Gd (Ix (nI k) 42) <|
  Option.bind (m_sx m (m 13 k)) fun x20 =>
  Lt ((Int32.toInt64 x20) : Int64) fun x21 =>
  Gd (Ix (nI k) 42) <|
  Option.bind (m_sy m (m 13 k)) fun x22 =>
  Lt ((Int32.toInt64 x22) : Int64) fun x23 =>
  Gd (Ix (nI k) 42) <|
  Lt (((Int32.toInt64 ax) - (Int32.toInt64 (m 8 k))) : Int64) fun x24 =>
  Gd (Ix (nI k) 42) <|
  Lt (((Int32.toInt64 ay) - (Int32.toInt64 (m 9 k))) : Int64) fun x25 =>
  Lt ((((x24 * x21) + (x25 * x23)) / (1000 : Int64)) : Int64) fun x26 =>
  Lt (((x24 * x23) - (x25 * x21)) : Int64) fun x27 =>
  Jn (fun (x28 : Int64) =>
  Lt ((x28 / (1000 : Int64)) : Int64) fun x30 =>
  Lt ((x26 + ((2 : Int64) * x30)) : Int64) fun x31 =>
  Gd (Ix (nI k) 42) <|
  Lt ((m 12 k) : Int32) fun x32 =>
  Jn (fun (x33 : Int64) =>
  Jn (fun (x35 : Int64) =>
  Lt ((Int64.toInt32 x35) : Int32) fun x37 =>
  Gd (Ix (nI k) 42) <|
  Gd (Ix (nI k) 42) <|
  Option.bind (m_before (m 10 k) (m 8 k) x37 x32) fun x38 =>
  Gd (Ix (nI k) 42) <|
  Gd (Ix (nI k) 42) <|
  Option.bind (m_before (m 11 k) (m 9 k) x37 x32) fun x39 =>
  Option.bind (m_distance ax ay x38 x39) fun x40 =>
  Option.bind (m_courseTo m ax ay x38 x39) fun x41 =>
  Option.bind (m_piece m (nI g) (0 : Int32) x40 x41 x38 x39) fun x42 =>
  Gd (Ix (nI k) 42) <|
  Gd (Ix (nI k) 42) <|
  Gd (Ix (nI k) 42) <|
  Option.bind (m_before (x42 8 k) (x42 10 k) (c (b + 5) (k * 16 + 15)) x32) fun x43 =>
  Gd (Ix (nI k) 42) <|
  Gd (Ix (nI k) 42) <|
  Option.bind (m_before (x42 9 k) (x42 11 k) (c (b + 5) (k * 16 + 15)) x32) fun x44 =>
  Option.bind (m_piece x42 (nI g) (0 : Int32) ((x32 - x37) - c (b + 5) (k * 16 + 15)) (x42 13 k) x43 x44) fun x45 =>
  some x45
  ) fun J36 =>
  if (x33 : Int64) ≤ (Int32.toInt64 (x32 - c (b + 5) (k * 16 + 15))) then (
  J36 x33
  ) else (
  J36 (Int32.toInt64 (x32 - c (b + 5) (k * 16 + 15)))
  )
  ) fun J34 =>
  if ((0 : Int64) : Int64) ≤ x31 then (
  J34 x31
  ) else (
  J34 (0 : Int64)
  )
  ) fun J29 =>
  if ((0 : Int64) : Int64) ≤ x27 then (
  J29 x27
  ) else (
  J29 (-x27)
  )) = some m' ∧ p' ≤ p + 2 ∧ PS c m c' m' b R p p' g ∧ Dm c' := by
  have g42 : Ix (nI k) 42 := Ix_n hk (by decide)
  obtain ⟨l, l1, l2, lc, lm, ldd⟩ := hS.sg.len
  have el : (nI l).toInt = (l : Int) := nI_toInt (by omega)
  have h0 := hS.sg.nbs.1
  have hsb := hS.sg.nbs.ab
  have hab := hA.ab
  obtain ⟨g', -, gc, gm⟩ := hS.sg.leg
  have hgc : c (b + 5) (k * 16 + 0) = nI g := by rw [gc, ← gm, hS.gm]
  have vc : c (b + 5) (k * 16 + 6) = nI v := by
    obtain ⟨v', -, e1, e2⟩ := hS.sg.crs
    rw [e1, ← e2, vm]
  have hN1 := hS.nl.1
  have hN2 := hS.nl.2
  rw [lm, el] at hN2
  have xX : (ax.toInt64 - (m 8 k).toInt64).toInt = ox.toInt := by rw [tL_sub (by rw [tw, tw]; omega) (by rw [tw, tw]; omega), tw, tw]; omega
  have xY : (ay.toInt64 - (m 9 k).toInt64).toInt = oy.toInt := by rw [tL_sub (by rw [tw, tw]; omega) (by rw [tw, tw]; omega), tw, tw]; omega
  have eM : (nI l - c (b + 5) (k * 16 + 15)).toInt = (l : Int) - (c (b + 5) (k * 16 + 15)).toInt := by rw [tI_sub (by rw [el]; omega) (by rw [el]; omega), el]
  obtain ⟨j, ej⟩ : ∃ j, j = imin (imax (((ox * sn (nI v)) + (oy * sn (nI v + 6))) / (1000 : Int32) + (2 : Int32) * iabs (((ox * sn (nI v + 6)) - (oy * sn (nI v))) / (1000 : Int32))) (0 : Int32)) (nI l - c (b + 5) (k * 16 + 15)) := ⟨_, rfl⟩
  have hr := fun Q J K => reg_e (Q := Q) (J := J) (K := K) hox hoy (sn_b (nI v)) (sn_b (nI v + 6)) (by omega) xX xY ej
  have hjb : 0 ≤ j.toInt ∧ j.toInt ≤ (nI l - c (b + 5) (k * 16 + 15)).toInt := (hr _ _ _ rfl rfl rfl).2
  have hxb : Nb (R + 2) (bf (m 10 k) (m 8 k) j (nI l)) (bf (m 11 k) (m 9 k) j (nI l)) := bf_nb (by omega) hS.sg.nbt hS.sg.nbs (by omega) hjb.1 (by omega)
  have hHd : dsq (m 8 k) (m 9 k) (bf (m 10 k) (m 8 k) j (nI l)) (bf (m 11 k) (m 9 k) j (nI l)) ≤ ((l : Int) + 2 + 2) * ((l : Int) + 2 + 2) := bf_d (by omega) hS.sg.nbt hS.sg.nbs (by omega) hjb.1 (by omega) (by omega) (by omega) (by rw [dsq_comm]; exact ldd)
  obtain ⟨d, d1, d2, d3⟩ := dist_d (D := 308 + ((l : Int) + 2 + 2)) hA hxb (by omega) (by omega) (by omega) (dsq_tri (by decide) (by omega) hAd hHd)
  obtain ⟨v', hv', ev⟩ := cr_v c ax ay (bf (m 10 k) (m 8 k) j (nI l)) (bf (m 11 k) (m 9 k) j (nI l))
  have ev' : m_courseTo m ax ay (bf (m 10 k) (m 8 k) j (nI l)) (bf (m 11 k) (m 9 k) j (nI l)) = some (nI v') := by rw [courseTo_e hK c]; exact ev
  obtain ⟨c1, m1, p1, q1, q2, q3, q4, -, -, q5⟩ := piece_lock (g := g) (v := v') (kd := 0) (L := nI d) hI hD hp hx (by omega) hv' (fun _ => ⟨d, by omega, rfl⟩) (hxb.le (by omega))
  have hS1 := q4.sf hS
  obtain ⟨c2, m2, p2, w1, w2, w3, w4, w5⟩ := rest_lock (B := j) hI hR q5 q4.pr q4.xy (by omega) hk hS1.sg hS1.nl hS1.gm hjb.1 (by omega)
  refine ⟨c2, m2, p2, ?_, ?_, by omega, q4.trans w4, w5⟩
  · have hlr : f_Pc_lengthToRegain c (b + 6) (nI k) = some j := by
      unfold f_Pc_lengthToRegain
      rw [rc_b63 hI, bd_e (sgg hI hD hk (by decide)), c9, hS.sg.sx, Lt_e, bd_e (sgg hI hD hk (by decide)), c10, hS.sg.sy, Lt_e, bd_e (sgg hI hD hk (by decide)), vc, bd_e (east_e c _), bd_e (sgg hI hD hk (by decide)), vc, bd_e (north_e c _), Lt_e, Lt_e, bd_e (sgg hI hD hk (by decide)), bd_e (sgg hI hD hk (by decide)), lc, Lt_e, eax, eay, Int32_cancel (by rw [← eax]; exact eax') (by omega), Int32_cancel (by rw [← eay]; exact eay') (by omega), ej]
    unfold f_Pc_drawRegaining f_Pc_onSegmentX f_Pc_onSegmentY
    rw [bd_e hlr, rc_b63 hI, bd_e (sgg hI hD hk (by decide)), bd_e (sgg hI hD hk (by decide)), bd_e (sgg hI hD hk (by decide)), hS.sg.sx, hS.sg.tx, bd_e (bf_c _ _ _ _), bd_e (sgg hI hD hk (by decide)), bd_e (sgg hI hD hk (by decide)), bd_e (sgg hI hD hk (by decide)), hS.sg.sy, hS.sg.ty, bd_e (bf_c _ _ _ _), bd_e rfl, bd_e rfl, lc, c9, c10, bd_e d2, bd_e ev, bd_e (sgg hI hD hk (by decide)), hgc, bd_e q1]
    exact bd_e w1
  · rw [Gd_t g42, vm, bd_e (sx_e hK _), Lt_e, Gd_t g42, bd_e (sy_e hK _), Lt_e, Gd_t g42, Lt_e, Gd_t g42, Lt_e, Lt_e, Lt_e, Jn_if, Lt_e, Lt_e, Gd_t g42, Lt_e, Jn_if, Jn_if, Lt_e, lm, (hr _ _ _ rfl rfl rfl).1, Gd_t g42, Gd_t g42, bd_e (bf_m _ _ _ _), Gd_t g42, Gd_t g42, bd_e (bf_m _ _ _ _), bd_e d1, bd_e ev', bd_e q2, Gd_t g42, Gd_t g42, Gd_t g42, bd_e (bf_m _ _ _ _), Gd_t g42, Gd_t g42, bd_e (bf_m _ _ _ _)]
    rw [q4.fm 12 (by decide) (by decide), q4.fm 13 (by decide) (by decide), q4.fm 8 (by decide) (by decide), q4.fm 9 (by decide) (by decide), q4.fm 10 (by decide) (by decide), q4.fm 11 (by decide) (by decide), q4.fc _ (by omega) (by omega), lm] at w2
    rw [q4.fm 13 (by decide) (by decide), q4.fm 8 (by decide) (by decide), q4.fm 9 (by decide) (by decide), q4.fm 10 (by decide) (by decide), q4.fm 11 (by decide) (by decide)]
    exact bd_e w2
