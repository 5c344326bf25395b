/-! The law: its start, what a call keeps, and the rows that its cases are made of. -/
set_option maxRecDepth 100000 in
theorem lq_KK {args : Array Value} {s : State} (hts : ∀ w ∈ lw_tbl, w.before args s = true) : ∃ (D : va_G) (ca : Nat → ClassId), am_KK D ca s := by
  have hts2 := lq_ts hts
  obtain ⟨c0, i0, k0⟩ := u_known (C := RX0) (T := TX0) (N := 11) (n := 11) hts2 (ax_cl6 0 RX0 TX0 11 rfl).1 (hts (.instantiable RX0 11) (List.mem_of_getElem? (i := 128) rfl))
  obtain ⟨c1, i1, k1⟩ := u_known (C := RX1) (T := TX1) (N := 5) (n := 5) hts2 (ax_cl6 1 RX1 TX1 5 rfl).1 (hts (.instantiable RX1 5) (List.mem_of_getElem? (i := 105) rfl))
  obtain ⟨c2, i2, k2⟩ := u_known (C := RX2) (T := TX2) (N := 7) (n := 7) hts2 (ax_cl6 2 RX2 TX2 7 rfl).1 (hts (.instantiable RX2 7) (List.mem_of_getElem? (i := 256) rfl))
  obtain ⟨c3, i3, k3⟩ := u_known (C := RX3) (T := TX3) (N := 5) (n := 5) hts2 (ax_cl6 3 RX3 TX3 5 rfl).1 (hts (.instantiable RX3 5) (List.mem_of_getElem? (i := 76) rfl))
  obtain ⟨c4, i4, k4⟩ := u_known (C := RX4) (T := TX4) (N := 5) (n := 5) hts2 (ax_cl6 4 RX4 TX4 5 rfl).1 (hts (.instantiable RX4 5) (List.mem_of_getElem? (i := 63) rfl))
  obtain ⟨c5, i5, k5⟩ := u_known (C := RX5) (T := TX5) (N := 27) (n := 27) hts2 (ax_cl6 5 RX5 TX5 27 rfl).1 (hts (.instantiable RX5 27) (List.mem_of_getElem? (i := 602) rfl))
  have w0 : (Cond.arrayClass .int).before args s = true := hts _ (List.mem_of_getElem? (i := 102) rfl)
  have w1 : (Cond.arrayClass .boolean).before args s = true := hts _ (List.mem_of_getElem? (i := 255) rfl)
  have w2 : (Cond.arrayClass .long).before args s = true := hts _ (List.mem_of_getElem? (i := 103) rfl)
  have w3 : (Cond.arrayOver (.array .int)).before args s = true := hts _ (List.mem_of_getElem? (i := 137) rfl)
  have w4 : (Cond.arrayOver (.object "StrandBoxes$Boxes")).before args s = true := hts _ (List.mem_of_getElem? (i := 71) rfl)
  have w5 : (Cond.arrayOver (.object "StrandBoxes$Halves")).before args s = true := hts _ (List.mem_of_getElem? (i := 73) rfl)
  have w6 : (Cond.arrayOver (.object "StrandBoxes$Sum")).before args s = true := hts _ (List.mem_of_getElem? (i := 75) rfl)
  have n1 : (Cond.methodLinkNest "StrandBoxes" 27 yX3_init "StrandBoxes").before args s = true := hts _ (List.mem_of_getElem? (i := 77) rfl)
  have n2 : (Cond.methodLinkNest "StrandBoxes" 34 yX1_init "StrandBoxes").before args s = true := hts _ (List.mem_of_getElem? (i := 106) rfl)
  obtain ⟨a0, q0, m0, x01, x02, x03⟩ := Cond.arrayClass_spec w0
  obtain ⟨a1, q1, m1, x11, x12, x13⟩ := Cond.arrayClass_spec w1
  obtain ⟨a2, q2, m2, x21, x22, x23⟩ := Cond.arrayClass_spec w2
  obtain ⟨m3, a3, q3, -, -, x32, x33, x34⟩ := arrayOverA_spec w3
  obtain ⟨m4, a4, q4, x41, -, x42, x43, x44⟩ := Cond.arrayOver_spec w4
  obtain ⟨m5, a5, q5, x51, -, x52, x53, x54⟩ := Cond.arrayOver_spec w5
  obtain ⟨m6, a6, q6, x61, -, x62, x63, x64⟩ := Cond.arrayOver_spec w6
  refine ⟨(fun k => if k = 0 then c0 else if k = 1 then c1 else if k = 2 then c2 else if k = 3 then c3 else if k = 4 then c4 else c5, fun k => if k = 0 then i0 else if k = 1 then i1 else if k = 2 then i2 else if k = 3 then i3 else if k = 4 then i4 else i5), fun k => if k = 0 then a0 else if k = 1 then a1 else if k = 2 then a2 else if k = 3 then a3 else if k = 4 then a4 else if k = 5 then a5 else a6, ⟨fun k q hq => ?_, fun k q hq => ?_⟩, va_Nw.of rfl n1, va_Nw.of rfl n2, va_AO.of w4, va_AO.of w5, va_AO.of w6, w3⟩
  · match k, hq with
    | 0, hq => cases hq; exact k0
    | 1, hq => cases hq; exact k1
    | 2, hq => cases hq; exact k2
    | 3, hq => cases hq; exact k3
    | 4, hq => cases hq; exact k4
    | 5, hq => cases hq; exact k5
    | k + 6, hq => simp [vwCl] at hq
  · match k, hq with
    | 0, hq => cases hq; exact ⟨fun n z => ⟨fun k h => (by cases h), q0, x02, m0, x03⟩, x01⟩
    | 1, hq => cases hq; exact ⟨fun n z => ⟨fun k h => (by cases h), q1, x12, m1, x13⟩, x11⟩
    | 2, hq => cases hq; exact ⟨fun n z => ⟨fun k h => (by cases h), q2, x22, m2, x23⟩, x21⟩
    | 3, hq => cases hq; exact ⟨fun n z => ⟨fun k h => (by cases h), q3, x32, m3, x33⟩, x34⟩
    | 4, hq => cases hq; exact ⟨fun n z => ⟨fun k h => (by cases h), q4, x42, m4, x43⟩, q4, m4, x42, x43, x41, x44⟩
    | 5, hq => cases hq; exact ⟨fun n z => ⟨fun k h => (by cases h), q5, x52, m5, x53⟩, q5, m5, x52, x53, x51, x54⟩
    | 6, hq => cases hq; exact ⟨fun n z => ⟨fun k h => (by cases h), q6, x62, m6, x63⟩, q6, m6, x62, x63, x61, x64⟩
    | k + 7, hq => simp [am_tys] at hq
/-- the reference's contents stay over a call of the class -/
theorem lq_mI {c d : aq_C} (h : mo_I 527 c) (hs : aq_sm (fun a => a < 527) c d) : mo_I 527 d := by
  obtain ⟨⟨h1, h2, h3, h4, h5⟩, h6⟩ := h
  have e0 : ∀ i, d 527 i = c 527 i := hs _ (by omega)
  have e5 : ∀ i, d (527 + 5) i = c (527 + 5) i := hs _ (by omega)
  have e6 : ∀ i, d (527 + 6) i = c (527 + 6) i := hs _ (by omega)
  have e7 : ∀ i, d (527 + 7) i = c (527 + 7) i := hs _ (by omega)
  have e9 : ∀ i, d (527 + 9) i = c (527 + 9) i := hs _ (by omega)
  have e10 : ∀ i, d (527 + 10) i = c (527 + 10) i := hs _ (by omega)
  refine ⟨⟨by rw [e0]; exact h1, by rw [e0]; exact h2, by rw [e0]; exact h3, by rw [e0]; exact h4, fun i i0 i1 => ?_⟩, fun s s0 s1 => ?_⟩
  · rw [e0] at i1
    rw [e10, e0]
    exact h5 i i0 i1
  · obtain ⟨u1, u2, u3, u4, u5⟩ := h6 s s0 s1
    refine ⟨by rw [e5]; exact u1, by rw [e5]; exact u2, by rw [e6]; exact u3, by rw [e6]; exact u4, fun k k0 k1 => ?_⟩
    rw [e6] at k1
    rw [e7, e5, e9]
    exact u5 k k0 k1
/-- the class's contents stay over a call of the reference -/
theorem lq_cI {S : Nat → Prop} {c d : aq_C} (hI : cl_I c) (hs : aq_sm S c d) (hS : ∀ a, a < 527 → ¬ S a) : cl_I d :=
  ⟨fun j hj => aq_rgs (hI.1 j hj) hs (hS _ (by have := sb_bnd j hj; omega)), cr_lc (hs 8 (hS _ (by omega))) (hs 9 (hS _ (by omega))) hI.2.1, fun j hj => sb_uc (hs _ (hS _ (by omega))) (hs _ (hS _ (by omega))) (hs _ (hS _ (by omega))) (hI.2.2 j hj)⟩
theorem lq_cmp {L i : Nat} (hL : L ≤ 3072) (hi : i ≤ 4000) : Int32.ofNat L - 6 < nI i ↔ L < i + 6 := by
  rw [show Int32.ofNat L = Int32.ofInt (L : Int) by rw [Int32.ofInt_eq_ofNat], show (6 : Int32) = Int32.ofInt 6 from rfl, ← am_o_sub, show nI i = Int32.ofInt (i : Int) by unfold nI; rw [Int32.ofInt_eq_ofNat], am_w_id (am_ri (by omega) (by omega)), am_o_lt (am_ri (by omega) (by omega)) (am_ri (by omega) (by omega))]
  omega
/-- between two calls -/
def lq_T (D : va_G) (ca : Nat → ClassId) (s : State) (b i z : Nat) (F : aq_F) (cc : aq_C) (ad : Nat → Nat) (H : Heap) (locs : List Loc) (LS : Array Slot) : Prop := lq_W D ca s (aq_h 551 z F cc) ad H locs ∧ sb_C 551 F ∧ mo_C 551 F 527 ∧ cl_I cc ∧ mo_I 527 cc ∧ z ≤ 100000 ∧ lv_has LS 4 [(3, .int (nI i)), (2, .ref (ad 527)), (1, .ref (ad 0)), (0, .ref b)]
section LQ
variable {p : Program} {l : Launch} {e : Env} {s : State} {m : MethodId} {below : List Frame} {meth : Method} {c : Code} {Q : State → Prop} {D : va_G} {ca : Nat → ClassId} {b L : Nat} {xs : Nat → Int32} {H : Heap} {locs : List Loc} {LS : Array Slot} {ad : Nat → Nat} {i z : Nat} {F : aq_F} {cc : aq_C}
/-- the script's number at i + k -/
theorem lq_arg {pc pc2 k cells slots x0 y0 x1 y1 x2 y2 x3 y3 x4 y4 : Nat} {rest : List Value} (C0 : lw_At p s m meth c b L xs) (hL : L ≤ 3072) (hi : i + 6 ≤ L) (hT : lq_T D ca s b i z F cc ad H locs LS) (hk : k < 6) (hpc : pc2 = pc + 5) (h0 : am_row ac_LW pc = some (.aload_n 0, 1, x0, y0)) (h1 : am_row ac_LW (pc + 1) = some (.iload_n 3, 1, x1, y1)) (h2 : am_row ac_LW (pc + 2) = some (.iconst (k : Int), 1, x2, y2)) (h3 : am_row ac_LW (pc + 3) = some (.iadd, 1, x3, y3)) (h4 : am_row ac_LW (pc + 4) = some (.iaload, 1, x4, y4))
    (kk : W p l e room_1 s m #[Value.ref b] below meth c H locs cells slots Q (F0 m pc2 LS (am_cv ad (vI (xs (i + k)).toInt) :: rest))) : W p l e room_1 s m #[Value.ref b] below meth c H locs cells slots Q (F0 m pc LS rest) := by
  obtain ⟨hx, hb, hr, hml, hown, hts, hX, hbl, hlocks, hgv⟩ := C0
  obtain ⟨hw, -, -, -, -, -, hl⟩ := hT
  subst hpc
  refine lv_aload_n hx hb (lq_d h0) rfl (lv_at hl 3 rfl) ?_
  refine lv_iload_n hx hb (lq_d h1) rfl (lv_at hl 0 rfl) ?_
  refine lv_iconst (v := nI k) hx hb (lq_d h2) (by unfold nI; rw [Int32.ofInt_eq_ofNat]) ?_
  refine lv_iadd hx hb (lq_d h3) ?_
  rw [nI_add]
  refine va_sld (A := fun q => s.heap.size ≤ q) hx hb hX hbl (Nat.not_le.mpr hbl) hw.2.2.2 (vp_in_nI (show i + k < L by omega) (by omega)) (lq_d h4) ?_
  rw [nI_clamp (by omega)]
  have e : am_cv ad (vI (xs (i + k)).toInt) = .int (xs (i + k)) := congrArg Value.int (Int32.ofInt_toInt _)
  rw [e] at kk
  exact kk
set_option maxRecDepth 100000 in
/-- a long out of the script's numbers at i + k and i + j -/
theorem lq_lng {pc pc2 k j cells slots x0 y0 x1 y1 x2 y2 x3 y3 x4 y4 x5 y5 x6 y6 x7 y7 x8 y8 x9 y9 u0 v0 u1 v1 u2 v2 u3 v3 u4 v4 u5 v5 u6 v6 : Nat} {rest : List Value} (C0 : lw_At p s m meth c b L xs) (hL : L ≤ 3072) (hi : i + 6 ≤ L) (hT : lq_T D ca s b i z F cc ad H locs LS) (hk : k < 6) (hj : j < 6) (hpc : pc2 = pc + 20) (h0 : am_row ac_LW pc = some (.aload_n 0, 1, x0, y0)) (h1 : am_row ac_LW (pc + 1) = some (.iload_n 3, 1, x1, y1)) (h2 : am_row ac_LW (pc + 2) = some (.iconst (k : Int), 1, x2, y2)) (h3 : am_row ac_LW (pc + 3) = some (.iadd, 1, x3, y3)) (h4 : am_row ac_LW (pc + 4) = some (.iaload, 1, x4, y4))
    (h5 : am_row ac_LW (pc + 5) = some (.i2l, 1, x5, y5)) (h6 : am_row ac_LW (pc + 6) = some (.bipush 32, 2, x6, y6)) (h8 : am_row ac_LW (pc + 8) = some (.lshl, 1, x7, y7)) (g0 : am_row ac_LW (pc + 9) = some (.aload_n 0, 1, x8, y8)) (g1 : am_row ac_LW (pc + 10) = some (.iload_n 3, 1, x9, y9)) (g2 : am_row ac_LW (pc + 11) = some (.iconst (j : Int), 1, u0, v0)) (g3 : am_row ac_LW (pc + 12) = some (.iadd, 1, u1, v1)) (g4 : am_row ac_LW (pc + 13) = some (.iaload, 1, u2, v2)) (g5 : am_row ac_LW (pc + 14) = some (.i2l, 1, u3, v3)) (g6 : am_row ac_LW (pc + 15) = some (.ldc2_w 31, 3, u4, v4)) (g7 : am_row ac_LW (pc + 18) = some (.land, 1, u5, v5)) (g8 : am_row ac_LW (pc + 19) = some (.lor, 1, u6, v6))
    (kk : ∀ V : Int64, V = (xs (i + k)).toInt64 <<< ((32 : Int32).toInt64 &&& 63) ||| (xs (i + j)).toInt64 &&& 4294967295 → W p l e room_1 s m #[Value.ref b] below meth c H locs cells slots Q (F0 m pc2 LS (am_cv ad (vL V.toInt) :: rest))) : W p l e room_1 s m #[Value.ref b] below meth c H locs cells slots Q (F0 m pc LS rest) := by
  refine lq_arg C0 hL hi hT hk rfl h0 h1 h2 h3 h4 ?_
  obtain ⟨hx, hb, hr, hml, hown, hts, hX, hbl, hlocks, hgv⟩ := id C0
  refine lv_i2l hx hb (lq_d h5) rfl ?_
  refine lv_bipush (v := 32) hx hb (lq_d h6) (by decide) ?_
  refine lv_lshl hx hb (lq_d h8) rfl ?_
  refine lq_arg C0 hL hi hT hj rfl g0 g1 g2 g3 g4 ?_
  refine lv_i2l hx hb (lq_d g5) rfl ?_
  refine lv_ldc2 (own := R_law) (v := 4294967295) hx hb hown (hts _ (List.mem_of_getElem? (i := 908) rfl)) (lq_d g6) ?_
  refine lv_land hx hb (lq_d g7) ?_
  refine lv_lor hx hb (lq_d g8) ?_
  refine lv_topl (fun V eV => ?_)
  have h := kk V (by rw [eV]; simp only [am_cv, Int32.ofInt_toInt])
  subst hpc
  have e : am_cv ad (vL V.toInt) = .long V := congrArg Value.long (Int64.ofInt_toInt _)
  rw [e] at h
  exact h
/-- a call of the class -/
theorem lq_cx {pc idx x y mL : Nat} {as2 rest : List am_V} {C2 : am_C} {P : Option am_V → aq_C → Prop} (C0 : lw_At p s m meth c b L xs) (hKK : am_KK D ca s) (hT : lq_T D ca s b i z F cc ad H locs LS) (hrow : am_row ac_LW pc = some (.invokevirtual idx, 3, x, y)) (hx5 : x / 1000 = 5) (hM : ac_L[x % 1000]? = some (C2, mL)) (hn : as2.length + 1 = y) (hcat : ((vR 0 :: as2).map am_cat).sum ≤ mL) (hv : ∀ v ∈ as2, am_vk 551 v) (hr5 : ∀ w ∈ rest, am_vk 551 w) (hr8 : (rest.map am_cat).sum ≤ 8) (hE : am_E C2 (0, am_pad mL (vR 0 :: as2), [], aq_h 551 z F cc) (aq_Z 551 z F (fun a => a < 527) cc (fun r d => P r d ∧ cl_I d)))
    (k : ∀ (r : Option am_V) (d : aq_C) (ad2 : Nat → Nat) (H2 : Heap) (locs2 : List Loc), (∃ n, am_x ac_P n C2 (0, am_pad mL (vR 0 :: as2), [], aq_h 551 z F cc) = some (r, aq_h 551 z F d)) → P r d → aq_sm (fun a => a < 527) cc d → lq_T D ca s b i z F d ad2 H2 locs2 LS → (∀ j, j < 551 → ad2 j = ad j) → (∀ v, r = some v → am_vk 551 v) → W p l e room_1 s m #[Value.ref b] below meth c H2 locs2 551 z Q (F0 m (pc + 3) LS ((r.toList ++ rest).map (am_cv ad2)))) : W p l e room_1 s m #[Value.ref b] below meth c H locs 551 z Q (F0 m pc LS (((vR 0 :: as2).reverse ++ rest).map (am_cv ad))) := by
  obtain ⟨hw, hC, hMo, hI, hJ, hz, hl⟩ := hT
  refine lq_cv (h := aq_h 551 z F cc) C0 hKK hrow hM hE hn hcat (show 0 < 551 by omega) (by rw [aq_hc hC.2.1, hx5]) hv hw hl.1 hr5 hr8 ?_ ?_
  · rintro r h2 ⟨d, rfl, -, -⟩
    exact ⟨show 551 ≤ 600000 by omega, show z ≤ 7302249 by omega⟩
  · rintro r h2 ad2 H2 locs2 hrun ⟨d, rfl, hs, hp, hq⟩ g1 g2 g3
    have g1 : ∀ j, j < 551 → ad2 j = ad j := g1
    exact k r d ad2 H2 locs2 hrun hp hs ⟨g3, hC, hMo, hq, lq_mI hJ hs, hz, by rw [g1 527 (by omega), g1 0 (by omega)]; exact hl⟩ g1 g2
/-- a call of the reference -/
theorem lq_cm {pc idx x y mL : Nat} {as2 rest : List am_V} {C2 : am_C} {P : Option am_V → aq_C → Prop} (C0 : lw_At p s m meth c b L xs) (hKK : am_KK D ca s) (hT : lq_T D ca s b i z F cc ad H locs LS) (hrow : am_row ac_LW pc = some (.invokevirtual idx, 3, x, y)) (hx5 : x / 1000 = 6) (hM : ac_L[x % 1000]? = some (C2, mL)) (hn : as2.length + 1 = y) (hcat : ((vR 527 :: as2).map am_cat).sum ≤ mL) (hv : ∀ v ∈ as2, am_vk 551 v) (hr5 : ∀ w ∈ rest, am_vk 551 w) (hr8 : (rest.map am_cat).sum ≤ 8) (hE : am_E C2 (0, am_pad mL (vR 527 :: as2), [], aq_h 551 z F cc) (aq_Z 551 z F (fun a => 527 ≤ a ∧ a < 527 + 24) cc (fun r d => P r d ∧ mo_I 527 d)))
    (k : ∀ (r : Option am_V) (d : aq_C) (ad2 : Nat → Nat) (H2 : Heap) (locs2 : List Loc), (∃ n, am_x ac_P n C2 (0, am_pad mL (vR 527 :: as2), [], aq_h 551 z F cc) = some (r, aq_h 551 z F d)) → P r d → aq_sm (fun a => 527 ≤ a ∧ a < 527 + 24) cc d → lq_T D ca s b i z F d ad2 H2 locs2 LS → (∀ j, j < 551 → ad2 j = ad j) → (∀ v, r = some v → am_vk 551 v) → W p l e room_1 s m #[Value.ref b] below meth c H2 locs2 551 z Q (F0 m (pc + 3) LS ((r.toList ++ rest).map (am_cv ad2)))) : W p l e room_1 s m #[Value.ref b] below meth c H locs 551 z Q (F0 m pc LS (((vR 527 :: as2).reverse ++ rest).map (am_cv ad))) := by
  obtain ⟨hw, hC, hMo, hI, hJ, hz, hl⟩ := hT
  refine lq_cv (h := aq_h 551 z F cc) C0 hKK hrow hM hE hn hcat (show 527 < 551 by omega) (by rw [aq_hc hMo.1.2.1, hx5]) hv hw hl.1 hr5 hr8 ?_ ?_
  · rintro r h2 ⟨d, rfl, -, -⟩
    exact ⟨show 551 ≤ 600000 by omega, show z ≤ 7302249 by omega⟩
  · rintro r h2 ad2 H2 locs2 hrun ⟨d, rfl, hs, hp, hq⟩ g1 g2 g3
    have g1 : ∀ j, j < 551 → ad2 j = ad j := g1
    exact k r d ad2 H2 locs2 hrun hp hs ⟨g3, hC, hMo, lq_cI hI hs (fun a ha => by omega), hq, hz, by rw [g1 527 (by omega), g1 0 (by omega)]; exact hl⟩ g1 g2
/-- the same, of a method that leaves the row of crossings as it is -/
theorem lq_gx {pc idx x y mL : Nat} {as2 rest : List am_V} {C2 : am_C} {P : Option am_V → aq_C → Prop} (C0 : lw_At p s m meth c b L xs) (hKK : am_KK D ca s) (hT : lq_T D ca s b i z F cc ad H locs LS) (hrow : am_row ac_LW pc = some (.invokevirtual idx, 3, x, y)) (hx5 : x / 1000 = 5) (hG : lq_G (x % 1000) = true) (hM : ac_L[x % 1000]? = some (C2, mL)) (hn : as2.length + 1 = y) (hcat : ((vR 0 :: as2).map am_cat).sum ≤ mL) (hv : ∀ v ∈ as2, am_vk 551 v) (hr5 : ∀ w ∈ rest, am_vk 551 w) (hr8 : (rest.map am_cat).sum ≤ 8) (hE : am_E C2 (0, am_pad mL (vR 0 :: as2), [], aq_h 551 z F cc) (aq_Z 551 z F (fun a => a < 527) cc (fun r d => P r d ∧ cl_I d)))
    (k : ∀ (r : Option am_V) (d : aq_C) (ad2 : Nat → Nat) (H2 : Heap) (locs2 : List Loc), P r d → lq_e cc d → lq_T D ca s b i z F d ad2 H2 locs2 LS → (∀ v, r = some v → am_vk 551 v) → W p l e room_1 s m #[Value.ref b] below meth c H2 locs2 551 z Q (F0 m (pc + 3) LS ((r.toList ++ rest).map (am_cv ad2)))) : W p l e room_1 s m #[Value.ref b] below meth c H locs 551 z Q (F0 m pc LS (((vR 0 :: as2).reverse ++ rest).map (am_cv ad))) := by
  refine lq_cx C0 hKK hT hrow hx5 hM hn hcat hv hr5 hr8 hE ?_
  rintro r d ad2 H2 locs2 ⟨n, hrun⟩ hp - hT2 - g2
  have hf := fr_x lq_Gok n (lq_Gok _ hG _ hM) hrun
  exact k r d ad2 H2 locs2 hp (lq_fe hT.2.1 hT.2.2.1 hf) hT2 g2
/-- the same, of a method that leaves the row of crossings as it is -/
theorem lq_gm {pc idx x y mL : Nat} {as2 rest : List am_V} {C2 : am_C} {P : Option am_V → aq_C → Prop} (C0 : lw_At p s m meth c b L xs) (hKK : am_KK D ca s) (hT : lq_T D ca s b i z F cc ad H locs LS) (hrow : am_row ac_LW pc = some (.invokevirtual idx, 3, x, y)) (hx5 : x / 1000 = 6) (hG : lq_G (x % 1000) = true) (hM : ac_L[x % 1000]? = some (C2, mL)) (hn : as2.length + 1 = y) (hcat : ((vR 527 :: as2).map am_cat).sum ≤ mL) (hv : ∀ v ∈ as2, am_vk 551 v) (hr5 : ∀ w ∈ rest, am_vk 551 w) (hr8 : (rest.map am_cat).sum ≤ 8) (hE : am_E C2 (0, am_pad mL (vR 527 :: as2), [], aq_h 551 z F cc) (aq_Z 551 z F (fun a => 527 ≤ a ∧ a < 527 + 24) cc (fun r d => P r d ∧ mo_I 527 d)))
    (k : ∀ (r : Option am_V) (d : aq_C) (ad2 : Nat → Nat) (H2 : Heap) (locs2 : List Loc), P r d → lq_e cc d → lq_T D ca s b i z F d ad2 H2 locs2 LS → (∀ v, r = some v → am_vk 551 v) → W p l e room_1 s m #[Value.ref b] below meth c H2 locs2 551 z Q (F0 m (pc + 3) LS ((r.toList ++ rest).map (am_cv ad2)))) : W p l e room_1 s m #[Value.ref b] below meth c H locs 551 z Q (F0 m pc LS (((vR 527 :: as2).reverse ++ rest).map (am_cv ad))) := by
  refine lq_cm C0 hKK hT hrow hx5 hM hn hcat hv hr5 hr8 hE ?_
  rintro r d ad2 H2 locs2 ⟨n, hrun⟩ hp - hT2 - g2
  have hf := fr_x lq_Gok n (lq_Gok _ hG _ hM) hrun
  exact k r d ad2 H2 locs2 hp (lq_fe hT.2.1 hT.2.2.1 hf) hT2 g2
theorem lq_px {pc pc2 idx x y mL x1 y1 : Nat} {as2 : List am_V} {C2 : am_C} (C0 : lw_At p s m meth c b L xs) (hKK : am_KK D ca s) (hT : lq_T D ca s b i z F cc ad H locs LS) (hrow : am_row ac_LW pc = some (.invokevirtual idx, 3, x, y)) (hpop : am_row ac_LW (pc + 3) = some (.pop, 1, x1, y1)) (hpc : pc2 = pc + 4) (hx5 : x / 1000 = 5) (hG : lq_G (x % 1000) = true) (hM : ac_L[x % 1000]? = some (C2, mL)) (hn : as2.length + 1 = y) (hcat : ((vR 0 :: as2).map am_cat).sum ≤ mL) (hv : ∀ v ∈ as2, am_vk 551 v) (hE : am_E C2 (0, am_pad mL (vR 0 :: as2), [], aq_h 551 z F cc) (aq_Z 551 z F (fun a => a < 527) cc (fun r d => aq_vi r ∧ cl_I d)))
    (k : ∀ (d : aq_C) (ad2 : Nat → Nat) (H2 : Heap) (locs2 : List Loc), lq_e cc d → lq_T D ca s b i z F d ad2 H2 locs2 LS → W p l e room_1 s m #[Value.ref b] below meth c H2 locs2 551 z Q (F0 m pc2 LS [])) : W p l e room_1 s m #[Value.ref b] below meth c H locs 551 z Q (F0 m pc LS (((vR 0 :: as2).reverse ++ []).map (am_cv ad))) := by
  refine lq_gx (rest := []) (P := fun r _ => aq_vi r) C0 hKK hT hrow hx5 hG hM hn hcat hv (fun w hw => absurd hw List.not_mem_nil) (Nat.zero_le _) hE ?_
  rintro r d ad2 H2 locs2 ⟨v, rfl⟩ g0 g1 -
  subst hpc
  exact lv_pop C0.1 C0.2.1 (lq_d hpop) rfl (k d ad2 H2 locs2 g0 g1)
theorem lq_pxl {pc pc2 idx x y mL x1 y1 : Nat} {as2 : List am_V} {C2 : am_C} (C0 : lw_At p s m meth c b L xs) (hKK : am_KK D ca s) (hT : lq_T D ca s b i z F cc ad H locs LS) (hrow : am_row ac_LW pc = some (.invokevirtual idx, 3, x, y)) (hpop : am_row ac_LW (pc + 3) = some (.pop2, 1, x1, y1)) (hpc : pc2 = pc + 4) (hx5 : x / 1000 = 5) (hG : lq_G (x % 1000) = true) (hM : ac_L[x % 1000]? = some (C2, mL)) (hn : as2.length + 1 = y) (hcat : ((vR 0 :: as2).map am_cat).sum ≤ mL) (hv : ∀ v ∈ as2, am_vk 551 v) (hE : am_E C2 (0, am_pad mL (vR 0 :: as2), [], aq_h 551 z F cc) (aq_Z 551 z F (fun a => a < 527) cc (fun r d => aq_vl r ∧ cl_I d)))
    (k : ∀ (d : aq_C) (ad2 : Nat → Nat) (H2 : Heap) (locs2 : List Loc), lq_e cc d → lq_T D ca s b i z F d ad2 H2 locs2 LS → W p l e room_1 s m #[Value.ref b] below meth c H2 locs2 551 z Q (F0 m pc2 LS [])) : W p l e room_1 s m #[Value.ref b] below meth c H locs 551 z Q (F0 m pc LS (((vR 0 :: as2).reverse ++ []).map (am_cv ad))) := by
  refine lq_gx (rest := []) (P := fun r _ => aq_vl r) C0 hKK hT hrow hx5 hG hM hn hcat hv (fun w hw => absurd hw List.not_mem_nil) (Nat.zero_le _) hE ?_
  rintro r d ad2 H2 locs2 ⟨v, rfl⟩ g0 g1 -
  subst hpc
  exact lv_pop2_2 C0.1 C0.2.1 (lq_d hpop) rfl (k d ad2 H2 locs2 g0 g1)
theorem lq_pm {pc pc2 idx x y mL x1 y1 : Nat} {as2 : List am_V} {C2 : am_C} (C0 : lw_At p s m meth c b L xs) (hKK : am_KK D ca s) (hT : lq_T D ca s b i z F cc ad H locs LS) (hrow : am_row ac_LW pc = some (.invokevirtual idx, 3, x, y)) (hpop : am_row ac_LW (pc + 3) = some (.pop, 1, x1, y1)) (hpc : pc2 = pc + 4) (hx5 : x / 1000 = 6) (hG : lq_G (x % 1000) = true) (hM : ac_L[x % 1000]? = some (C2, mL)) (hn : as2.length + 1 = y) (hcat : ((vR 527 :: as2).map am_cat).sum ≤ mL) (hv : ∀ v ∈ as2, am_vk 551 v) (hE : am_E C2 (0, am_pad mL (vR 527 :: as2), [], aq_h 551 z F cc) (aq_Z 551 z F (fun a => 527 ≤ a ∧ a < 527 + 24) cc (fun r d => aq_vi r ∧ mo_I 527 d)))
    (k : ∀ (d : aq_C) (ad2 : Nat → Nat) (H2 : Heap) (locs2 : List Loc), lq_e cc d → lq_T D ca s b i z F d ad2 H2 locs2 LS → W p l e room_1 s m #[Value.ref b] below meth c H2 locs2 551 z Q (F0 m pc2 LS [])) : W p l e room_1 s m #[Value.ref b] below meth c H locs 551 z Q (F0 m pc LS (((vR 527 :: as2).reverse ++ []).map (am_cv ad))) := by
  refine lq_gm (rest := []) (P := fun r _ => aq_vi r) C0 hKK hT hrow hx5 hG hM hn hcat hv (fun w hw => absurd hw List.not_mem_nil) (Nat.zero_le _) hE ?_
  rintro r d ad2 H2 locs2 ⟨v, rfl⟩ g0 g1 -
  subst hpc
  exact lv_pop C0.1 C0.2.1 (lq_d hpop) rfl (k d ad2 H2 locs2 g0 g1)
theorem lq_pml {pc pc2 idx x y mL x1 y1 : Nat} {as2 : List am_V} {C2 : am_C} (C0 : lw_At p s m meth c b L xs) (hKK : am_KK D ca s) (hT : lq_T D ca s b i z F cc ad H locs LS) (hrow : am_row ac_LW pc = some (.invokevirtual idx, 3, x, y)) (hpop : am_row ac_LW (pc + 3) = some (.pop2, 1, x1, y1)) (hpc : pc2 = pc + 4) (hx5 : x / 1000 = 6) (hG : lq_G (x % 1000) = true) (hM : ac_L[x % 1000]? = some (C2, mL)) (hn : as2.length + 1 = y) (hcat : ((vR 527 :: as2).map am_cat).sum ≤ mL) (hv : ∀ v ∈ as2, am_vk 551 v) (hE : am_E C2 (0, am_pad mL (vR 527 :: as2), [], aq_h 551 z F cc) (aq_Z 551 z F (fun a => 527 ≤ a ∧ a < 527 + 24) cc (fun r d => aq_vl r ∧ mo_I 527 d)))
    (k : ∀ (d : aq_C) (ad2 : Nat → Nat) (H2 : Heap) (locs2 : List Loc), lq_e cc d → lq_T D ca s b i z F d ad2 H2 locs2 LS → W p l e room_1 s m #[Value.ref b] below meth c H2 locs2 551 z Q (F0 m pc2 LS [])) : W p l e room_1 s m #[Value.ref b] below meth c H locs 551 z Q (F0 m pc LS (((vR 527 :: as2).reverse ++ []).map (am_cv ad))) := by
  refine lq_gm (rest := []) (P := fun r _ => aq_vl r) C0 hKK hT hrow hx5 hG hM hn hcat hv (fun w hw => absurd hw List.not_mem_nil) (Nat.zero_le _) hE ?_
  rintro r d ad2 H2 locs2 ⟨v, rfl⟩ g0 g1 -
  subst hpc
  exact lv_pop2_2 C0.1 C0.2.1 (lq_d hpop) rfl (k d ad2 H2 locs2 g0 g1)
end LQ
