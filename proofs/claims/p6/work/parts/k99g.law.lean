/-! The law's cases. Printed by wip/p20/law/genC.py. -/
theorem lq_k0 {p : Program} {l : Launch} {e : Env} {s : State} {m : MethodId} {below : List Frame} {meth : Method} {c : Code} {Q : State → Prop} {D : va_G} {ca : Nat → ClassId} {b L : Nat} {xs : Nat → Int32} {H : Heap} {locs : List Loc} {LS : Array Slot} {ad : Nat → Nat} {i z : Nat} {F : aq_F} {cc : aq_C} (C0 : lw_At p s m meth c b L xs) (hKK : am_KK D ca s) (hL : L ≤ 3072) (hi : i + 6 ≤ L) (K : ∀ (d : aq_C) (ad2 : Nat → Nat) (H2 : Heap) (locs2 : List Loc), lq_J d → lq_T D ca s b i z F d ad2 H2 locs2 LS → W p l e room_1 s m #[Value.ref b] below meth c H2 locs2 551 z Q (F0 m 1022 LS [])) (hj : lq_J cc) (hT : lq_T D ca s b i z F cc ad H locs LS) : W p l e room_1 s m #[Value.ref b] below meth c H locs 551 z Q (F0 m 136 LS []) := by
  obtain ⟨hw, hC, hM, hI, hJ, hz, hl⟩ := id hT
  refine lv_aload_n C0.1 C0.2.1 (lq_d rfl) rfl (lv_at hl 2 rfl) ?_
  refine lq_arg (k := 1) (pc2 := 142) C0 hL hi hT (by decide) rfl rfl rfl rfl rfl rfl ?_
  refine lq_arg (k := 2) (pc2 := 147) C0 hL hi hT (by decide) rfl rfl rfl rfl rfl rfl ?_
  refine lq_px (as2 := [vI (xs (i + 1)).toInt, vI (xs (i + 2)).toInt]) (pc2 := 151) C0 hKK hT rfl rfl rfl rfl rfl rfl rfl (Nat.le_of_ble_eq_true rfl) (List.forall_mem_cons.mpr ⟨am_rI _, (List.forall_mem_cons.mpr ⟨am_rI _, (fun _ h => absurd h List.not_mem_nil)⟩)⟩) (qn_X4_many hC hI) ?_
  intro cc ad H locs e1 hT
  obtain ⟨hw, hC, hM, hI, hJ, hz, hl⟩ := id hT
  replace hj := hj.e e1
  refine lv_aload_n C0.1 C0.2.1 (lq_d rfl) rfl (lv_at hl 1 rfl) ?_
  refine lq_arg (k := 1) (pc2 := 157) C0 hL hi hT (by decide) rfl rfl rfl rfl rfl rfl ?_
  refine lq_arg (k := 2) (pc2 := 162) C0 hL hi hT (by decide) rfl rfl rfl rfl rfl rfl ?_
  refine lq_pm (as2 := [vI (xs (i + 1)).toInt, vI (xs (i + 2)).toInt]) (pc2 := 166) C0 hKK hT rfl rfl rfl rfl rfl rfl rfl (Nat.le_of_ble_eq_true rfl) (List.forall_mem_cons.mpr ⟨am_rI _, (List.forall_mem_cons.mpr ⟨am_rI _, (fun _ h => absurd h List.not_mem_nil)⟩)⟩) (qm_X5_many hM hJ) ?_
  intro cc ad H locs e1 hT
  obtain ⟨hw, hC, hM, hI, hJ, hz, hl⟩ := id hT
  replace hj := hj.e e1
  exact lv_goto (tgt := 1022) C0.1 C0.2.1 (lq_d rfl) (by decide) (K cc ad H locs hj hT)
theorem lq_k1 {p : Program} {l : Launch} {e : Env} {s : State} {m : MethodId} {below : List Frame} {meth : Method} {c : Code} {Q : State → Prop} {D : va_G} {ca : Nat → ClassId} {b L : Nat} {xs : Nat → Int32} {H : Heap} {locs : List Loc} {LS : Array Slot} {ad : Nat → Nat} {i z : Nat} {F : aq_F} {cc : aq_C} (C0 : lw_At p s m meth c b L xs) (hKK : am_KK D ca s) (hL : L ≤ 3072) (hi : i + 6 ≤ L) (K : ∀ (d : aq_C) (ad2 : Nat → Nat) (H2 : Heap) (locs2 : List Loc), lq_J d → lq_T D ca s b i z F d ad2 H2 locs2 LS → W p l e room_1 s m #[Value.ref b] below meth c H2 locs2 551 z Q (F0 m 1022 LS [])) (hj : lq_J cc) (hT : lq_T D ca s b i z F cc ad H locs LS) : W p l e room_1 s m #[Value.ref b] below meth c H locs 551 z Q (F0 m 169 LS []) := by
  obtain ⟨hw, hC, hM, hI, hJ, hz, hl⟩ := id hT
  refine lv_aload_n C0.1 C0.2.1 (lq_d rfl) rfl (lv_at hl 2 rfl) ?_
  refine lq_arg (k := 1) (pc2 := 175) C0 hL hi hT (by decide) rfl rfl rfl rfl rfl rfl ?_
  refine lq_arg (k := 2) (pc2 := 180) C0 hL hi hT (by decide) rfl rfl rfl rfl rfl rfl ?_
  refine lq_arg (k := 3) (pc2 := 185) C0 hL hi hT (by decide) rfl rfl rfl rfl rfl rfl ?_
  refine lq_px (as2 := [vI (xs (i + 1)).toInt, vI (xs (i + 2)).toInt, vI (xs (i + 3)).toInt]) (pc2 := 189) C0 hKK hT rfl rfl rfl rfl rfl rfl rfl (Nat.le_of_ble_eq_true rfl) (List.forall_mem_cons.mpr ⟨am_rI _, (List.forall_mem_cons.mpr ⟨am_rI _, (List.forall_mem_cons.mpr ⟨am_rI _, (fun _ h => absurd h List.not_mem_nil)⟩)⟩)⟩) (qn_X4_partner hC hI) ?_
  intro cc ad H locs e1 hT
  obtain ⟨hw, hC, hM, hI, hJ, hz, hl⟩ := id hT
  replace hj := hj.e e1
  refine lv_aload_n C0.1 C0.2.1 (lq_d rfl) rfl (lv_at hl 1 rfl) ?_
  refine lq_arg (k := 1) (pc2 := 195) C0 hL hi hT (by decide) rfl rfl rfl rfl rfl rfl ?_
  refine lq_arg (k := 2) (pc2 := 200) C0 hL hi hT (by decide) rfl rfl rfl rfl rfl rfl ?_
  refine lq_arg (k := 3) (pc2 := 205) C0 hL hi hT (by decide) rfl rfl rfl rfl rfl rfl ?_
  refine lq_pm (as2 := [vI (xs (i + 1)).toInt, vI (xs (i + 2)).toInt, vI (xs (i + 3)).toInt]) (pc2 := 209) C0 hKK hT rfl rfl rfl rfl rfl rfl rfl (Nat.le_of_ble_eq_true rfl) (List.forall_mem_cons.mpr ⟨am_rI _, (List.forall_mem_cons.mpr ⟨am_rI _, (List.forall_mem_cons.mpr ⟨am_rI _, (fun _ h => absurd h List.not_mem_nil)⟩)⟩)⟩) (qm_X5_partner hM hJ) ?_
  intro cc ad H locs e1 hT
  obtain ⟨hw, hC, hM, hI, hJ, hz, hl⟩ := id hT
  replace hj := hj.e e1
  exact lv_goto (tgt := 1022) C0.1 C0.2.1 (lq_d rfl) (by decide) (K cc ad H locs hj hT)
theorem lq_k2 {p : Program} {l : Launch} {e : Env} {s : State} {m : MethodId} {below : List Frame} {meth : Method} {c : Code} {Q : State → Prop} {D : va_G} {ca : Nat → ClassId} {b L : Nat} {xs : Nat → Int32} {H : Heap} {locs : List Loc} {LS : Array Slot} {ad : Nat → Nat} {i z : Nat} {F : aq_F} {cc : aq_C} (C0 : lw_At p s m meth c b L xs) (hKK : am_KK D ca s) (hL : L ≤ 3072) (hi : i + 6 ≤ L) (K : ∀ (d : aq_C) (ad2 : Nat → Nat) (H2 : Heap) (locs2 : List Loc), lq_J d → lq_T D ca s b i z F d ad2 H2 locs2 LS → W p l e room_1 s m #[Value.ref b] below meth c H2 locs2 551 z Q (F0 m 1022 LS [])) (hj : lq_J cc) (hT : lq_T D ca s b i z F cc ad H locs LS) : W p l e room_1 s m #[Value.ref b] below meth c H locs 551 z Q (F0 m 212 LS []) := by
  obtain ⟨hw, hC, hM, hI, hJ, hz, hl⟩ := id hT
  refine lv_aload_n C0.1 C0.2.1 (lq_d rfl) rfl (lv_at hl 2 rfl) ?_
  refine lq_arg (k := 1) (pc2 := 218) C0 hL hi hT (by decide) rfl rfl rfl rfl rfl rfl ?_
  refine lq_arg (k := 2) (pc2 := 223) C0 hL hi hT (by decide) rfl rfl rfl rfl rfl rfl ?_
  refine lq_arg (k := 3) (pc2 := 228) C0 hL hi hT (by decide) rfl rfl rfl rfl rfl rfl ?_
  refine lq_px (as2 := [vI (xs (i + 1)).toInt, vI (xs (i + 2)).toInt, vI (xs (i + 3)).toInt]) (pc2 := 232) C0 hKK hT rfl rfl rfl rfl rfl rfl rfl (Nat.le_of_ble_eq_true rfl) (List.forall_mem_cons.mpr ⟨am_rI _, (List.forall_mem_cons.mpr ⟨am_rI _, (List.forall_mem_cons.mpr ⟨am_rI _, (fun _ h => absurd h List.not_mem_nil)⟩)⟩)⟩) (qn_X4_about hC hI) ?_
  intro cc ad H locs e1 hT
  obtain ⟨hw, hC, hM, hI, hJ, hz, hl⟩ := id hT
  replace hj := hj.e e1
  refine lv_aload_n C0.1 C0.2.1 (lq_d rfl) rfl (lv_at hl 1 rfl) ?_
  refine lq_arg (k := 1) (pc2 := 238) C0 hL hi hT (by decide) rfl rfl rfl rfl rfl rfl ?_
  refine lq_arg (k := 2) (pc2 := 243) C0 hL hi hT (by decide) rfl rfl rfl rfl rfl rfl ?_
  refine lq_arg (k := 3) (pc2 := 248) C0 hL hi hT (by decide) rfl rfl rfl rfl rfl rfl ?_
  refine lq_pm (as2 := [vI (xs (i + 1)).toInt, vI (xs (i + 2)).toInt, vI (xs (i + 3)).toInt]) (pc2 := 252) C0 hKK hT rfl rfl rfl rfl rfl rfl rfl (Nat.le_of_ble_eq_true rfl) (List.forall_mem_cons.mpr ⟨am_rI _, (List.forall_mem_cons.mpr ⟨am_rI _, (List.forall_mem_cons.mpr ⟨am_rI _, (fun _ h => absurd h List.not_mem_nil)⟩)⟩)⟩) (qm_X5_about hM hJ) ?_
  intro cc ad H locs e1 hT
  obtain ⟨hw, hC, hM, hI, hJ, hz, hl⟩ := id hT
  replace hj := hj.e e1
  exact lv_goto (tgt := 1022) C0.1 C0.2.1 (lq_d rfl) (by decide) (K cc ad H locs hj hT)
theorem lq_k3 {p : Program} {l : Launch} {e : Env} {s : State} {m : MethodId} {below : List Frame} {meth : Method} {c : Code} {Q : State → Prop} {D : va_G} {ca : Nat → ClassId} {b L : Nat} {xs : Nat → Int32} {H : Heap} {locs : List Loc} {LS : Array Slot} {ad : Nat → Nat} {i z : Nat} {F : aq_F} {cc : aq_C} (C0 : lw_At p s m meth c b L xs) (hKK : am_KK D ca s) (hL : L ≤ 3072) (hi : i + 6 ≤ L) (K : ∀ (d : aq_C) (ad2 : Nat → Nat) (H2 : Heap) (locs2 : List Loc), lq_J d → lq_T D ca s b i z F d ad2 H2 locs2 LS → W p l e room_1 s m #[Value.ref b] below meth c H2 locs2 551 z Q (F0 m 1022 LS [])) (hj : lq_J cc) (hT : lq_T D ca s b i z F cc ad H locs LS) : W p l e room_1 s m #[Value.ref b] below meth c H locs 551 z Q (F0 m 255 LS []) := by
  obtain ⟨hw, hC, hM, hI, hJ, hz, hl⟩ := id hT
  refine lv_aload_n C0.1 C0.2.1 (lq_d rfl) rfl (lv_at hl 2 rfl) ?_
  refine lq_arg (k := 1) (pc2 := 261) C0 hL hi hT (by decide) rfl rfl rfl rfl rfl rfl ?_
  refine lq_arg (k := 2) (pc2 := 266) C0 hL hi hT (by decide) rfl rfl rfl rfl rfl rfl ?_
  refine lq_arg (k := 3) (pc2 := 271) C0 hL hi hT (by decide) rfl rfl rfl rfl rfl rfl ?_
  refine lq_px (as2 := [vI (xs (i + 1)).toInt, vI (xs (i + 2)).toInt, vI (xs (i + 3)).toInt]) (pc2 := 275) C0 hKK hT rfl rfl rfl rfl rfl rfl rfl (Nat.le_of_ble_eq_true rfl) (List.forall_mem_cons.mpr ⟨am_rI _, (List.forall_mem_cons.mpr ⟨am_rI _, (List.forall_mem_cons.mpr ⟨am_rI _, (fun _ h => absurd h List.not_mem_nil)⟩)⟩)⟩) (qn_X4_stack hC hI) ?_
  intro cc ad H locs e1 hT
  obtain ⟨hw, hC, hM, hI, hJ, hz, hl⟩ := id hT
  replace hj := hj.e e1
  refine lv_aload_n C0.1 C0.2.1 (lq_d rfl) rfl (lv_at hl 1 rfl) ?_
  refine lq_arg (k := 1) (pc2 := 281) C0 hL hi hT (by decide) rfl rfl rfl rfl rfl rfl ?_
  refine lq_arg (k := 2) (pc2 := 286) C0 hL hi hT (by decide) rfl rfl rfl rfl rfl rfl ?_
  refine lq_arg (k := 3) (pc2 := 291) C0 hL hi hT (by decide) rfl rfl rfl rfl rfl rfl ?_
  refine lq_pm (as2 := [vI (xs (i + 1)).toInt, vI (xs (i + 2)).toInt, vI (xs (i + 3)).toInt]) (pc2 := 295) C0 hKK hT rfl rfl rfl rfl rfl rfl rfl (Nat.le_of_ble_eq_true rfl) (List.forall_mem_cons.mpr ⟨am_rI _, (List.forall_mem_cons.mpr ⟨am_rI _, (List.forall_mem_cons.mpr ⟨am_rI _, (fun _ h => absurd h List.not_mem_nil)⟩)⟩)⟩) (qm_X5_stack hM hJ) ?_
  intro cc ad H locs e1 hT
  obtain ⟨hw, hC, hM, hI, hJ, hz, hl⟩ := id hT
  replace hj := hj.e e1
  exact lv_goto (tgt := 1022) C0.1 C0.2.1 (lq_d rfl) (by decide) (K cc ad H locs hj hT)
theorem lq_k4 {p : Program} {l : Launch} {e : Env} {s : State} {m : MethodId} {below : List Frame} {meth : Method} {c : Code} {Q : State → Prop} {D : va_G} {ca : Nat → ClassId} {b L : Nat} {xs : Nat → Int32} {H : Heap} {locs : List Loc} {LS : Array Slot} {ad : Nat → Nat} {i z : Nat} {F : aq_F} {cc : aq_C} (C0 : lw_At p s m meth c b L xs) (hKK : am_KK D ca s) (hL : L ≤ 3072) (hi : i + 6 ≤ L) (K : ∀ (d : aq_C) (ad2 : Nat → Nat) (H2 : Heap) (locs2 : List Loc), lq_J d → lq_T D ca s b i z F d ad2 H2 locs2 LS → W p l e room_1 s m #[Value.ref b] below meth c H2 locs2 551 z Q (F0 m 1022 LS [])) (hj : lq_J cc) (hT : lq_T D ca s b i z F cc ad H locs LS) : W p l e room_1 s m #[Value.ref b] below meth c H locs 551 z Q (F0 m 298 LS []) := by
  obtain ⟨hw, hC, hM, hI, hJ, hz, hl⟩ := id hT
  refine lv_aload_n C0.1 C0.2.1 (lq_d rfl) rfl (lv_at hl 2 rfl) ?_
  refine lq_arg (k := 1) (pc2 := 304) C0 hL hi hT (by decide) rfl rfl rfl rfl rfl rfl ?_
  refine lq_lng (k := 2) (j := 3) (pc2 := 324) C0 hL hi hT (by decide) (by decide) rfl rfl rfl rfl rfl rfl rfl rfl rfl rfl rfl rfl rfl rfl rfl rfl rfl rfl (fun V1 eV1 => ?_)
  obtain ⟨A0, eA0⟩ : ∃ A0, A0 = bo_x (xs (i + 1)).toInt V1.toInt := ⟨_, rfl⟩
  refine lq_gx (as2 := [vI (xs (i + 1)).toInt, vL V1.toInt]) (rest := []) (P := fun r _ => r = some (vI (bo_x (xs (i + 1)).toInt V1.toInt))) C0 hKK hT rfl rfl rfl rfl rfl (Nat.le_of_ble_eq_true rfl) (List.forall_mem_cons.mpr ⟨am_rI _, (List.forall_mem_cons.mpr ⟨am_rL _, (fun _ h => absurd h List.not_mem_nil)⟩)⟩) (fun _ h => absurd h List.not_mem_nil) (Nat.zero_le _) (qe_X4_box hC hI (am_rL _)) ?_
  intro rx cc ad H locs q e1 hT g2
  subst q
  obtain ⟨hw, hC, hM, hI, hJ, hz, hl⟩ := id hT
  replace hj := hj.e e1
  have gA : am_vk 551 (vI (bo_x (xs (i + 1)).toInt V1.toInt)) := g2 _ rfl
  show W p l e room_1 s m #[Value.ref b] below meth c H locs 551 z Q (F0 m 327 LS [am_cv ad (vI (bo_x (xs (i + 1)).toInt V1.toInt))])
  refine lv_aload_n C0.1 C0.2.1 (lq_d rfl) rfl (lv_at hl 1 rfl) ?_
  refine lq_arg (k := 1) (pc2 := 333) C0 hL hi hT (by decide) rfl rfl rfl rfl rfl rfl ?_
  refine lq_lng (k := 2) (j := 3) (pc2 := 353) C0 hL hi hT (by decide) (by decide) rfl rfl rfl rfl rfl rfl rfl rfl rfl rfl rfl rfl rfl rfl rfl rfl rfl rfl (fun V2 eV2 => ?_)
  rw [show V2 = V1 from eV2.trans eV1.symm]
  refine lq_gm (as2 := [vI (xs (i + 1)).toInt, vL V1.toInt]) (rest := [vI (bo_x (xs (i + 1)).toInt V1.toInt)]) (P := fun r _ => r = some (vI (bo_x (xs (i + 1)).toInt V1.toInt))) C0 hKK hT rfl rfl rfl rfl rfl (Nat.le_of_ble_eq_true rfl) (List.forall_mem_cons.mpr ⟨am_rI _, (List.forall_mem_cons.mpr ⟨am_rL _, (fun _ h => absurd h List.not_mem_nil)⟩)⟩) (List.forall_mem_cons.mpr ⟨gA, (fun _ h => absurd h List.not_mem_nil)⟩) (Nat.le_of_ble_eq_true rfl) (qe_X5_box hM hJ (am_rL _)) ?_
  intro rm cc ad H locs q e1 hT g2
  subst q
  obtain ⟨hw, hC, hM, hI, hJ, hz, hl⟩ := id hT
  replace hj := hj.e e1
  show W p l e room_1 s m #[Value.ref b] below meth c H locs 551 z Q (F0 m 356 LS [.int (Int32.ofInt (bo_x (xs (i + 1)).toInt V1.toInt)), .int (Int32.ofInt (bo_x (xs (i + 1)).toInt V1.toInt))])
  exact lv_icmp_eq (tgt := 1022) C0.1 C0.2.1 (lq_d rfl) (by decide) (fun _ => K cc ad H locs hj hT) (fun q => absurd rfl q)
theorem lq_k5 {p : Program} {l : Launch} {e : Env} {s : State} {m : MethodId} {below : List Frame} {meth : Method} {c : Code} {Q : State → Prop} {D : va_G} {ca : Nat → ClassId} {b L : Nat} {xs : Nat → Int32} {H : Heap} {locs : List Loc} {LS : Array Slot} {ad : Nat → Nat} {i z : Nat} {F : aq_F} {cc : aq_C} (C0 : lw_At p s m meth c b L xs) (hKK : am_KK D ca s) (hL : L ≤ 3072) (hi : i + 6 ≤ L) (K : ∀ (d : aq_C) (ad2 : Nat → Nat) (H2 : Heap) (locs2 : List Loc), lq_J d → lq_T D ca s b i z F d ad2 H2 locs2 LS → W p l e room_1 s m #[Value.ref b] below meth c H2 locs2 551 z Q (F0 m 1022 LS [])) (hj : lq_J cc) (hT : lq_T D ca s b i z F cc ad H locs LS) : W p l e room_1 s m #[Value.ref b] below meth c H locs 551 z Q (F0 m 361 LS []) := by
  obtain ⟨hw, hC, hM, hI, hJ, hz, hl⟩ := id hT
  refine lv_aload_n C0.1 C0.2.1 (lq_d rfl) rfl (lv_at hl 2 rfl) ?_
  refine lq_arg (k := 1) (pc2 := 367) C0 hL hi hT (by decide) rfl rfl rfl rfl rfl rfl ?_
  refine lq_arg (k := 2) (pc2 := 372) C0 hL hi hT (by decide) rfl rfl rfl rfl rfl rfl ?_
  refine lq_px (as2 := [vI (xs (i + 1)).toInt, vI (xs (i + 2)).toInt]) (pc2 := 376) C0 hKK hT rfl rfl rfl rfl rfl rfl rfl (Nat.le_of_ble_eq_true rfl) (List.forall_mem_cons.mpr ⟨am_rI _, (List.forall_mem_cons.mpr ⟨am_rI _, (fun _ h => absurd h List.not_mem_nil)⟩)⟩) (qn_X4_plain hC hI) ?_
  intro cc ad H locs e1 hT
  obtain ⟨hw, hC, hM, hI, hJ, hz, hl⟩ := id hT
  replace hj := hj.e e1
  refine lv_aload_n C0.1 C0.2.1 (lq_d rfl) rfl (lv_at hl 1 rfl) ?_
  refine lq_arg (k := 1) (pc2 := 382) C0 hL hi hT (by decide) rfl rfl rfl rfl rfl rfl ?_
  refine lq_arg (k := 2) (pc2 := 387) C0 hL hi hT (by decide) rfl rfl rfl rfl rfl rfl ?_
  refine lq_pm (as2 := [vI (xs (i + 1)).toInt, vI (xs (i + 2)).toInt]) (pc2 := 391) C0 hKK hT rfl rfl rfl rfl rfl rfl rfl (Nat.le_of_ble_eq_true rfl) (List.forall_mem_cons.mpr ⟨am_rI _, (List.forall_mem_cons.mpr ⟨am_rI _, (fun _ h => absurd h List.not_mem_nil)⟩)⟩) (qm_X5_plain hM hJ) ?_
  intro cc ad H locs e1 hT
  obtain ⟨hw, hC, hM, hI, hJ, hz, hl⟩ := id hT
  replace hj := hj.e e1
  exact lv_goto (tgt := 1022) C0.1 C0.2.1 (lq_d rfl) (by decide) (K cc ad H locs hj hT)
theorem lq_k6 {p : Program} {l : Launch} {e : Env} {s : State} {m : MethodId} {below : List Frame} {meth : Method} {c : Code} {Q : State → Prop} {D : va_G} {ca : Nat → ClassId} {b L : Nat} {xs : Nat → Int32} {H : Heap} {locs : List Loc} {LS : Array Slot} {ad : Nat → Nat} {i z : Nat} {F : aq_F} {cc : aq_C} (C0 : lw_At p s m meth c b L xs) (hKK : am_KK D ca s) (hL : L ≤ 3072) (hi : i + 6 ≤ L) (K : ∀ (d : aq_C) (ad2 : Nat → Nat) (H2 : Heap) (locs2 : List Loc), lq_J d → lq_T D ca s b i z F d ad2 H2 locs2 LS → W p l e room_1 s m #[Value.ref b] below meth c H2 locs2 551 z Q (F0 m 1022 LS [])) (hj : lq_J cc) (hT : lq_T D ca s b i z F cc ad H locs LS) : W p l e room_1 s m #[Value.ref b] below meth c H locs 551 z Q (F0 m 394 LS []) := by
  obtain ⟨hw, hC, hM, hI, hJ, hz, hl⟩ := id hT
  refine lv_aload_n C0.1 C0.2.1 (lq_d rfl) rfl (lv_at hl 2 rfl) ?_
  refine lq_arg (k := 1) (pc2 := 400) C0 hL hi hT (by decide) rfl rfl rfl rfl rfl rfl ?_
  refine lq_arg (k := 2) (pc2 := 405) C0 hL hi hT (by decide) rfl rfl rfl rfl rfl rfl ?_
  refine lq_arg (k := 3) (pc2 := 410) C0 hL hi hT (by decide) rfl rfl rfl rfl rfl rfl ?_
  refine lq_px (as2 := [vI (xs (i + 1)).toInt, vI (xs (i + 2)).toInt, vI (xs (i + 3)).toInt]) (pc2 := 414) C0 hKK hT rfl rfl rfl rfl rfl rfl rfl (Nat.le_of_ble_eq_true rfl) (List.forall_mem_cons.mpr ⟨am_rI _, (List.forall_mem_cons.mpr ⟨am_rI _, (List.forall_mem_cons.mpr ⟨am_rI _, (fun _ h => absurd h List.not_mem_nil)⟩)⟩)⟩) (qn_X4_word hC hI) ?_
  intro cc ad H locs e1 hT
  obtain ⟨hw, hC, hM, hI, hJ, hz, hl⟩ := id hT
  replace hj := hj.e e1
  refine lv_aload_n C0.1 C0.2.1 (lq_d rfl) rfl (lv_at hl 1 rfl) ?_
  refine lq_arg (k := 1) (pc2 := 420) C0 hL hi hT (by decide) rfl rfl rfl rfl rfl rfl ?_
  refine lq_arg (k := 2) (pc2 := 425) C0 hL hi hT (by decide) rfl rfl rfl rfl rfl rfl ?_
  refine lq_arg (k := 3) (pc2 := 430) C0 hL hi hT (by decide) rfl rfl rfl rfl rfl rfl ?_
  refine lq_pm (as2 := [vI (xs (i + 1)).toInt, vI (xs (i + 2)).toInt, vI (xs (i + 3)).toInt]) (pc2 := 434) C0 hKK hT rfl rfl rfl rfl rfl rfl rfl (Nat.le_of_ble_eq_true rfl) (List.forall_mem_cons.mpr ⟨am_rI _, (List.forall_mem_cons.mpr ⟨am_rI _, (List.forall_mem_cons.mpr ⟨am_rI _, (fun _ h => absurd h List.not_mem_nil)⟩)⟩)⟩) (qm_X5_word hM hJ) ?_
  intro cc ad H locs e1 hT
  obtain ⟨hw, hC, hM, hI, hJ, hz, hl⟩ := id hT
  replace hj := hj.e e1
  exact lv_goto (tgt := 1022) C0.1 C0.2.1 (lq_d rfl) (by decide) (K cc ad H locs hj hT)
theorem lq_k7 {p : Program} {l : Launch} {e : Env} {s : State} {m : MethodId} {below : List Frame} {meth : Method} {c : Code} {Q : State → Prop} {D : va_G} {ca : Nat → ClassId} {b L : Nat} {xs : Nat → Int32} {H : Heap} {locs : List Loc} {LS : Array Slot} {ad : Nat → Nat} {i z : Nat} {F : aq_F} {cc : aq_C} (C0 : lw_At p s m meth c b L xs) (hKK : am_KK D ca s) (hL : L ≤ 3072) (hi : i + 6 ≤ L) (K : ∀ (d : aq_C) (ad2 : Nat → Nat) (H2 : Heap) (locs2 : List Loc), lq_J d → lq_T D ca s b i z F d ad2 H2 locs2 LS → W p l e room_1 s m #[Value.ref b] below meth c H2 locs2 551 z Q (F0 m 1022 LS [])) (hj : lq_J cc) (hT : lq_T D ca s b i z F cc ad H locs LS) : W p l e room_1 s m #[Value.ref b] below meth c H locs 551 z Q (F0 m 437 LS []) := by
  obtain ⟨hw, hC, hM, hI, hJ, hz, hl⟩ := id hT
  refine lv_aload_n C0.1 C0.2.1 (lq_d rfl) rfl (lv_at hl 2 rfl) ?_
  refine lq_arg (k := 1) (pc2 := 443) C0 hL hi hT (by decide) rfl rfl rfl rfl rfl rfl ?_
  refine lq_arg (k := 2) (pc2 := 448) C0 hL hi hT (by decide) rfl rfl rfl rfl rfl rfl ?_
  refine lq_px (as2 := [vI (xs (i + 1)).toInt, vI (xs (i + 2)).toInt]) (pc2 := 452) C0 hKK hT rfl rfl rfl rfl rfl rfl rfl (Nat.le_of_ble_eq_true rfl) (List.forall_mem_cons.mpr ⟨am_rI _, (List.forall_mem_cons.mpr ⟨am_rI _, (fun _ h => absurd h List.not_mem_nil)⟩)⟩) (qn_X4_clear hC hI) ?_
  intro cc ad H locs e1 hT
  obtain ⟨hw, hC, hM, hI, hJ, hz, hl⟩ := id hT
  replace hj := hj.e e1
  refine lv_aload_n C0.1 C0.2.1 (lq_d rfl) rfl (lv_at hl 1 rfl) ?_
  refine lq_arg (k := 1) (pc2 := 458) C0 hL hi hT (by decide) rfl rfl rfl rfl rfl rfl ?_
  refine lq_arg (k := 2) (pc2 := 463) C0 hL hi hT (by decide) rfl rfl rfl rfl rfl rfl ?_
  refine lq_pm (as2 := [vI (xs (i + 1)).toInt, vI (xs (i + 2)).toInt]) (pc2 := 467) C0 hKK hT rfl rfl rfl rfl rfl rfl rfl (Nat.le_of_ble_eq_true rfl) (List.forall_mem_cons.mpr ⟨am_rI _, (List.forall_mem_cons.mpr ⟨am_rI _, (fun _ h => absurd h List.not_mem_nil)⟩)⟩) (qm_X5_clear hM hJ) ?_
  intro cc ad H locs e1 hT
  obtain ⟨hw, hC, hM, hI, hJ, hz, hl⟩ := id hT
  replace hj := hj.e e1
  exact lv_goto (tgt := 1022) C0.1 C0.2.1 (lq_d rfl) (by decide) (K cc ad H locs hj hT)
theorem lq_k8 {p : Program} {l : Launch} {e : Env} {s : State} {m : MethodId} {below : List Frame} {meth : Method} {c : Code} {Q : State → Prop} {D : va_G} {ca : Nat → ClassId} {b L : Nat} {xs : Nat → Int32} {H : Heap} {locs : List Loc} {LS : Array Slot} {ad : Nat → Nat} {i z : Nat} {F : aq_F} {cc : aq_C} (C0 : lw_At p s m meth c b L xs) (hKK : am_KK D ca s) (hL : L ≤ 3072) (hi : i + 6 ≤ L) (K : ∀ (d : aq_C) (ad2 : Nat → Nat) (H2 : Heap) (locs2 : List Loc), lq_J d → lq_T D ca s b i z F d ad2 H2 locs2 LS → W p l e room_1 s m #[Value.ref b] below meth c H2 locs2 551 z Q (F0 m 1022 LS [])) (hj : lq_J cc) (hT : lq_T D ca s b i z F cc ad H locs LS) : W p l e room_1 s m #[Value.ref b] below meth c H locs 551 z Q (F0 m 470 LS []) := by
  obtain ⟨hw, hC, hM, hI, hJ, hz, hl⟩ := id hT
  refine lv_aload_n C0.1 C0.2.1 (lq_d rfl) rfl (lv_at hl 2 rfl) ?_
  refine lq_arg (k := 1) (pc2 := 476) C0 hL hi hT (by decide) rfl rfl rfl rfl rfl rfl ?_
  refine lq_arg (k := 2) (pc2 := 481) C0 hL hi hT (by decide) rfl rfl rfl rfl rfl rfl ?_
  refine lq_arg (k := 3) (pc2 := 486) C0 hL hi hT (by decide) rfl rfl rfl rfl rfl rfl ?_
  refine lq_lng (k := 4) (j := 5) (pc2 := 506) C0 hL hi hT (by decide) (by decide) rfl rfl rfl rfl rfl rfl rfl rfl rfl rfl rfl rfl rfl rfl rfl rfl rfl rfl (fun V1 eV1 => ?_)
  refine lq_px (as2 := [vI (xs (i + 1)).toInt, vI (xs (i + 2)).toInt, vI (xs (i + 3)).toInt, vL V1.toInt]) (pc2 := 510) C0 hKK hT rfl rfl rfl rfl rfl rfl rfl (Nat.le_of_ble_eq_true rfl) (List.forall_mem_cons.mpr ⟨am_rI _, (List.forall_mem_cons.mpr ⟨am_rI _, (List.forall_mem_cons.mpr ⟨am_rI _, (List.forall_mem_cons.mpr ⟨am_rL _, (fun _ h => absurd h List.not_mem_nil)⟩)⟩)⟩)⟩) (qn_X4_add hC hI) ?_
  intro cc ad H locs e1 hT
  obtain ⟨hw, hC, hM, hI, hJ, hz, hl⟩ := id hT
  replace hj := hj.e e1
  refine lv_aload_n C0.1 C0.2.1 (lq_d rfl) rfl (lv_at hl 1 rfl) ?_
  refine lq_arg (k := 1) (pc2 := 516) C0 hL hi hT (by decide) rfl rfl rfl rfl rfl rfl ?_
  refine lq_arg (k := 2) (pc2 := 521) C0 hL hi hT (by decide) rfl rfl rfl rfl rfl rfl ?_
  refine lq_arg (k := 3) (pc2 := 526) C0 hL hi hT (by decide) rfl rfl rfl rfl rfl rfl ?_
  refine lq_lng (k := 4) (j := 5) (pc2 := 546) C0 hL hi hT (by decide) (by decide) rfl rfl rfl rfl rfl rfl rfl rfl rfl rfl rfl rfl rfl rfl rfl rfl rfl rfl (fun V2 eV2 => ?_)
  refine lq_pm (as2 := [vI (xs (i + 1)).toInt, vI (xs (i + 2)).toInt, vI (xs (i + 3)).toInt, vL V2.toInt]) (pc2 := 550) C0 hKK hT rfl rfl rfl rfl rfl rfl rfl (Nat.le_of_ble_eq_true rfl) (List.forall_mem_cons.mpr ⟨am_rI _, (List.forall_mem_cons.mpr ⟨am_rI _, (List.forall_mem_cons.mpr ⟨am_rI _, (List.forall_mem_cons.mpr ⟨am_rL _, (fun _ h => absurd h List.not_mem_nil)⟩)⟩)⟩)⟩) (qm_X5_add hM hJ) ?_
  intro cc ad H locs e1 hT
  obtain ⟨hw, hC, hM, hI, hJ, hz, hl⟩ := id hT
  replace hj := hj.e e1
  exact lv_goto (tgt := 1022) C0.1 C0.2.1 (lq_d rfl) (by decide) (K cc ad H locs hj hT)
theorem lq_k9 {p : Program} {l : Launch} {e : Env} {s : State} {m : MethodId} {below : List Frame} {meth : Method} {c : Code} {Q : State → Prop} {D : va_G} {ca : Nat → ClassId} {b L : Nat} {xs : Nat → Int32} {H : Heap} {locs : List Loc} {LS : Array Slot} {ad : Nat → Nat} {i z : Nat} {F : aq_F} {cc : aq_C} (C0 : lw_At p s m meth c b L xs) (hKK : am_KK D ca s) (hL : L ≤ 3072) (hi : i + 6 ≤ L) (K : ∀ (d : aq_C) (ad2 : Nat → Nat) (H2 : Heap) (locs2 : List Loc), lq_J d → lq_T D ca s b i z F d ad2 H2 locs2 LS → W p l e room_1 s m #[Value.ref b] below meth c H2 locs2 551 z Q (F0 m 1022 LS [])) (hj : lq_J cc) (hT : lq_T D ca s b i z F cc ad H locs LS) : W p l e room_1 s m #[Value.ref b] below meth c H locs 551 z Q (F0 m 553 LS []) := by
  obtain ⟨hw, hC, hM, hI, hJ, hz, hl⟩ := id hT
  refine lv_aload_n C0.1 C0.2.1 (lq_d rfl) rfl (lv_at hl 2 rfl) ?_
  refine lq_arg (k := 1) (pc2 := 559) C0 hL hi hT (by decide) rfl rfl rfl rfl rfl rfl ?_
  refine lq_arg (k := 2) (pc2 := 564) C0 hL hi hT (by decide) rfl rfl rfl rfl rfl rfl ?_
  refine lq_arg (k := 3) (pc2 := 569) C0 hL hi hT (by decide) rfl rfl rfl rfl rfl rfl ?_
  refine lq_arg (k := 4) (pc2 := 574) C0 hL hi hT (by decide) rfl rfl rfl rfl rfl rfl ?_
  refine lq_px (as2 := [vI (xs (i + 1)).toInt, vI (xs (i + 2)).toInt, vI (xs (i + 3)).toInt, vI (xs (i + 4)).toInt]) (pc2 := 578) C0 hKK hT rfl rfl rfl rfl rfl rfl rfl (Nat.le_of_ble_eq_true rfl) (List.forall_mem_cons.mpr ⟨am_rI _, (List.forall_mem_cons.mpr ⟨am_rI _, (List.forall_mem_cons.mpr ⟨am_rI _, (List.forall_mem_cons.mpr ⟨am_rI _, (fun _ h => absurd h List.not_mem_nil)⟩)⟩)⟩)⟩) (qn_X4_work hC hI) ?_
  intro cc ad H locs e1 hT
  obtain ⟨hw, hC, hM, hI, hJ, hz, hl⟩ := id hT
  replace hj := hj.e e1
  refine lv_aload_n C0.1 C0.2.1 (lq_d rfl) rfl (lv_at hl 1 rfl) ?_
  refine lq_arg (k := 1) (pc2 := 584) C0 hL hi hT (by decide) rfl rfl rfl rfl rfl rfl ?_
  refine lq_arg (k := 2) (pc2 := 589) C0 hL hi hT (by decide) rfl rfl rfl rfl rfl rfl ?_
  refine lq_arg (k := 3) (pc2 := 594) C0 hL hi hT (by decide) rfl rfl rfl rfl rfl rfl ?_
  refine lq_arg (k := 4) (pc2 := 599) C0 hL hi hT (by decide) rfl rfl rfl rfl rfl rfl ?_
  refine lq_pm (as2 := [vI (xs (i + 1)).toInt, vI (xs (i + 2)).toInt, vI (xs (i + 3)).toInt, vI (xs (i + 4)).toInt]) (pc2 := 603) C0 hKK hT rfl rfl rfl rfl rfl rfl rfl (Nat.le_of_ble_eq_true rfl) (List.forall_mem_cons.mpr ⟨am_rI _, (List.forall_mem_cons.mpr ⟨am_rI _, (List.forall_mem_cons.mpr ⟨am_rI _, (List.forall_mem_cons.mpr ⟨am_rI _, (fun _ h => absurd h List.not_mem_nil)⟩)⟩)⟩)⟩) (qm_X5_work hM hJ) ?_
  intro cc ad H locs e1 hT
  obtain ⟨hw, hC, hM, hI, hJ, hz, hl⟩ := id hT
  replace hj := hj.e e1
  exact lv_goto (tgt := 1022) C0.1 C0.2.1 (lq_d rfl) (by decide) (K cc ad H locs hj hT)
theorem lq_k10 {p : Program} {l : Launch} {e : Env} {s : State} {m : MethodId} {below : List Frame} {meth : Method} {c : Code} {Q : State → Prop} {D : va_G} {ca : Nat → ClassId} {b L : Nat} {xs : Nat → Int32} {H : Heap} {locs : List Loc} {LS : Array Slot} {ad : Nat → Nat} {i z : Nat} {F : aq_F} {cc : aq_C} (C0 : lw_At p s m meth c b L xs) (hKK : am_KK D ca s) (hL : L ≤ 3072) (hi : i + 6 ≤ L) (K : ∀ (d : aq_C) (ad2 : Nat → Nat) (H2 : Heap) (locs2 : List Loc), lq_J d → lq_T D ca s b i z F d ad2 H2 locs2 LS → W p l e room_1 s m #[Value.ref b] below meth c H2 locs2 551 z Q (F0 m 1022 LS [])) (hj : lq_J cc) (hT : lq_T D ca s b i z F cc ad H locs LS) : W p l e room_1 s m #[Value.ref b] below meth c H locs 551 z Q (F0 m 606 LS []) := by
  obtain ⟨hw, hC, hM, hI, hJ, hz, hl⟩ := id hT
  refine lv_aload_n C0.1 C0.2.1 (lq_d rfl) rfl (lv_at hl 2 rfl) ?_
  refine lq_arg (k := 1) (pc2 := 612) C0 hL hi hT (by decide) rfl rfl rfl rfl rfl rfl ?_
  refine lq_arg (k := 2) (pc2 := 617) C0 hL hi hT (by decide) rfl rfl rfl rfl rfl rfl ?_
  refine lq_px (as2 := [vI (xs (i + 1)).toInt, vI (xs (i + 2)).toInt]) (pc2 := 621) C0 hKK hT rfl rfl rfl rfl rfl rfl rfl (Nat.le_of_ble_eq_true rfl) (List.forall_mem_cons.mpr ⟨am_rI _, (List.forall_mem_cons.mpr ⟨am_rI _, (fun _ h => absurd h List.not_mem_nil)⟩)⟩) (qn_X4_sum hC hI) ?_
  intro cc ad H locs e1 hT
  obtain ⟨hw, hC, hM, hI, hJ, hz, hl⟩ := id hT
  replace hj := hj.e e1
  refine lv_aload_n C0.1 C0.2.1 (lq_d rfl) rfl (lv_at hl 1 rfl) ?_
  refine lq_arg (k := 1) (pc2 := 627) C0 hL hi hT (by decide) rfl rfl rfl rfl rfl rfl ?_
  refine lq_arg (k := 2) (pc2 := 632) C0 hL hi hT (by decide) rfl rfl rfl rfl rfl rfl ?_
  refine lq_pm (as2 := [vI (xs (i + 1)).toInt, vI (xs (i + 2)).toInt]) (pc2 := 636) C0 hKK hT rfl rfl rfl rfl rfl rfl rfl (Nat.le_of_ble_eq_true rfl) (List.forall_mem_cons.mpr ⟨am_rI _, (List.forall_mem_cons.mpr ⟨am_rI _, (fun _ h => absurd h List.not_mem_nil)⟩)⟩) (qm_X5_sum hM hJ) ?_
  intro cc ad H locs e1 hT
  obtain ⟨hw, hC, hM, hI, hJ, hz, hl⟩ := id hT
  replace hj := hj.e e1
  exact lv_goto (tgt := 1022) C0.1 C0.2.1 (lq_d rfl) (by decide) (K cc ad H locs hj hT)
theorem lq_k11 {p : Program} {l : Launch} {e : Env} {s : State} {m : MethodId} {below : List Frame} {meth : Method} {c : Code} {Q : State → Prop} {D : va_G} {ca : Nat → ClassId} {b L : Nat} {xs : Nat → Int32} {H : Heap} {locs : List Loc} {LS : Array Slot} {ad : Nat → Nat} {i z : Nat} {F : aq_F} {cc : aq_C} (C0 : lw_At p s m meth c b L xs) (hKK : am_KK D ca s) (hL : L ≤ 3072) (hi : i + 6 ≤ L) (K : ∀ (d : aq_C) (ad2 : Nat → Nat) (H2 : Heap) (locs2 : List Loc), lq_J d → lq_T D ca s b i z F d ad2 H2 locs2 LS → W p l e room_1 s m #[Value.ref b] below meth c H2 locs2 551 z Q (F0 m 1022 LS [])) (hj : lq_J cc) (hT : lq_T D ca s b i z F cc ad H locs LS) : W p l e room_1 s m #[Value.ref b] below meth c H locs 551 z Q (F0 m 639 LS []) := by
  obtain ⟨hw, hC, hM, hI, hJ, hz, hl⟩ := id hT
  refine lv_aload_n C0.1 C0.2.1 (lq_d rfl) rfl (lv_at hl 2 rfl) ?_
  refine lq_arg (k := 1) (pc2 := 645) C0 hL hi hT (by decide) rfl rfl rfl rfl rfl rfl ?_
  refine lq_arg (k := 2) (pc2 := 650) C0 hL hi hT (by decide) rfl rfl rfl rfl rfl rfl ?_
  refine lq_arg (k := 3) (pc2 := 655) C0 hL hi hT (by decide) rfl rfl rfl rfl rfl rfl ?_
  refine lq_pxl (as2 := [vI (xs (i + 1)).toInt, vI (xs (i + 2)).toInt, vI (xs (i + 3)).toInt]) (pc2 := 659) C0 hKK hT rfl rfl rfl rfl rfl rfl rfl (Nat.le_of_ble_eq_true rfl) (List.forall_mem_cons.mpr ⟨am_rI _, (List.forall_mem_cons.mpr ⟨am_rI _, (List.forall_mem_cons.mpr ⟨am_rI _, (fun _ h => absurd h List.not_mem_nil)⟩)⟩)⟩) (qn_X4_term hC hI) ?_
  intro cc ad H locs e1 hT
  obtain ⟨hw, hC, hM, hI, hJ, hz, hl⟩ := id hT
  replace hj := hj.e e1
  refine lv_aload_n C0.1 C0.2.1 (lq_d rfl) rfl (lv_at hl 1 rfl) ?_
  refine lq_arg (k := 1) (pc2 := 665) C0 hL hi hT (by decide) rfl rfl rfl rfl rfl rfl ?_
  refine lq_arg (k := 2) (pc2 := 670) C0 hL hi hT (by decide) rfl rfl rfl rfl rfl rfl ?_
  refine lq_arg (k := 3) (pc2 := 675) C0 hL hi hT (by decide) rfl rfl rfl rfl rfl rfl ?_
  refine lq_pml (as2 := [vI (xs (i + 1)).toInt, vI (xs (i + 2)).toInt, vI (xs (i + 3)).toInt]) (pc2 := 679) C0 hKK hT rfl rfl rfl rfl rfl rfl rfl (Nat.le_of_ble_eq_true rfl) (List.forall_mem_cons.mpr ⟨am_rI _, (List.forall_mem_cons.mpr ⟨am_rI _, (List.forall_mem_cons.mpr ⟨am_rI _, (fun _ h => absurd h List.not_mem_nil)⟩)⟩)⟩) (qm_X5_term hM hJ) ?_
  intro cc ad H locs e1 hT
  obtain ⟨hw, hC, hM, hI, hJ, hz, hl⟩ := id hT
  replace hj := hj.e e1
  exact lv_goto (tgt := 1022) C0.1 C0.2.1 (lq_d rfl) (by decide) (K cc ad H locs hj hT)
theorem lq_k12 {p : Program} {l : Launch} {e : Env} {s : State} {m : MethodId} {below : List Frame} {meth : Method} {c : Code} {Q : State → Prop} {D : va_G} {ca : Nat → ClassId} {b L : Nat} {xs : Nat → Int32} {H : Heap} {locs : List Loc} {LS : Array Slot} {ad : Nat → Nat} {i z : Nat} {F : aq_F} {cc : aq_C} (C0 : lw_At p s m meth c b L xs) (hKK : am_KK D ca s) (hL : L ≤ 3072) (hi : i + 6 ≤ L) (K : ∀ (d : aq_C) (ad2 : Nat → Nat) (H2 : Heap) (locs2 : List Loc), lq_J d → lq_T D ca s b i z F d ad2 H2 locs2 LS → W p l e room_1 s m #[Value.ref b] below meth c H2 locs2 551 z Q (F0 m 1022 LS [])) (hj : lq_J cc) (hT : lq_T D ca s b i z F cc ad H locs LS) : W p l e room_1 s m #[Value.ref b] below meth c H locs 551 z Q (F0 m 682 LS []) := by
  obtain ⟨hw, hC, hM, hI, hJ, hz, hl⟩ := id hT
  refine lv_aload_n C0.1 C0.2.1 (lq_d rfl) rfl (lv_at hl 2 rfl) ?_
  refine lq_arg (k := 1) (pc2 := 688) C0 hL hi hT (by decide) rfl rfl rfl rfl rfl rfl ?_
  refine lq_arg (k := 2) (pc2 := 693) C0 hL hi hT (by decide) rfl rfl rfl rfl rfl rfl ?_
  refine lq_px (as2 := [vI (xs (i + 1)).toInt, vI (xs (i + 2)).toInt]) (pc2 := 697) C0 hKK hT rfl rfl rfl rfl rfl rfl rfl (Nat.le_of_ble_eq_true rfl) (List.forall_mem_cons.mpr ⟨am_rI _, (List.forall_mem_cons.mpr ⟨am_rI _, (fun _ h => absurd h List.not_mem_nil)⟩)⟩) (qn_X4_same hC hI) ?_
  intro cc ad H locs e1 hT
  obtain ⟨hw, hC, hM, hI, hJ, hz, hl⟩ := id hT
  replace hj := hj.e e1
  refine lv_aload_n C0.1 C0.2.1 (lq_d rfl) rfl (lv_at hl 1 rfl) ?_
  refine lq_arg (k := 1) (pc2 := 703) C0 hL hi hT (by decide) rfl rfl rfl rfl rfl rfl ?_
  refine lq_arg (k := 2) (pc2 := 708) C0 hL hi hT (by decide) rfl rfl rfl rfl rfl rfl ?_
  refine lq_pm (as2 := [vI (xs (i + 1)).toInt, vI (xs (i + 2)).toInt]) (pc2 := 712) C0 hKK hT rfl rfl rfl rfl rfl rfl rfl (Nat.le_of_ble_eq_true rfl) (List.forall_mem_cons.mpr ⟨am_rI _, (List.forall_mem_cons.mpr ⟨am_rI _, (fun _ h => absurd h List.not_mem_nil)⟩)⟩) (qm_X5_same hM hJ) ?_
  intro cc ad H locs e1 hT
  obtain ⟨hw, hC, hM, hI, hJ, hz, hl⟩ := id hT
  replace hj := hj.e e1
  exact lv_goto (tgt := 1022) C0.1 C0.2.1 (lq_d rfl) (by decide) (K cc ad H locs hj hT)
theorem lq_k13 {p : Program} {l : Launch} {e : Env} {s : State} {m : MethodId} {below : List Frame} {meth : Method} {c : Code} {Q : State → Prop} {D : va_G} {ca : Nat → ClassId} {b L : Nat} {xs : Nat → Int32} {H : Heap} {locs : List Loc} {LS : Array Slot} {ad : Nat → Nat} {i z : Nat} {F : aq_F} {cc : aq_C} (C0 : lw_At p s m meth c b L xs) (hKK : am_KK D ca s) (hL : L ≤ 3072) (hi : i + 6 ≤ L) (K : ∀ (d : aq_C) (ad2 : Nat → Nat) (H2 : Heap) (locs2 : List Loc), lq_J d → lq_T D ca s b i z F d ad2 H2 locs2 LS → W p l e room_1 s m #[Value.ref b] below meth c H2 locs2 551 z Q (F0 m 1022 LS [])) (hj : lq_J cc) (hT : lq_T D ca s b i z F cc ad H locs LS) : W p l e room_1 s m #[Value.ref b] below meth c H locs 551 z Q (F0 m 715 LS []) := by
  obtain ⟨hw, hC, hM, hI, hJ, hz, hl⟩ := id hT
  refine lv_aload_n C0.1 C0.2.1 (lq_d rfl) rfl (lv_at hl 2 rfl) ?_
  refine lq_arg (k := 1) (pc2 := 721) C0 hL hi hT (by decide) rfl rfl rfl rfl rfl rfl ?_
  refine lq_arg (k := 2) (pc2 := 726) C0 hL hi hT (by decide) rfl rfl rfl rfl rfl rfl ?_
  refine lq_pxl (as2 := [vI (xs (i + 1)).toInt, vI (xs (i + 2)).toInt]) (pc2 := 730) C0 hKK hT rfl rfl rfl rfl rfl rfl rfl (Nat.le_of_ble_eq_true rfl) (List.forall_mem_cons.mpr ⟨am_rI _, (List.forall_mem_cons.mpr ⟨am_rI _, (fun _ h => absurd h List.not_mem_nil)⟩)⟩) (qn_X4_closed hC hI) ?_
  intro cc ad H locs e1 hT
  obtain ⟨hw, hC, hM, hI, hJ, hz, hl⟩ := id hT
  replace hj := hj.e e1
  refine lv_aload_n C0.1 C0.2.1 (lq_d rfl) rfl (lv_at hl 1 rfl) ?_
  refine lq_arg (k := 1) (pc2 := 736) C0 hL hi hT (by decide) rfl rfl rfl rfl rfl rfl ?_
  refine lq_arg (k := 2) (pc2 := 741) C0 hL hi hT (by decide) rfl rfl rfl rfl rfl rfl ?_
  refine lq_pml (as2 := [vI (xs (i + 1)).toInt, vI (xs (i + 2)).toInt]) (pc2 := 745) C0 hKK hT rfl rfl rfl rfl rfl rfl rfl (Nat.le_of_ble_eq_true rfl) (List.forall_mem_cons.mpr ⟨am_rI _, (List.forall_mem_cons.mpr ⟨am_rI _, (fun _ h => absurd h List.not_mem_nil)⟩)⟩) (qm_X5_closed hM hJ) ?_
  intro cc ad H locs e1 hT
  obtain ⟨hw, hC, hM, hI, hJ, hz, hl⟩ := id hT
  replace hj := hj.e e1
  exact lv_goto (tgt := 1022) C0.1 C0.2.1 (lq_d rfl) (by decide) (K cc ad H locs hj hT)
theorem lq_k14 {p : Program} {l : Launch} {e : Env} {s : State} {m : MethodId} {below : List Frame} {meth : Method} {c : Code} {Q : State → Prop} {D : va_G} {ca : Nat → ClassId} {b L : Nat} {xs : Nat → Int32} {H : Heap} {locs : List Loc} {LS : Array Slot} {ad : Nat → Nat} {i z : Nat} {F : aq_F} {cc : aq_C} (C0 : lw_At p s m meth c b L xs) (hKK : am_KK D ca s) (hL : L ≤ 3072) (hi : i + 6 ≤ L) (K : ∀ (d : aq_C) (ad2 : Nat → Nat) (H2 : Heap) (locs2 : List Loc), lq_J d → lq_T D ca s b i z F d ad2 H2 locs2 LS → W p l e room_1 s m #[Value.ref b] below meth c H2 locs2 551 z Q (F0 m 1022 LS [])) (hj : lq_J cc) (hT : lq_T D ca s b i z F cc ad H locs LS) : W p l e room_1 s m #[Value.ref b] below meth c H locs 551 z Q (F0 m 748 LS []) := by
  obtain ⟨hw, hC, hM, hI, hJ, hz, hl⟩ := id hT
  refine lv_aload_n C0.1 C0.2.1 (lq_d rfl) rfl (lv_at hl 2 rfl) ?_
  refine lq_arg (k := 1) (pc2 := 754) C0 hL hi hT (by decide) rfl rfl rfl rfl rfl rfl ?_
  refine lq_arg (k := 2) (pc2 := 759) C0 hL hi hT (by decide) rfl rfl rfl rfl rfl rfl ?_
  refine lq_px (as2 := [vI (xs (i + 1)).toInt, vI (xs (i + 2)).toInt]) (pc2 := 763) C0 hKK hT rfl rfl rfl rfl rfl rfl rfl (Nat.le_of_ble_eq_true rfl) (List.forall_mem_cons.mpr ⟨am_rI _, (List.forall_mem_cons.mpr ⟨am_rI _, (fun _ h => absurd h List.not_mem_nil)⟩)⟩) (qn_X4_halves hC hI) ?_
  intro cc ad H locs e1 hT
  obtain ⟨hw, hC, hM, hI, hJ, hz, hl⟩ := id hT
  replace hj := hj.e e1
  refine lv_aload_n C0.1 C0.2.1 (lq_d rfl) rfl (lv_at hl 1 rfl) ?_
  refine lq_arg (k := 1) (pc2 := 769) C0 hL hi hT (by decide) rfl rfl rfl rfl rfl rfl ?_
  refine lq_arg (k := 2) (pc2 := 774) C0 hL hi hT (by decide) rfl rfl rfl rfl rfl rfl ?_
  refine lq_pm (as2 := [vI (xs (i + 1)).toInt, vI (xs (i + 2)).toInt]) (pc2 := 778) C0 hKK hT rfl rfl rfl rfl rfl rfl rfl (Nat.le_of_ble_eq_true rfl) (List.forall_mem_cons.mpr ⟨am_rI _, (List.forall_mem_cons.mpr ⟨am_rI _, (fun _ h => absurd h List.not_mem_nil)⟩)⟩) (qm_X5_halves hM hJ) ?_
  intro cc ad H locs e1 hT
  obtain ⟨hw, hC, hM, hI, hJ, hz, hl⟩ := id hT
  replace hj := hj.e e1
  exact lv_goto (tgt := 1022) C0.1 C0.2.1 (lq_d rfl) (by decide) (K cc ad H locs hj hT)
theorem lq_k15 {p : Program} {l : Launch} {e : Env} {s : State} {m : MethodId} {below : List Frame} {meth : Method} {c : Code} {Q : State → Prop} {D : va_G} {ca : Nat → ClassId} {b L : Nat} {xs : Nat → Int32} {H : Heap} {locs : List Loc} {LS : Array Slot} {ad : Nat → Nat} {i z : Nat} {F : aq_F} {cc : aq_C} (C0 : lw_At p s m meth c b L xs) (hKK : am_KK D ca s) (hL : L ≤ 3072) (hi : i + 6 ≤ L) (K : ∀ (d : aq_C) (ad2 : Nat → Nat) (H2 : Heap) (locs2 : List Loc), lq_J d → lq_T D ca s b i z F d ad2 H2 locs2 LS → W p l e room_1 s m #[Value.ref b] below meth c H2 locs2 551 z Q (F0 m 1022 LS [])) (hj : lq_J cc) (hT : lq_T D ca s b i z F cc ad H locs LS) : W p l e room_1 s m #[Value.ref b] below meth c H locs 551 z Q (F0 m 781 LS []) := by
  obtain ⟨hw, hC, hM, hI, hJ, hz, hl⟩ := id hT
  refine lv_aload_n C0.1 C0.2.1 (lq_d rfl) rfl (lv_at hl 2 rfl) ?_
  refine lq_arg (k := 1) (pc2 := 787) C0 hL hi hT (by decide) rfl rfl rfl rfl rfl rfl ?_
  refine lq_arg (k := 2) (pc2 := 792) C0 hL hi hT (by decide) rfl rfl rfl rfl rfl rfl ?_
  refine lq_arg (k := 3) (pc2 := 797) C0 hL hi hT (by decide) rfl rfl rfl rfl rfl rfl ?_
  refine lq_arg (k := 4) (pc2 := 802) C0 hL hi hT (by decide) rfl rfl rfl rfl rfl rfl ?_
  refine lq_px (as2 := [vI (xs (i + 1)).toInt, vI (xs (i + 2)).toInt, vI (xs (i + 3)).toInt, vI (xs (i + 4)).toInt]) (pc2 := 806) C0 hKK hT rfl rfl rfl rfl rfl rfl rfl (Nat.le_of_ble_eq_true rfl) (List.forall_mem_cons.mpr ⟨am_rI _, (List.forall_mem_cons.mpr ⟨am_rI _, (List.forall_mem_cons.mpr ⟨am_rI _, (List.forall_mem_cons.mpr ⟨am_rI _, (fun _ h => absurd h List.not_mem_nil)⟩)⟩)⟩)⟩) (qn_X4_half hC hI) ?_
  intro cc ad H locs e1 hT
  obtain ⟨hw, hC, hM, hI, hJ, hz, hl⟩ := id hT
  replace hj := hj.e e1
  refine lv_aload_n C0.1 C0.2.1 (lq_d rfl) rfl (lv_at hl 1 rfl) ?_
  refine lq_arg (k := 1) (pc2 := 812) C0 hL hi hT (by decide) rfl rfl rfl rfl rfl rfl ?_
  refine lq_arg (k := 2) (pc2 := 817) C0 hL hi hT (by decide) rfl rfl rfl rfl rfl rfl ?_
  refine lq_arg (k := 3) (pc2 := 822) C0 hL hi hT (by decide) rfl rfl rfl rfl rfl rfl ?_
  refine lq_arg (k := 4) (pc2 := 827) C0 hL hi hT (by decide) rfl rfl rfl rfl rfl rfl ?_
  refine lq_pm (as2 := [vI (xs (i + 1)).toInt, vI (xs (i + 2)).toInt, vI (xs (i + 3)).toInt, vI (xs (i + 4)).toInt]) (pc2 := 831) C0 hKK hT rfl rfl rfl rfl rfl rfl rfl (Nat.le_of_ble_eq_true rfl) (List.forall_mem_cons.mpr ⟨am_rI _, (List.forall_mem_cons.mpr ⟨am_rI _, (List.forall_mem_cons.mpr ⟨am_rI _, (List.forall_mem_cons.mpr ⟨am_rI _, (fun _ h => absurd h List.not_mem_nil)⟩)⟩)⟩)⟩) (qm_X5_half hM hJ) ?_
  intro cc ad H locs e1 hT
  obtain ⟨hw, hC, hM, hI, hJ, hz, hl⟩ := id hT
  replace hj := hj.e e1
  exact lv_goto (tgt := 1022) C0.1 C0.2.1 (lq_d rfl) (by decide) (K cc ad H locs hj hT)
theorem lq_k16 {p : Program} {l : Launch} {e : Env} {s : State} {m : MethodId} {below : List Frame} {meth : Method} {c : Code} {Q : State → Prop} {D : va_G} {ca : Nat → ClassId} {b L : Nat} {xs : Nat → Int32} {H : Heap} {locs : List Loc} {LS : Array Slot} {ad : Nat → Nat} {i z : Nat} {F : aq_F} {cc : aq_C} (C0 : lw_At p s m meth c b L xs) (hKK : am_KK D ca s) (hL : L ≤ 3072) (hi : i + 6 ≤ L) (K : ∀ (d : aq_C) (ad2 : Nat → Nat) (H2 : Heap) (locs2 : List Loc), lq_J d → lq_T D ca s b i z F d ad2 H2 locs2 LS → W p l e room_1 s m #[Value.ref b] below meth c H2 locs2 551 z Q (F0 m 1022 LS [])) (hj : lq_J cc) (hT : lq_T D ca s b i z F cc ad H locs LS) : W p l e room_1 s m #[Value.ref b] below meth c H locs 551 z Q (F0 m 834 LS []) := by
  obtain ⟨hw, hC, hM, hI, hJ, hz, hl⟩ := id hT
  refine lv_aload_n C0.1 C0.2.1 (lq_d rfl) rfl (lv_at hl 2 rfl) ?_
  refine lq_arg (k := 1) (pc2 := 840) C0 hL hi hT (by decide) rfl rfl rfl rfl rfl rfl ?_
  refine lq_arg (k := 2) (pc2 := 845) C0 hL hi hT (by decide) rfl rfl rfl rfl rfl rfl ?_
  refine lq_arg (k := 3) (pc2 := 850) C0 hL hi hT (by decide) rfl rfl rfl rfl rfl rfl ?_
  refine lq_arg (k := 4) (pc2 := 855) C0 hL hi hT (by decide) rfl rfl rfl rfl rfl rfl ?_
  refine lq_px (as2 := [vI (xs (i + 1)).toInt, vI (xs (i + 2)).toInt, vI (xs (i + 3)).toInt, vI (xs (i + 4)).toInt]) (pc2 := 859) C0 hKK hT rfl rfl rfl rfl rfl rfl rfl (Nat.le_of_ble_eq_true rfl) (List.forall_mem_cons.mpr ⟨am_rI _, (List.forall_mem_cons.mpr ⟨am_rI _, (List.forall_mem_cons.mpr ⟨am_rI _, (List.forall_mem_cons.mpr ⟨am_rI _, (fun _ h => absurd h List.not_mem_nil)⟩)⟩)⟩)⟩) (qn_X4_form hC hI) ?_
  intro cc ad H locs e1 hT
  obtain ⟨hw, hC, hM, hI, hJ, hz, hl⟩ := id hT
  replace hj := hj.e e1
  refine lv_aload_n C0.1 C0.2.1 (lq_d rfl) rfl (lv_at hl 1 rfl) ?_
  refine lq_arg (k := 1) (pc2 := 865) C0 hL hi hT (by decide) rfl rfl rfl rfl rfl rfl ?_
  refine lq_arg (k := 2) (pc2 := 870) C0 hL hi hT (by decide) rfl rfl rfl rfl rfl rfl ?_
  refine lq_arg (k := 3) (pc2 := 875) C0 hL hi hT (by decide) rfl rfl rfl rfl rfl rfl ?_
  refine lq_arg (k := 4) (pc2 := 880) C0 hL hi hT (by decide) rfl rfl rfl rfl rfl rfl ?_
  refine lq_pm (as2 := [vI (xs (i + 1)).toInt, vI (xs (i + 2)).toInt, vI (xs (i + 3)).toInt, vI (xs (i + 4)).toInt]) (pc2 := 884) C0 hKK hT rfl rfl rfl rfl rfl rfl rfl (Nat.le_of_ble_eq_true rfl) (List.forall_mem_cons.mpr ⟨am_rI _, (List.forall_mem_cons.mpr ⟨am_rI _, (List.forall_mem_cons.mpr ⟨am_rI _, (List.forall_mem_cons.mpr ⟨am_rI _, (fun _ h => absurd h List.not_mem_nil)⟩)⟩)⟩)⟩) (qm_X5_form hM hJ) ?_
  intro cc ad H locs e1 hT
  obtain ⟨hw, hC, hM, hI, hJ, hz, hl⟩ := id hT
  replace hj := hj.e e1
  exact lv_goto (tgt := 1022) C0.1 C0.2.1 (lq_d rfl) (by decide) (K cc ad H locs hj hT)
theorem lq_k17 {p : Program} {l : Launch} {e : Env} {s : State} {m : MethodId} {below : List Frame} {meth : Method} {c : Code} {Q : State → Prop} {D : va_G} {ca : Nat → ClassId} {b L : Nat} {xs : Nat → Int32} {H : Heap} {locs : List Loc} {LS : Array Slot} {ad : Nat → Nat} {i z : Nat} {F : aq_F} {cc : aq_C} (C0 : lw_At p s m meth c b L xs) (hKK : am_KK D ca s) (hL : L ≤ 3072) (hi : i + 6 ≤ L) (K : ∀ (d : aq_C) (ad2 : Nat → Nat) (H2 : Heap) (locs2 : List Loc), lq_J d → lq_T D ca s b i z F d ad2 H2 locs2 LS → W p l e room_1 s m #[Value.ref b] below meth c H2 locs2 551 z Q (F0 m 1022 LS [])) (hj : lq_J cc) (hT : lq_T D ca s b i z F cc ad H locs LS) : W p l e room_1 s m #[Value.ref b] below meth c H locs 551 z Q (F0 m 887 LS []) := by
  obtain ⟨hw, hC, hM, hI, hJ, hz, hl⟩ := id hT
  refine lv_aload_n C0.1 C0.2.1 (lq_d rfl) rfl (lv_at hl 2 rfl) ?_
  refine lq_arg (k := 1) (pc2 := 893) C0 hL hi hT (by decide) rfl rfl rfl rfl rfl rfl ?_
  refine lq_arg (k := 2) (pc2 := 898) C0 hL hi hT (by decide) rfl rfl rfl rfl rfl rfl ?_
  refine lq_arg (k := 3) (pc2 := 903) C0 hL hi hT (by decide) rfl rfl rfl rfl rfl rfl ?_
  refine lq_arg (k := 4) (pc2 := 908) C0 hL hi hT (by decide) rfl rfl rfl rfl rfl rfl ?_
  refine lq_px (as2 := [vI (xs (i + 1)).toInt, vI (xs (i + 2)).toInt, vI (xs (i + 3)).toInt, vI (xs (i + 4)).toInt]) (pc2 := 912) C0 hKK hT rfl rfl rfl rfl rfl rfl rfl (Nat.le_of_ble_eq_true rfl) (List.forall_mem_cons.mpr ⟨am_rI _, (List.forall_mem_cons.mpr ⟨am_rI _, (List.forall_mem_cons.mpr ⟨am_rI _, (List.forall_mem_cons.mpr ⟨am_rI _, (fun _ h => absurd h List.not_mem_nil)⟩)⟩)⟩)⟩) (qn_X4_free hC hI) ?_
  intro cc ad H locs e1 hT
  obtain ⟨hw, hC, hM, hI, hJ, hz, hl⟩ := id hT
  replace hj := hj.e e1
  refine lv_aload_n C0.1 C0.2.1 (lq_d rfl) rfl (lv_at hl 1 rfl) ?_
  refine lq_arg (k := 1) (pc2 := 918) C0 hL hi hT (by decide) rfl rfl rfl rfl rfl rfl ?_
  refine lq_arg (k := 2) (pc2 := 923) C0 hL hi hT (by decide) rfl rfl rfl rfl rfl rfl ?_
  refine lq_arg (k := 3) (pc2 := 928) C0 hL hi hT (by decide) rfl rfl rfl rfl rfl rfl ?_
  refine lq_arg (k := 4) (pc2 := 933) C0 hL hi hT (by decide) rfl rfl rfl rfl rfl rfl ?_
  refine lq_pm (as2 := [vI (xs (i + 1)).toInt, vI (xs (i + 2)).toInt, vI (xs (i + 3)).toInt, vI (xs (i + 4)).toInt]) (pc2 := 937) C0 hKK hT rfl rfl rfl rfl rfl rfl rfl (Nat.le_of_ble_eq_true rfl) (List.forall_mem_cons.mpr ⟨am_rI _, (List.forall_mem_cons.mpr ⟨am_rI _, (List.forall_mem_cons.mpr ⟨am_rI _, (List.forall_mem_cons.mpr ⟨am_rI _, (fun _ h => absurd h List.not_mem_nil)⟩)⟩)⟩)⟩) (qm_X5_free hM hJ) ?_
  intro cc ad H locs e1 hT
  obtain ⟨hw, hC, hM, hI, hJ, hz, hl⟩ := id hT
  replace hj := hj.e e1
  exact lv_goto (tgt := 1022) C0.1 C0.2.1 (lq_d rfl) (by decide) (K cc ad H locs hj hT)
theorem lq_k18 {p : Program} {l : Launch} {e : Env} {s : State} {m : MethodId} {below : List Frame} {meth : Method} {c : Code} {Q : State → Prop} {D : va_G} {ca : Nat → ClassId} {b L : Nat} {xs : Nat → Int32} {H : Heap} {locs : List Loc} {LS : Array Slot} {ad : Nat → Nat} {i z : Nat} {F : aq_F} {cc : aq_C} (C0 : lw_At p s m meth c b L xs) (hKK : am_KK D ca s) (hL : L ≤ 3072) (hi : i + 6 ≤ L) (K : ∀ (d : aq_C) (ad2 : Nat → Nat) (H2 : Heap) (locs2 : List Loc), lq_J d → lq_T D ca s b i z F d ad2 H2 locs2 LS → W p l e room_1 s m #[Value.ref b] below meth c H2 locs2 551 z Q (F0 m 1022 LS [])) (hj : lq_J cc) (hT : lq_T D ca s b i z F cc ad H locs LS) : W p l e room_1 s m #[Value.ref b] below meth c H locs 551 z Q (F0 m 940 LS []) := by
  obtain ⟨hw, hC, hM, hI, hJ, hz, hl⟩ := id hT
  refine lv_aload_n C0.1 C0.2.1 (lq_d rfl) rfl (lv_at hl 2 rfl) ?_
  refine lq_arg (k := 1) (pc2 := 946) C0 hL hi hT (by decide) rfl rfl rfl rfl rfl rfl ?_
  refine lq_cx (as2 := [vI (xs (i + 1)).toInt]) (rest := []) C0 hKK hT rfl rfl rfl rfl (Nat.le_of_ble_eq_true rfl) (List.forall_mem_cons.mpr ⟨am_rI _, (fun _ h => absurd h List.not_mem_nil)⟩) (fun _ h => absurd h List.not_mem_nil) (Nat.zero_le _) (lx_row hC hI) ?_
  intro r1 cc1 ad H locs _ hr1 sm1 hT _ gr1
  obtain ⟨q1, u1, w1⟩ := hr1
  obtain ⟨hw, hC, hM, hI, hJ, hz, hl⟩ := id hT
  subst q1
  refine lv_pop C0.1 C0.2.1 (lq_d rfl) rfl ?_
  show W p l e room_1 s m #[Value.ref b] below meth c H locs 551 z Q (F0 m 950 LS [])
  refine lv_aload_n C0.1 C0.2.1 (lq_d rfl) rfl (lv_at hl 1 rfl) ?_
  refine lq_arg (k := 1) (pc2 := 956) C0 hL hi hT (by decide) rfl rfl rfl rfl rfl rfl ?_
  refine lq_cm (as2 := [vI (xs (i + 1)).toInt]) (rest := []) C0 hKK hT rfl rfl rfl rfl (Nat.le_of_ble_eq_true rfl) (List.forall_mem_cons.mpr ⟨am_rI _, (fun _ h => absurd h List.not_mem_nil)⟩) (fun _ h => absurd h List.not_mem_nil) (Nat.zero_le _) (lm_row hM hJ) ?_
  intro r2 cc2 ad H locs _ hr2 sm2 hT _ gr2
  obtain ⟨q2, u2, w2⟩ := hr2
  obtain ⟨hw, hC, hM, hI, hJ, hz, hl⟩ := id hT
  subst q2
  refine lv_pop C0.1 C0.2.1 (lq_d rfl) rfl ?_
  show W p l e room_1 s m #[Value.ref b] below meth c H locs 551 z Q (F0 m 960 LS [])
  have z9 : cc1 527 9 = cc 8 0 := by rw [sm1 527 (by omega) 9]; exact hj.1.symm
  have z10 : cc1 527 10 = cc 8 1 := by rw [sm1 527 (by omega) 10]; exact hj.2.symm
  rw [z10] at w2
  rw [z9] at u2
  have hj2 : lq_J cc2 := ⟨by rw [sm2 8 (by omega) 0, u1, u2], by rw [sm2 8 (by omega) 1, w1, w2]⟩
  exact lv_goto (tgt := 1022) C0.1 C0.2.1 (lq_d rfl) (by decide) (K cc2 ad H locs hj2 hT)
theorem lq_k19 {p : Program} {l : Launch} {e : Env} {s : State} {m : MethodId} {below : List Frame} {meth : Method} {c : Code} {Q : State → Prop} {D : va_G} {ca : Nat → ClassId} {b L : Nat} {xs : Nat → Int32} {H : Heap} {locs : List Loc} {LS : Array Slot} {ad : Nat → Nat} {i z : Nat} {F : aq_F} {cc : aq_C} (C0 : lw_At p s m meth c b L xs) (hKK : am_KK D ca s) (hL : L ≤ 3072) (hi : i + 6 ≤ L) (K : ∀ (d : aq_C) (ad2 : Nat → Nat) (H2 : Heap) (locs2 : List Loc), lq_J d → lq_T D ca s b i z F d ad2 H2 locs2 LS → W p l e room_1 s m #[Value.ref b] below meth c H2 locs2 551 z Q (F0 m 1022 LS [])) (hj : lq_J cc) (hT : lq_T D ca s b i z F cc ad H locs LS) : W p l e room_1 s m #[Value.ref b] below meth c H locs 551 z Q (F0 m 963 LS []) := by
  obtain ⟨hw, hC, hM, hI, hJ, hz, hl⟩ := id hT
  refine lv_aload_n C0.1 C0.2.1 (lq_d rfl) rfl (lv_at hl 2 rfl) ?_
  refine lq_arg (k := 1) (pc2 := 969) C0 hL hi hT (by decide) rfl rfl rfl rfl rfl rfl ?_
  refine lq_cx (as2 := [vI (xs (i + 1)).toInt]) (rest := []) C0 hKK hT rfl rfl rfl rfl (Nat.le_of_ble_eq_true rfl) (List.forall_mem_cons.mpr ⟨am_rI _, (fun _ h => absurd h List.not_mem_nil)⟩) (fun _ h => absurd h List.not_mem_nil) (Nat.zero_le _) (lx_cross hC hI) ?_
  intro r1 cc1 ad H locs _ hr1 sm1 hT _ gr1
  obtain ⟨q1, u1, w1⟩ := hr1
  obtain ⟨hw, hC, hM, hI, hJ, hz, hl⟩ := id hT
  subst q1
  refine lv_pop C0.1 C0.2.1 (lq_d rfl) rfl ?_
  show W p l e room_1 s m #[Value.ref b] below meth c H locs 551 z Q (F0 m 973 LS [])
  refine lv_aload_n C0.1 C0.2.1 (lq_d rfl) rfl (lv_at hl 1 rfl) ?_
  refine lq_arg (k := 1) (pc2 := 979) C0 hL hi hT (by decide) rfl rfl rfl rfl rfl rfl ?_
  refine lq_cm (as2 := [vI (xs (i + 1)).toInt]) (rest := []) C0 hKK hT rfl rfl rfl rfl (Nat.le_of_ble_eq_true rfl) (List.forall_mem_cons.mpr ⟨am_rI _, (fun _ h => absurd h List.not_mem_nil)⟩) (fun _ h => absurd h List.not_mem_nil) (Nat.zero_le _) (lm_cross hM hJ (am_rI _)) ?_
  intro r2 cc2 ad H locs _ hr2 sm2 hT _ gr2
  obtain ⟨q2, u2, w2⟩ := hr2
  obtain ⟨hw, hC, hM, hI, hJ, hz, hl⟩ := id hT
  subst q2
  refine lv_pop C0.1 C0.2.1 (lq_d rfl) rfl ?_
  show W p l e room_1 s m #[Value.ref b] below meth c H locs 551 z Q (F0 m 983 LS [])
  have z9 : cc1 527 9 = cc 8 0 := by rw [sm1 527 (by omega) 9]; exact hj.1.symm
  have z10 : cc1 527 10 = cc 8 1 := by rw [sm1 527 (by omega) 10]; exact hj.2.symm
  rw [z9, z10] at w2
  rw [z9] at u2
  have hj2 : lq_J cc2 := ⟨by rw [sm2 8 (by omega) 0, u1, u2], by rw [sm2 8 (by omega) 1, w1, w2]⟩
  exact lv_goto (tgt := 1022) C0.1 C0.2.1 (lq_d rfl) (by decide) (K cc2 ad H locs hj2 hT)
theorem lq_k20 {p : Program} {l : Launch} {e : Env} {s : State} {m : MethodId} {below : List Frame} {meth : Method} {c : Code} {Q : State → Prop} {D : va_G} {ca : Nat → ClassId} {b L : Nat} {xs : Nat → Int32} {H : Heap} {locs : List Loc} {LS : Array Slot} {ad : Nat → Nat} {i z : Nat} {F : aq_F} {cc : aq_C} (C0 : lw_At p s m meth c b L xs) (hKK : am_KK D ca s) (hL : L ≤ 3072) (hi : i + 6 ≤ L) (K : ∀ (d : aq_C) (ad2 : Nat → Nat) (H2 : Heap) (locs2 : List Loc), lq_J d → lq_T D ca s b i z F d ad2 H2 locs2 LS → W p l e room_1 s m #[Value.ref b] below meth c H2 locs2 551 z Q (F0 m 1022 LS [])) (hj : lq_J cc) (hT : lq_T D ca s b i z F cc ad H locs LS) : W p l e room_1 s m #[Value.ref b] below meth c H locs 551 z Q (F0 m 986 LS []) := by
  obtain ⟨hw, hC, hM, hI, hJ, hz, hl⟩ := id hT
  refine lv_aload_n C0.1 C0.2.1 (lq_d rfl) rfl (lv_at hl 2 rfl) ?_
  refine lq_cx (as2 := []) (rest := []) C0 hKK hT rfl rfl rfl rfl (Nat.le_of_ble_eq_true rfl) (fun _ h => absurd h List.not_mem_nil) (fun _ h => absurd h List.not_mem_nil) (Nat.zero_le _) (lx_back hC hI) ?_
  intro r1 cc1 ad H locs _ hr1 sm1 hT _ gr1
  obtain ⟨q1, u1, w1⟩ := hr1
  obtain ⟨hw, hC, hM, hI, hJ, hz, hl⟩ := id hT
  subst q1
  refine lv_pop C0.1 C0.2.1 (lq_d rfl) rfl ?_
  show W p l e room_1 s m #[Value.ref b] below meth c H locs 551 z Q (F0 m 991 LS [])
  refine lv_aload_n C0.1 C0.2.1 (lq_d rfl) rfl (lv_at hl 1 rfl) ?_
  refine lq_cm (as2 := []) (rest := []) C0 hKK hT rfl rfl rfl rfl (Nat.le_of_ble_eq_true rfl) (fun _ h => absurd h List.not_mem_nil) (fun _ h => absurd h List.not_mem_nil) (Nat.zero_le _) (lm_back hM hJ) ?_
  intro r2 cc2 ad H locs _ hr2 sm2 hT _ gr2
  obtain ⟨q2, u2, w2⟩ := hr2
  obtain ⟨hw, hC, hM, hI, hJ, hz, hl⟩ := id hT
  subst q2
  refine lv_pop C0.1 C0.2.1 (lq_d rfl) rfl ?_
  show W p l e room_1 s m #[Value.ref b] below meth c H locs 551 z Q (F0 m 996 LS [])
  have z9 : cc1 527 9 = cc 8 0 := by rw [sm1 527 (by omega) 9]; exact hj.1.symm
  have z10 : cc1 527 10 = cc 8 1 := by rw [sm1 527 (by omega) 10]; exact hj.2.symm
  rw [z10] at w2
  rw [z9] at u2
  have hj2 : lq_J cc2 := ⟨by rw [sm2 8 (by omega) 0, u1, u2], by rw [sm2 8 (by omega) 1, w1, w2]⟩
  exact lv_goto (tgt := 1022) C0.1 C0.2.1 (lq_d rfl) (by decide) (K cc2 ad H locs hj2 hT)
theorem lq_k21 {p : Program} {l : Launch} {e : Env} {s : State} {m : MethodId} {below : List Frame} {meth : Method} {c : Code} {Q : State → Prop} {D : va_G} {ca : Nat → ClassId} {b L : Nat} {xs : Nat → Int32} {H : Heap} {locs : List Loc} {LS : Array Slot} {ad : Nat → Nat} {i z : Nat} {F : aq_F} {cc : aq_C} (C0 : lw_At p s m meth c b L xs) (hKK : am_KK D ca s) (hL : L ≤ 3072) (hi : i + 6 ≤ L) (K : ∀ (d : aq_C) (ad2 : Nat → Nat) (H2 : Heap) (locs2 : List Loc), lq_J d → lq_T D ca s b i z F d ad2 H2 locs2 LS → W p l e room_1 s m #[Value.ref b] below meth c H2 locs2 551 z Q (F0 m 1022 LS [])) (hj : lq_J cc) (hT : lq_T D ca s b i z F cc ad H locs LS) : W p l e room_1 s m #[Value.ref b] below meth c H locs 551 z Q (F0 m 999 LS []) := by
  obtain ⟨hw, hC, hM, hI, hJ, hz, hl⟩ := id hT
  refine lv_aload_n C0.1 C0.2.1 (lq_d rfl) rfl (lv_at hl 2 rfl) ?_
  refine lq_arg (k := 1) (pc2 := 1005) C0 hL hi hT (by decide) rfl rfl rfl rfl rfl rfl ?_
  refine lq_px (as2 := [vI (xs (i + 1)).toInt]) (pc2 := 1009) C0 hKK hT rfl rfl rfl rfl rfl rfl rfl (Nat.le_of_ble_eq_true rfl) (List.forall_mem_cons.mpr ⟨am_rI _, (fun _ h => absurd h List.not_mem_nil)⟩) (qn_X4_power hC hI) ?_
  intro cc ad H locs e1 hT
  obtain ⟨hw, hC, hM, hI, hJ, hz, hl⟩ := id hT
  replace hj := hj.e e1
  refine lv_aload_n C0.1 C0.2.1 (lq_d rfl) rfl (lv_at hl 1 rfl) ?_
  refine lq_arg (k := 1) (pc2 := 1015) C0 hL hi hT (by decide) rfl rfl rfl rfl rfl rfl ?_
  refine lq_pm (as2 := [vI (xs (i + 1)).toInt]) (pc2 := 1019) C0 hKK hT rfl rfl rfl rfl rfl rfl rfl (Nat.le_of_ble_eq_true rfl) (List.forall_mem_cons.mpr ⟨am_rI _, (fun _ h => absurd h List.not_mem_nil)⟩) (qm_X5_power hM hJ) ?_
  intro cc ad H locs e1 hT
  obtain ⟨hw, hC, hM, hI, hJ, hz, hl⟩ := id hT
  replace hj := hj.e e1
  exact lv_goto (tgt := 1022) C0.1 C0.2.1 (lq_d rfl) (by decide) (K cc ad H locs hj hT)
