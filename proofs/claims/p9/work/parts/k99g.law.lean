/-! The law's cases, for sums. Printed by wip/p20/law/genS.py. -/
theorem lg_cmp_s (x : Int64) : lg_cmp x x = 0 := by
  unfold lg_cmp
  simp
theorem lq_k0 {p : Program} {l : Launch} {e : Env} {s : State} {m : MethodId} {below : List Frame} {meth : Method} {c : Code} {Q : State → Prop} {D : va_G} {ca : Nat → ClassId} {b L : Nat} {xs : Nat → Int32} {H : Heap} {locs : List Loc} {LS : Array Slot} {ad : Nat → Nat} {i z : Nat} {F : aq_F} {cc : aq_C} (C0 : lw_At p s m meth c b L xs) (hKK : am_KK D ca s) (hL : L ≤ 3072) (hi : i + 6 ≤ L) (K : ∀ (d : aq_C) (ad2 : Nat → Nat) (H2 : Heap) (locs2 : List Loc), lq_S d → lq_T D ca s b i z F d ad2 H2 locs2 LS → W p l e room_1 s m #[Value.ref b] below meth c H2 locs2 551 z Q (F0 m 1022 LS [])) (hj : lq_S cc) (hT : lq_T D ca s b i z F cc ad H locs LS) : W p l e room_1 s m #[Value.ref b] below meth c H locs 551 z Q (F0 m 136 LS []) := by
  obtain ⟨hw, hC, hM, hI, hJ, hz, hl⟩ := id hT
  refine lv_aload_n C0.1 C0.2.1 (lq_d rfl) rfl (lv_at hl 2 rfl) ?_
  refine lq_arg (k := 1) (pc2 := 142) C0 hL hi hT (by decide) rfl rfl rfl rfl rfl rfl ?_
  refine lq_arg (k := 2) (pc2 := 147) C0 hL hi hT (by decide) rfl rfl rfl rfl rfl rfl ?_
  refine lq_cx (as2 := [vI (xs (i + 1)).toInt, vI (xs (i + 2)).toInt]) (rest := []) C0 hKK hT rfl rfl rfl rfl (Nat.le_of_ble_eq_true rfl) (List.forall_mem_cons.mpr ⟨am_rI _, (List.forall_mem_cons.mpr ⟨am_rI _, (fun _ h => absurd h List.not_mem_nil)⟩)⟩) (fun _ h => absurd h List.not_mem_nil) (Nat.zero_le _) (ly_w (qf_X4_many hC hI)) ?_
  intro r1 cc1 ad H locs _ hr1 sm1 hT _ gr1
  obtain ⟨q1, f1⟩ := hr1
  obtain ⟨hw, hC, hM, hI, hJ, hz, hl⟩ := id hT
  obtain ⟨v1, rfl⟩ := q1
  refine lv_pop C0.1 C0.2.1 (lq_d rfl) rfl ?_
  show W p l e room_1 s m #[Value.ref b] below meth c H locs 551 z Q (F0 m 151 LS [])
  refine lv_aload_n C0.1 C0.2.1 (lq_d rfl) rfl (lv_at hl 1 rfl) ?_
  refine lq_arg (k := 1) (pc2 := 157) C0 hL hi hT (by decide) rfl rfl rfl rfl rfl rfl ?_
  refine lq_arg (k := 2) (pc2 := 162) C0 hL hi hT (by decide) rfl rfl rfl rfl rfl rfl ?_
  refine lq_cm (as2 := [vI (xs (i + 1)).toInt, vI (xs (i + 2)).toInt]) (rest := []) C0 hKK hT rfl rfl rfl rfl (Nat.le_of_ble_eq_true rfl) (List.forall_mem_cons.mpr ⟨am_rI _, (List.forall_mem_cons.mpr ⟨am_rI _, (fun _ h => absurd h List.not_mem_nil)⟩)⟩) (fun _ h => absurd h List.not_mem_nil) (Nat.zero_le _) (lz_w (qg_X5_many hM hJ)) ?_
  intro r2 cc2 ad H locs _ hr2 sm2 hT _ gr2
  obtain ⟨q2, f2⟩ := hr2
  obtain ⟨hw, hC, hM, hI, hJ, hz, hl⟩ := id hT
  have hs : lq_S cc2 := hj.k f1 f2
  obtain ⟨v2, rfl⟩ := q2
  refine lv_pop C0.1 C0.2.1 (lq_d rfl) rfl ?_
  show W p l e room_1 s m #[Value.ref b] below meth c H locs 551 z Q (F0 m 166 LS [])
  exact lv_goto (tgt := 1022) C0.1 C0.2.1 (lq_d rfl) (by decide) (K cc2 ad H locs hs hT)
theorem lq_k1 {p : Program} {l : Launch} {e : Env} {s : State} {m : MethodId} {below : List Frame} {meth : Method} {c : Code} {Q : State → Prop} {D : va_G} {ca : Nat → ClassId} {b L : Nat} {xs : Nat → Int32} {H : Heap} {locs : List Loc} {LS : Array Slot} {ad : Nat → Nat} {i z : Nat} {F : aq_F} {cc : aq_C} (C0 : lw_At p s m meth c b L xs) (hKK : am_KK D ca s) (hL : L ≤ 3072) (hi : i + 6 ≤ L) (K : ∀ (d : aq_C) (ad2 : Nat → Nat) (H2 : Heap) (locs2 : List Loc), lq_S d → lq_T D ca s b i z F d ad2 H2 locs2 LS → W p l e room_1 s m #[Value.ref b] below meth c H2 locs2 551 z Q (F0 m 1022 LS [])) (hj : lq_S cc) (hT : lq_T D ca s b i z F cc ad H locs LS) : W p l e room_1 s m #[Value.ref b] below meth c H locs 551 z Q (F0 m 169 LS []) := by
  obtain ⟨hw, hC, hM, hI, hJ, hz, hl⟩ := id hT
  refine lv_aload_n C0.1 C0.2.1 (lq_d rfl) rfl (lv_at hl 2 rfl) ?_
  refine lq_arg (k := 1) (pc2 := 175) C0 hL hi hT (by decide) rfl rfl rfl rfl rfl rfl ?_
  refine lq_arg (k := 2) (pc2 := 180) C0 hL hi hT (by decide) rfl rfl rfl rfl rfl rfl ?_
  refine lq_arg (k := 3) (pc2 := 185) C0 hL hi hT (by decide) rfl rfl rfl rfl rfl rfl ?_
  refine lq_cx (as2 := [vI (xs (i + 1)).toInt, vI (xs (i + 2)).toInt, vI (xs (i + 3)).toInt]) (rest := []) C0 hKK hT rfl rfl rfl rfl (Nat.le_of_ble_eq_true rfl) (List.forall_mem_cons.mpr ⟨am_rI _, (List.forall_mem_cons.mpr ⟨am_rI _, (List.forall_mem_cons.mpr ⟨am_rI _, (fun _ h => absurd h List.not_mem_nil)⟩)⟩)⟩) (fun _ h => absurd h List.not_mem_nil) (Nat.zero_le _) (ly_w (qf_X4_partner hC hI)) ?_
  intro r1 cc1 ad H locs _ hr1 sm1 hT _ gr1
  obtain ⟨q1, f1⟩ := hr1
  obtain ⟨hw, hC, hM, hI, hJ, hz, hl⟩ := id hT
  obtain ⟨v1, rfl⟩ := q1
  refine lv_pop C0.1 C0.2.1 (lq_d rfl) rfl ?_
  show W p l e room_1 s m #[Value.ref b] below meth c H locs 551 z Q (F0 m 189 LS [])
  refine lv_aload_n C0.1 C0.2.1 (lq_d rfl) rfl (lv_at hl 1 rfl) ?_
  refine lq_arg (k := 1) (pc2 := 195) C0 hL hi hT (by decide) rfl rfl rfl rfl rfl rfl ?_
  refine lq_arg (k := 2) (pc2 := 200) C0 hL hi hT (by decide) rfl rfl rfl rfl rfl rfl ?_
  refine lq_arg (k := 3) (pc2 := 205) C0 hL hi hT (by decide) rfl rfl rfl rfl rfl rfl ?_
  refine lq_cm (as2 := [vI (xs (i + 1)).toInt, vI (xs (i + 2)).toInt, vI (xs (i + 3)).toInt]) (rest := []) C0 hKK hT rfl rfl rfl rfl (Nat.le_of_ble_eq_true rfl) (List.forall_mem_cons.mpr ⟨am_rI _, (List.forall_mem_cons.mpr ⟨am_rI _, (List.forall_mem_cons.mpr ⟨am_rI _, (fun _ h => absurd h List.not_mem_nil)⟩)⟩)⟩) (fun _ h => absurd h List.not_mem_nil) (Nat.zero_le _) (lz_w (qg_X5_partner hM hJ)) ?_
  intro r2 cc2 ad H locs _ hr2 sm2 hT _ gr2
  obtain ⟨q2, f2⟩ := hr2
  obtain ⟨hw, hC, hM, hI, hJ, hz, hl⟩ := id hT
  have hs : lq_S cc2 := hj.k f1 f2
  obtain ⟨v2, rfl⟩ := q2
  refine lv_pop C0.1 C0.2.1 (lq_d rfl) rfl ?_
  show W p l e room_1 s m #[Value.ref b] below meth c H locs 551 z Q (F0 m 209 LS [])
  exact lv_goto (tgt := 1022) C0.1 C0.2.1 (lq_d rfl) (by decide) (K cc2 ad H locs hs hT)
theorem lq_k2 {p : Program} {l : Launch} {e : Env} {s : State} {m : MethodId} {below : List Frame} {meth : Method} {c : Code} {Q : State → Prop} {D : va_G} {ca : Nat → ClassId} {b L : Nat} {xs : Nat → Int32} {H : Heap} {locs : List Loc} {LS : Array Slot} {ad : Nat → Nat} {i z : Nat} {F : aq_F} {cc : aq_C} (C0 : lw_At p s m meth c b L xs) (hKK : am_KK D ca s) (hL : L ≤ 3072) (hi : i + 6 ≤ L) (K : ∀ (d : aq_C) (ad2 : Nat → Nat) (H2 : Heap) (locs2 : List Loc), lq_S d → lq_T D ca s b i z F d ad2 H2 locs2 LS → W p l e room_1 s m #[Value.ref b] below meth c H2 locs2 551 z Q (F0 m 1022 LS [])) (hj : lq_S cc) (hT : lq_T D ca s b i z F cc ad H locs LS) : W p l e room_1 s m #[Value.ref b] below meth c H locs 551 z Q (F0 m 212 LS []) := by
  obtain ⟨hw, hC, hM, hI, hJ, hz, hl⟩ := id hT
  refine lv_aload_n C0.1 C0.2.1 (lq_d rfl) rfl (lv_at hl 2 rfl) ?_
  refine lq_arg (k := 1) (pc2 := 218) C0 hL hi hT (by decide) rfl rfl rfl rfl rfl rfl ?_
  refine lq_arg (k := 2) (pc2 := 223) C0 hL hi hT (by decide) rfl rfl rfl rfl rfl rfl ?_
  refine lq_arg (k := 3) (pc2 := 228) C0 hL hi hT (by decide) rfl rfl rfl rfl rfl rfl ?_
  refine lq_cx (as2 := [vI (xs (i + 1)).toInt, vI (xs (i + 2)).toInt, vI (xs (i + 3)).toInt]) (rest := []) C0 hKK hT rfl rfl rfl rfl (Nat.le_of_ble_eq_true rfl) (List.forall_mem_cons.mpr ⟨am_rI _, (List.forall_mem_cons.mpr ⟨am_rI _, (List.forall_mem_cons.mpr ⟨am_rI _, (fun _ h => absurd h List.not_mem_nil)⟩)⟩)⟩) (fun _ h => absurd h List.not_mem_nil) (Nat.zero_le _) (ly_w (qf_X4_about hC hI)) ?_
  intro r1 cc1 ad H locs _ hr1 sm1 hT _ gr1
  obtain ⟨q1, f1⟩ := hr1
  obtain ⟨hw, hC, hM, hI, hJ, hz, hl⟩ := id hT
  obtain ⟨v1, rfl⟩ := q1
  refine lv_pop C0.1 C0.2.1 (lq_d rfl) rfl ?_
  show W p l e room_1 s m #[Value.ref b] below meth c H locs 551 z Q (F0 m 232 LS [])
  refine lv_aload_n C0.1 C0.2.1 (lq_d rfl) rfl (lv_at hl 1 rfl) ?_
  refine lq_arg (k := 1) (pc2 := 238) C0 hL hi hT (by decide) rfl rfl rfl rfl rfl rfl ?_
  refine lq_arg (k := 2) (pc2 := 243) C0 hL hi hT (by decide) rfl rfl rfl rfl rfl rfl ?_
  refine lq_arg (k := 3) (pc2 := 248) C0 hL hi hT (by decide) rfl rfl rfl rfl rfl rfl ?_
  refine lq_cm (as2 := [vI (xs (i + 1)).toInt, vI (xs (i + 2)).toInt, vI (xs (i + 3)).toInt]) (rest := []) C0 hKK hT rfl rfl rfl rfl (Nat.le_of_ble_eq_true rfl) (List.forall_mem_cons.mpr ⟨am_rI _, (List.forall_mem_cons.mpr ⟨am_rI _, (List.forall_mem_cons.mpr ⟨am_rI _, (fun _ h => absurd h List.not_mem_nil)⟩)⟩)⟩) (fun _ h => absurd h List.not_mem_nil) (Nat.zero_le _) (lz_w (qg_X5_about hM hJ)) ?_
  intro r2 cc2 ad H locs _ hr2 sm2 hT _ gr2
  obtain ⟨q2, f2⟩ := hr2
  obtain ⟨hw, hC, hM, hI, hJ, hz, hl⟩ := id hT
  have hs : lq_S cc2 := hj.k f1 f2
  obtain ⟨v2, rfl⟩ := q2
  refine lv_pop C0.1 C0.2.1 (lq_d rfl) rfl ?_
  show W p l e room_1 s m #[Value.ref b] below meth c H locs 551 z Q (F0 m 252 LS [])
  exact lv_goto (tgt := 1022) C0.1 C0.2.1 (lq_d rfl) (by decide) (K cc2 ad H locs hs hT)
theorem lq_k3 {p : Program} {l : Launch} {e : Env} {s : State} {m : MethodId} {below : List Frame} {meth : Method} {c : Code} {Q : State → Prop} {D : va_G} {ca : Nat → ClassId} {b L : Nat} {xs : Nat → Int32} {H : Heap} {locs : List Loc} {LS : Array Slot} {ad : Nat → Nat} {i z : Nat} {F : aq_F} {cc : aq_C} (C0 : lw_At p s m meth c b L xs) (hKK : am_KK D ca s) (hL : L ≤ 3072) (hi : i + 6 ≤ L) (K : ∀ (d : aq_C) (ad2 : Nat → Nat) (H2 : Heap) (locs2 : List Loc), lq_S d → lq_T D ca s b i z F d ad2 H2 locs2 LS → W p l e room_1 s m #[Value.ref b] below meth c H2 locs2 551 z Q (F0 m 1022 LS [])) (hj : lq_S cc) (hT : lq_T D ca s b i z F cc ad H locs LS) : W p l e room_1 s m #[Value.ref b] below meth c H locs 551 z Q (F0 m 255 LS []) := by
  obtain ⟨hw, hC, hM, hI, hJ, hz, hl⟩ := id hT
  refine lv_aload_n C0.1 C0.2.1 (lq_d rfl) rfl (lv_at hl 2 rfl) ?_
  refine lq_arg (k := 1) (pc2 := 261) C0 hL hi hT (by decide) rfl rfl rfl rfl rfl rfl ?_
  refine lq_arg (k := 2) (pc2 := 266) C0 hL hi hT (by decide) rfl rfl rfl rfl rfl rfl ?_
  refine lq_arg (k := 3) (pc2 := 271) C0 hL hi hT (by decide) rfl rfl rfl rfl rfl rfl ?_
  refine lq_cx (as2 := [vI (xs (i + 1)).toInt, vI (xs (i + 2)).toInt, vI (xs (i + 3)).toInt]) (rest := []) C0 hKK hT rfl rfl rfl rfl (Nat.le_of_ble_eq_true rfl) (List.forall_mem_cons.mpr ⟨am_rI _, (List.forall_mem_cons.mpr ⟨am_rI _, (List.forall_mem_cons.mpr ⟨am_rI _, (fun _ h => absurd h List.not_mem_nil)⟩)⟩)⟩) (fun _ h => absurd h List.not_mem_nil) (Nat.zero_le _) (ly_w (qf_X4_stack hC hI)) ?_
  intro r1 cc1 ad H locs _ hr1 sm1 hT _ gr1
  obtain ⟨q1, f1⟩ := hr1
  obtain ⟨hw, hC, hM, hI, hJ, hz, hl⟩ := id hT
  obtain ⟨v1, rfl⟩ := q1
  refine lv_pop C0.1 C0.2.1 (lq_d rfl) rfl ?_
  show W p l e room_1 s m #[Value.ref b] below meth c H locs 551 z Q (F0 m 275 LS [])
  refine lv_aload_n C0.1 C0.2.1 (lq_d rfl) rfl (lv_at hl 1 rfl) ?_
  refine lq_arg (k := 1) (pc2 := 281) C0 hL hi hT (by decide) rfl rfl rfl rfl rfl rfl ?_
  refine lq_arg (k := 2) (pc2 := 286) C0 hL hi hT (by decide) rfl rfl rfl rfl rfl rfl ?_
  refine lq_arg (k := 3) (pc2 := 291) C0 hL hi hT (by decide) rfl rfl rfl rfl rfl rfl ?_
  refine lq_cm (as2 := [vI (xs (i + 1)).toInt, vI (xs (i + 2)).toInt, vI (xs (i + 3)).toInt]) (rest := []) C0 hKK hT rfl rfl rfl rfl (Nat.le_of_ble_eq_true rfl) (List.forall_mem_cons.mpr ⟨am_rI _, (List.forall_mem_cons.mpr ⟨am_rI _, (List.forall_mem_cons.mpr ⟨am_rI _, (fun _ h => absurd h List.not_mem_nil)⟩)⟩)⟩) (fun _ h => absurd h List.not_mem_nil) (Nat.zero_le _) (lz_w (qg_X5_stack hM hJ)) ?_
  intro r2 cc2 ad H locs _ hr2 sm2 hT _ gr2
  obtain ⟨q2, f2⟩ := hr2
  obtain ⟨hw, hC, hM, hI, hJ, hz, hl⟩ := id hT
  have hs : lq_S cc2 := hj.k f1 f2
  obtain ⟨v2, rfl⟩ := q2
  refine lv_pop C0.1 C0.2.1 (lq_d rfl) rfl ?_
  show W p l e room_1 s m #[Value.ref b] below meth c H locs 551 z Q (F0 m 295 LS [])
  exact lv_goto (tgt := 1022) C0.1 C0.2.1 (lq_d rfl) (by decide) (K cc2 ad H locs hs hT)
theorem lq_k4 {p : Program} {l : Launch} {e : Env} {s : State} {m : MethodId} {below : List Frame} {meth : Method} {c : Code} {Q : State → Prop} {D : va_G} {ca : Nat → ClassId} {b L : Nat} {xs : Nat → Int32} {H : Heap} {locs : List Loc} {LS : Array Slot} {ad : Nat → Nat} {i z : Nat} {F : aq_F} {cc : aq_C} (C0 : lw_At p s m meth c b L xs) (hKK : am_KK D ca s) (hL : L ≤ 3072) (hi : i + 6 ≤ L) (K : ∀ (d : aq_C) (ad2 : Nat → Nat) (H2 : Heap) (locs2 : List Loc), lq_S d → lq_T D ca s b i z F d ad2 H2 locs2 LS → W p l e room_1 s m #[Value.ref b] below meth c H2 locs2 551 z Q (F0 m 1022 LS [])) (hj : lq_S cc) (hT : lq_T D ca s b i z F cc ad H locs LS) : W p l e room_1 s m #[Value.ref b] below meth c H locs 551 z Q (F0 m 298 LS []) := by
  obtain ⟨hw, hC, hM, hI, hJ, hz, hl⟩ := id hT
  refine lv_aload_n C0.1 C0.2.1 (lq_d rfl) rfl (lv_at hl 2 rfl) ?_
  refine lq_arg (k := 1) (pc2 := 304) C0 hL hi hT (by decide) rfl rfl rfl rfl rfl rfl ?_
  refine lq_lng (k := 2) (j := 3) (pc2 := 324) C0 hL hi hT (by decide) (by decide) rfl rfl rfl rfl rfl rfl rfl rfl rfl rfl rfl rfl rfl rfl rfl rfl rfl rfl (fun V1 eV1 => ?_)
  refine lq_cx (as2 := [vI (xs (i + 1)).toInt, vL V1.toInt]) (rest := []) C0 hKK hT rfl rfl rfl rfl (Nat.le_of_ble_eq_true rfl) (List.forall_mem_cons.mpr ⟨am_rI _, (List.forall_mem_cons.mpr ⟨am_rL _, (fun _ h => absurd h List.not_mem_nil)⟩)⟩) (fun _ h => absurd h List.not_mem_nil) (Nat.zero_le _) (ly_w (qf_X4_box hC hI)) ?_
  intro r1 cc1 ad H locs _ hr1 sm1 hT _ gr1
  obtain ⟨q1, f1⟩ := hr1
  obtain ⟨hw, hC, hM, hI, hJ, hz, hl⟩ := id hT
  obtain ⟨v1, rfl⟩ := q1
  refine lv_pop C0.1 C0.2.1 (lq_d rfl) rfl ?_
  show W p l e room_1 s m #[Value.ref b] below meth c H locs 551 z Q (F0 m 328 LS [])
  refine lv_aload_n C0.1 C0.2.1 (lq_d rfl) rfl (lv_at hl 1 rfl) ?_
  refine lq_arg (k := 1) (pc2 := 334) C0 hL hi hT (by decide) rfl rfl rfl rfl rfl rfl ?_
  refine lq_lng (k := 2) (j := 3) (pc2 := 354) C0 hL hi hT (by decide) (by decide) rfl rfl rfl rfl rfl rfl rfl rfl rfl rfl rfl rfl rfl rfl rfl rfl rfl rfl (fun V2 eV2 => ?_)
  rw [show V2 = V1 from eV2.trans eV1.symm]
  refine lq_cm (as2 := [vI (xs (i + 1)).toInt, vL V1.toInt]) (rest := []) C0 hKK hT rfl rfl rfl rfl (Nat.le_of_ble_eq_true rfl) (List.forall_mem_cons.mpr ⟨am_rI _, (List.forall_mem_cons.mpr ⟨am_rL _, (fun _ h => absurd h List.not_mem_nil)⟩)⟩) (fun _ h => absurd h List.not_mem_nil) (Nat.zero_le _) (lz_w (qg_X5_box hM hJ)) ?_
  intro r2 cc2 ad H locs _ hr2 sm2 hT _ gr2
  obtain ⟨q2, f2⟩ := hr2
  obtain ⟨hw, hC, hM, hI, hJ, hz, hl⟩ := id hT
  have hs : lq_S cc2 := hj.k f1 f2
  obtain ⟨v2, rfl⟩ := q2
  refine lv_pop C0.1 C0.2.1 (lq_d rfl) rfl ?_
  show W p l e room_1 s m #[Value.ref b] below meth c H locs 551 z Q (F0 m 358 LS [])
  exact lv_goto (tgt := 1022) C0.1 C0.2.1 (lq_d rfl) (by decide) (K cc2 ad H locs hs hT)
theorem lq_k5 {p : Program} {l : Launch} {e : Env} {s : State} {m : MethodId} {below : List Frame} {meth : Method} {c : Code} {Q : State → Prop} {D : va_G} {ca : Nat → ClassId} {b L : Nat} {xs : Nat → Int32} {H : Heap} {locs : List Loc} {LS : Array Slot} {ad : Nat → Nat} {i z : Nat} {F : aq_F} {cc : aq_C} (C0 : lw_At p s m meth c b L xs) (hKK : am_KK D ca s) (hL : L ≤ 3072) (hi : i + 6 ≤ L) (K : ∀ (d : aq_C) (ad2 : Nat → Nat) (H2 : Heap) (locs2 : List Loc), lq_S d → lq_T D ca s b i z F d ad2 H2 locs2 LS → W p l e room_1 s m #[Value.ref b] below meth c H2 locs2 551 z Q (F0 m 1022 LS [])) (hj : lq_S cc) (hT : lq_T D ca s b i z F cc ad H locs LS) : W p l e room_1 s m #[Value.ref b] below meth c H locs 551 z Q (F0 m 361 LS []) := by
  obtain ⟨hw, hC, hM, hI, hJ, hz, hl⟩ := id hT
  refine lv_aload_n C0.1 C0.2.1 (lq_d rfl) rfl (lv_at hl 2 rfl) ?_
  refine lq_arg (k := 1) (pc2 := 367) C0 hL hi hT (by decide) rfl rfl rfl rfl rfl rfl ?_
  refine lq_arg (k := 2) (pc2 := 372) C0 hL hi hT (by decide) rfl rfl rfl rfl rfl rfl ?_
  refine lq_cx (as2 := [vI (xs (i + 1)).toInt, vI (xs (i + 2)).toInt]) (rest := []) C0 hKK hT rfl rfl rfl rfl (Nat.le_of_ble_eq_true rfl) (List.forall_mem_cons.mpr ⟨am_rI _, (List.forall_mem_cons.mpr ⟨am_rI _, (fun _ h => absurd h List.not_mem_nil)⟩)⟩) (fun _ h => absurd h List.not_mem_nil) (Nat.zero_le _) (ly_w (qf_X4_plain hC hI)) ?_
  intro r1 cc1 ad H locs _ hr1 sm1 hT _ gr1
  obtain ⟨q1, f1⟩ := hr1
  obtain ⟨hw, hC, hM, hI, hJ, hz, hl⟩ := id hT
  obtain ⟨v1, rfl⟩ := q1
  refine lv_pop C0.1 C0.2.1 (lq_d rfl) rfl ?_
  show W p l e room_1 s m #[Value.ref b] below meth c H locs 551 z Q (F0 m 376 LS [])
  refine lv_aload_n C0.1 C0.2.1 (lq_d rfl) rfl (lv_at hl 1 rfl) ?_
  refine lq_arg (k := 1) (pc2 := 382) C0 hL hi hT (by decide) rfl rfl rfl rfl rfl rfl ?_
  refine lq_arg (k := 2) (pc2 := 387) C0 hL hi hT (by decide) rfl rfl rfl rfl rfl rfl ?_
  refine lq_cm (as2 := [vI (xs (i + 1)).toInt, vI (xs (i + 2)).toInt]) (rest := []) C0 hKK hT rfl rfl rfl rfl (Nat.le_of_ble_eq_true rfl) (List.forall_mem_cons.mpr ⟨am_rI _, (List.forall_mem_cons.mpr ⟨am_rI _, (fun _ h => absurd h List.not_mem_nil)⟩)⟩) (fun _ h => absurd h List.not_mem_nil) (Nat.zero_le _) (lz_w (qg_X5_plain hM hJ)) ?_
  intro r2 cc2 ad H locs _ hr2 sm2 hT _ gr2
  obtain ⟨q2, f2⟩ := hr2
  obtain ⟨hw, hC, hM, hI, hJ, hz, hl⟩ := id hT
  have hs : lq_S cc2 := hj.k f1 f2
  obtain ⟨v2, rfl⟩ := q2
  refine lv_pop C0.1 C0.2.1 (lq_d rfl) rfl ?_
  show W p l e room_1 s m #[Value.ref b] below meth c H locs 551 z Q (F0 m 391 LS [])
  exact lv_goto (tgt := 1022) C0.1 C0.2.1 (lq_d rfl) (by decide) (K cc2 ad H locs hs hT)
theorem lq_k6 {p : Program} {l : Launch} {e : Env} {s : State} {m : MethodId} {below : List Frame} {meth : Method} {c : Code} {Q : State → Prop} {D : va_G} {ca : Nat → ClassId} {b L : Nat} {xs : Nat → Int32} {H : Heap} {locs : List Loc} {LS : Array Slot} {ad : Nat → Nat} {i z : Nat} {F : aq_F} {cc : aq_C} (C0 : lw_At p s m meth c b L xs) (hKK : am_KK D ca s) (hL : L ≤ 3072) (hi : i + 6 ≤ L) (K : ∀ (d : aq_C) (ad2 : Nat → Nat) (H2 : Heap) (locs2 : List Loc), lq_S d → lq_T D ca s b i z F d ad2 H2 locs2 LS → W p l e room_1 s m #[Value.ref b] below meth c H2 locs2 551 z Q (F0 m 1022 LS [])) (hj : lq_S cc) (hT : lq_T D ca s b i z F cc ad H locs LS) : W p l e room_1 s m #[Value.ref b] below meth c H locs 551 z Q (F0 m 394 LS []) := by
  obtain ⟨hw, hC, hM, hI, hJ, hz, hl⟩ := id hT
  refine lv_aload_n C0.1 C0.2.1 (lq_d rfl) rfl (lv_at hl 2 rfl) ?_
  refine lq_arg (k := 1) (pc2 := 400) C0 hL hi hT (by decide) rfl rfl rfl rfl rfl rfl ?_
  refine lq_arg (k := 2) (pc2 := 405) C0 hL hi hT (by decide) rfl rfl rfl rfl rfl rfl ?_
  refine lq_arg (k := 3) (pc2 := 410) C0 hL hi hT (by decide) rfl rfl rfl rfl rfl rfl ?_
  refine lq_cx (as2 := [vI (xs (i + 1)).toInt, vI (xs (i + 2)).toInt, vI (xs (i + 3)).toInt]) (rest := []) C0 hKK hT rfl rfl rfl rfl (Nat.le_of_ble_eq_true rfl) (List.forall_mem_cons.mpr ⟨am_rI _, (List.forall_mem_cons.mpr ⟨am_rI _, (List.forall_mem_cons.mpr ⟨am_rI _, (fun _ h => absurd h List.not_mem_nil)⟩)⟩)⟩) (fun _ h => absurd h List.not_mem_nil) (Nat.zero_le _) (ly_w (qf_X4_word hC hI)) ?_
  intro r1 cc1 ad H locs _ hr1 sm1 hT _ gr1
  obtain ⟨q1, f1⟩ := hr1
  obtain ⟨hw, hC, hM, hI, hJ, hz, hl⟩ := id hT
  obtain ⟨v1, rfl⟩ := q1
  refine lv_pop C0.1 C0.2.1 (lq_d rfl) rfl ?_
  show W p l e room_1 s m #[Value.ref b] below meth c H locs 551 z Q (F0 m 414 LS [])
  refine lv_aload_n C0.1 C0.2.1 (lq_d rfl) rfl (lv_at hl 1 rfl) ?_
  refine lq_arg (k := 1) (pc2 := 420) C0 hL hi hT (by decide) rfl rfl rfl rfl rfl rfl ?_
  refine lq_arg (k := 2) (pc2 := 425) C0 hL hi hT (by decide) rfl rfl rfl rfl rfl rfl ?_
  refine lq_arg (k := 3) (pc2 := 430) C0 hL hi hT (by decide) rfl rfl rfl rfl rfl rfl ?_
  refine lq_cm (as2 := [vI (xs (i + 1)).toInt, vI (xs (i + 2)).toInt, vI (xs (i + 3)).toInt]) (rest := []) C0 hKK hT rfl rfl rfl rfl (Nat.le_of_ble_eq_true rfl) (List.forall_mem_cons.mpr ⟨am_rI _, (List.forall_mem_cons.mpr ⟨am_rI _, (List.forall_mem_cons.mpr ⟨am_rI _, (fun _ h => absurd h List.not_mem_nil)⟩)⟩)⟩) (fun _ h => absurd h List.not_mem_nil) (Nat.zero_le _) (lz_w (qg_X5_word hM hJ)) ?_
  intro r2 cc2 ad H locs _ hr2 sm2 hT _ gr2
  obtain ⟨q2, f2⟩ := hr2
  obtain ⟨hw, hC, hM, hI, hJ, hz, hl⟩ := id hT
  have hs : lq_S cc2 := hj.k f1 f2
  obtain ⟨v2, rfl⟩ := q2
  refine lv_pop C0.1 C0.2.1 (lq_d rfl) rfl ?_
  show W p l e room_1 s m #[Value.ref b] below meth c H locs 551 z Q (F0 m 434 LS [])
  exact lv_goto (tgt := 1022) C0.1 C0.2.1 (lq_d rfl) (by decide) (K cc2 ad H locs hs hT)
theorem lq_k7 {p : Program} {l : Launch} {e : Env} {s : State} {m : MethodId} {below : List Frame} {meth : Method} {c : Code} {Q : State → Prop} {D : va_G} {ca : Nat → ClassId} {b L : Nat} {xs : Nat → Int32} {H : Heap} {locs : List Loc} {LS : Array Slot} {ad : Nat → Nat} {i z : Nat} {F : aq_F} {cc : aq_C} (C0 : lw_At p s m meth c b L xs) (hKK : am_KK D ca s) (hL : L ≤ 3072) (hi : i + 6 ≤ L) (K : ∀ (d : aq_C) (ad2 : Nat → Nat) (H2 : Heap) (locs2 : List Loc), lq_S d → lq_T D ca s b i z F d ad2 H2 locs2 LS → W p l e room_1 s m #[Value.ref b] below meth c H2 locs2 551 z Q (F0 m 1022 LS [])) (hj : lq_S cc) (hT : lq_T D ca s b i z F cc ad H locs LS) : W p l e room_1 s m #[Value.ref b] below meth c H locs 551 z Q (F0 m 437 LS []) := by
  obtain ⟨hw, hC, hM, hI, hJ, hz, hl⟩ := id hT
  refine lv_aload_n C0.1 C0.2.1 (lq_d rfl) rfl (lv_at hl 2 rfl) ?_
  refine lq_arg (k := 1) (pc2 := 443) C0 hL hi hT (by decide) rfl rfl rfl rfl rfl rfl ?_
  refine lq_arg (k := 2) (pc2 := 448) C0 hL hi hT (by decide) rfl rfl rfl rfl rfl rfl ?_
  refine lq_cx (as2 := [vI (xs (i + 1)).toInt, vI (xs (i + 2)).toInt]) (rest := []) C0 hKK hT rfl rfl rfl rfl (Nat.le_of_ble_eq_true rfl) (List.forall_mem_cons.mpr ⟨am_rI _, (List.forall_mem_cons.mpr ⟨am_rI _, (fun _ h => absurd h List.not_mem_nil)⟩)⟩) (fun _ h => absurd h List.not_mem_nil) (Nat.zero_le _) (ly_r (qx_X4_clear hC hI rfl)) ?_
  intro r1 cc1 ad H locs _ hr1 sm1 hT _ gr1
  obtain ⟨q1, f1⟩ := hr1
  obtain ⟨hw, hC, hM, hI, hJ, hz, hl⟩ := id hT
  obtain ⟨A1, eA1⟩ : ∃ A1, r1 = some (vI A1) := ⟨_, q1⟩
  rw [eA1] at q1
  subst eA1
  have gA1 : am_vk 551 (vI A1) := gr1 _ rfl
  show W p l e room_1 s m #[Value.ref b] below meth c H locs 551 z Q (F0 m 451 LS [am_cv ad (vI A1)])
  refine lv_aload_n C0.1 C0.2.1 (lq_d rfl) rfl (lv_at hl 1 rfl) ?_
  refine lq_arg (k := 1) (pc2 := 457) C0 hL hi hT (by decide) rfl rfl rfl rfl rfl rfl ?_
  refine lq_arg (k := 2) (pc2 := 462) C0 hL hi hT (by decide) rfl rfl rfl rfl rfl rfl ?_
  refine lq_cm (as2 := [vI (xs (i + 1)).toInt, vI (xs (i + 2)).toInt]) (rest := [vI A1]) C0 hKK hT rfl rfl rfl rfl (Nat.le_of_ble_eq_true rfl) (List.forall_mem_cons.mpr ⟨am_rI _, (List.forall_mem_cons.mpr ⟨am_rI _, (fun _ h => absurd h List.not_mem_nil)⟩)⟩) (List.forall_mem_cons.mpr ⟨gA1, (fun _ h => absurd h List.not_mem_nil)⟩) (Nat.le_of_ble_eq_true rfl) (lz_r (qx_X5_clear hM hJ)) ?_
  intro r2 cc2 ad H locs _ hr2 sm2 hT _ gr2
  obtain ⟨q2, f2⟩ := hr2
  obtain ⟨hw, hC, hM, hI, hJ, hz, hl⟩ := id hT
  have hs := hj.clear sm1 sm2 f1 f2
  have e2 : r2 = some (vI A1) := by rw [q2, q1, hs.2]
  subst e2
  show W p l e room_1 s m #[Value.ref b] below meth c H locs 551 z Q (F0 m 465 LS [.int (Int32.ofInt A1), .int (Int32.ofInt A1)])
  exact lv_icmp_eq (tgt := 1022) C0.1 C0.2.1 (lq_d rfl) (by decide) (fun _ => K cc2 ad H locs hs.1 hT) (fun q => absurd rfl q)
theorem lq_k8 {p : Program} {l : Launch} {e : Env} {s : State} {m : MethodId} {below : List Frame} {meth : Method} {c : Code} {Q : State → Prop} {D : va_G} {ca : Nat → ClassId} {b L : Nat} {xs : Nat → Int32} {H : Heap} {locs : List Loc} {LS : Array Slot} {ad : Nat → Nat} {i z : Nat} {F : aq_F} {cc : aq_C} (C0 : lw_At p s m meth c b L xs) (hKK : am_KK D ca s) (hL : L ≤ 3072) (hi : i + 6 ≤ L) (K : ∀ (d : aq_C) (ad2 : Nat → Nat) (H2 : Heap) (locs2 : List Loc), lq_S d → lq_T D ca s b i z F d ad2 H2 locs2 LS → W p l e room_1 s m #[Value.ref b] below meth c H2 locs2 551 z Q (F0 m 1022 LS [])) (hj : lq_S cc) (hT : lq_T D ca s b i z F cc ad H locs LS) : W p l e room_1 s m #[Value.ref b] below meth c H locs 551 z Q (F0 m 470 LS []) := by
  obtain ⟨hw, hC, hM, hI, hJ, hz, hl⟩ := id hT
  refine lv_aload_n C0.1 C0.2.1 (lq_d rfl) rfl (lv_at hl 2 rfl) ?_
  refine lq_arg (k := 1) (pc2 := 476) C0 hL hi hT (by decide) rfl rfl rfl rfl rfl rfl ?_
  refine lq_arg (k := 2) (pc2 := 481) C0 hL hi hT (by decide) rfl rfl rfl rfl rfl rfl ?_
  refine lq_arg (k := 3) (pc2 := 486) C0 hL hi hT (by decide) rfl rfl rfl rfl rfl rfl ?_
  refine lq_lng (k := 4) (j := 5) (pc2 := 506) C0 hL hi hT (by decide) (by decide) rfl rfl rfl rfl rfl rfl rfl rfl rfl rfl rfl rfl rfl rfl rfl rfl rfl rfl (fun V1 eV1 => ?_)
  refine lq_cx (as2 := [vI (xs (i + 1)).toInt, vI (xs (i + 2)).toInt, vI (xs (i + 3)).toInt, vL V1.toInt]) (rest := []) C0 hKK hT rfl rfl rfl rfl (Nat.le_of_ble_eq_true rfl) (List.forall_mem_cons.mpr ⟨am_rI _, (List.forall_mem_cons.mpr ⟨am_rI _, (List.forall_mem_cons.mpr ⟨am_rI _, (List.forall_mem_cons.mpr ⟨am_rL _, (fun _ h => absurd h List.not_mem_nil)⟩)⟩)⟩)⟩) (fun _ h => absurd h List.not_mem_nil) (Nat.zero_le _) (ly_r (qx_X4_add hC hI rfl (fun a b => hj.wx _ a b))) ?_
  intro r1 cc1 ad H locs _ hr1 sm1 hT _ gr1
  obtain ⟨q1, f1⟩ := hr1
  obtain ⟨hw, hC, hM, hI, hJ, hz, hl⟩ := id hT
  subst q1
  refine lv_pop C0.1 C0.2.1 (lq_d rfl) rfl ?_
  show W p l e room_1 s m #[Value.ref b] below meth c H locs 551 z Q (F0 m 510 LS [])
  refine lv_aload_n C0.1 C0.2.1 (lq_d rfl) rfl (lv_at hl 1 rfl) ?_
  refine lq_arg (k := 1) (pc2 := 516) C0 hL hi hT (by decide) rfl rfl rfl rfl rfl rfl ?_
  refine lq_arg (k := 2) (pc2 := 521) C0 hL hi hT (by decide) rfl rfl rfl rfl rfl rfl ?_
  refine lq_arg (k := 3) (pc2 := 526) C0 hL hi hT (by decide) rfl rfl rfl rfl rfl rfl ?_
  refine lq_lng (k := 4) (j := 5) (pc2 := 546) C0 hL hi hT (by decide) (by decide) rfl rfl rfl rfl rfl rfl rfl rfl rfl rfl rfl rfl rfl rfl rfl rfl rfl rfl (fun V2 eV2 => ?_)
  rw [show V2 = V1 from eV2.trans eV1.symm]
  refine lq_cm (as2 := [vI (xs (i + 1)).toInt, vI (xs (i + 2)).toInt, vI (xs (i + 3)).toInt, vL V1.toInt]) (rest := []) C0 hKK hT rfl rfl rfl rfl (Nat.le_of_ble_eq_true rfl) (List.forall_mem_cons.mpr ⟨am_rI _, (List.forall_mem_cons.mpr ⟨am_rI _, (List.forall_mem_cons.mpr ⟨am_rI _, (List.forall_mem_cons.mpr ⟨am_rL _, (fun _ h => absurd h List.not_mem_nil)⟩)⟩)⟩)⟩) (fun _ h => absurd h List.not_mem_nil) (Nat.zero_le _) (lz_r (qx_X5_add hM hJ (fun a b => hj.wm1 sm1 _ a b))) ?_
  intro r2 cc2 ad H locs _ hr2 sm2 hT _ gr2
  obtain ⟨q2, f2⟩ := hr2
  obtain ⟨hw, hC, hM, hI, hJ, hz, hl⟩ := id hT
  have hs := hj.add sm1 sm2 f1 f2
  subst q2
  refine lv_pop C0.1 C0.2.1 (lq_d rfl) rfl ?_
  show W p l e room_1 s m #[Value.ref b] below meth c H locs 551 z Q (F0 m 550 LS [])
  exact lv_goto (tgt := 1022) C0.1 C0.2.1 (lq_d rfl) (by decide) (K cc2 ad H locs hs.1 hT)
theorem lq_k9 {p : Program} {l : Launch} {e : Env} {s : State} {m : MethodId} {below : List Frame} {meth : Method} {c : Code} {Q : State → Prop} {D : va_G} {ca : Nat → ClassId} {b L : Nat} {xs : Nat → Int32} {H : Heap} {locs : List Loc} {LS : Array Slot} {ad : Nat → Nat} {i z : Nat} {F : aq_F} {cc : aq_C} (C0 : lw_At p s m meth c b L xs) (hKK : am_KK D ca s) (hL : L ≤ 3072) (hi : i + 6 ≤ L) (K : ∀ (d : aq_C) (ad2 : Nat → Nat) (H2 : Heap) (locs2 : List Loc), lq_S d → lq_T D ca s b i z F d ad2 H2 locs2 LS → W p l e room_1 s m #[Value.ref b] below meth c H2 locs2 551 z Q (F0 m 1022 LS [])) (hj : lq_S cc) (hT : lq_T D ca s b i z F cc ad H locs LS) : W p l e room_1 s m #[Value.ref b] below meth c H locs 551 z Q (F0 m 553 LS []) := by
  obtain ⟨hw, hC, hM, hI, hJ, hz, hl⟩ := id hT
  have hI0 := hI
  refine lv_aload_n C0.1 C0.2.1 (lq_d rfl) rfl (lv_at hl 2 rfl) ?_
  refine lq_arg (k := 1) (pc2 := 559) C0 hL hi hT (by decide) rfl rfl rfl rfl rfl rfl ?_
  refine lq_arg (k := 2) (pc2 := 564) C0 hL hi hT (by decide) rfl rfl rfl rfl rfl rfl ?_
  refine lq_arg (k := 3) (pc2 := 569) C0 hL hi hT (by decide) rfl rfl rfl rfl rfl rfl ?_
  refine lq_arg (k := 4) (pc2 := 574) C0 hL hi hT (by decide) rfl rfl rfl rfl rfl rfl ?_
  refine lq_cx (as2 := [vI (xs (i + 1)).toInt, vI (xs (i + 2)).toInt, vI (xs (i + 3)).toInt, vI (xs (i + 4)).toInt]) (rest := []) C0 hKK hT rfl rfl rfl rfl (Nat.le_of_ble_eq_true rfl) (List.forall_mem_cons.mpr ⟨am_rI _, (List.forall_mem_cons.mpr ⟨am_rI _, (List.forall_mem_cons.mpr ⟨am_rI _, (List.forall_mem_cons.mpr ⟨am_rI _, (fun _ h => absurd h List.not_mem_nil)⟩)⟩)⟩)⟩) (fun _ h => absurd h List.not_mem_nil) (Nat.zero_le _) (ly_r (qx_X4_work hC hI rfl rfl rfl hj.wx)) ?_
  intro r1 cc1 ad H locs _ hr1 sm1 hT _ gr1
  obtain ⟨q1, f1⟩ := hr1
  obtain ⟨hw, hC, hM, hI, hJ, hz, hl⟩ := id hT
  subst q1
  refine lv_pop C0.1 C0.2.1 (lq_d rfl) rfl ?_
  show W p l e room_1 s m #[Value.ref b] below meth c H locs 551 z Q (F0 m 578 LS [])
  refine lv_aload_n C0.1 C0.2.1 (lq_d rfl) rfl (lv_at hl 1 rfl) ?_
  refine lq_arg (k := 1) (pc2 := 584) C0 hL hi hT (by decide) rfl rfl rfl rfl rfl rfl ?_
  refine lq_arg (k := 2) (pc2 := 589) C0 hL hi hT (by decide) rfl rfl rfl rfl rfl rfl ?_
  refine lq_arg (k := 3) (pc2 := 594) C0 hL hi hT (by decide) rfl rfl rfl rfl rfl rfl ?_
  refine lq_arg (k := 4) (pc2 := 599) C0 hL hi hT (by decide) rfl rfl rfl rfl rfl rfl ?_
  refine lq_cm (as2 := [vI (xs (i + 1)).toInt, vI (xs (i + 2)).toInt, vI (xs (i + 3)).toInt, vI (xs (i + 4)).toInt]) (rest := []) C0 hKK hT rfl rfl rfl rfl (Nat.le_of_ble_eq_true rfl) (List.forall_mem_cons.mpr ⟨am_rI _, (List.forall_mem_cons.mpr ⟨am_rI _, (List.forall_mem_cons.mpr ⟨am_rI _, (List.forall_mem_cons.mpr ⟨am_rI _, (fun _ h => absurd h List.not_mem_nil)⟩)⟩)⟩)⟩) (fun _ h => absurd h List.not_mem_nil) (Nat.zero_le _) (lz_r (qx_X5_work hM hJ (hj.wm1 sm1))) ?_
  intro r2 cc2 ad H locs _ hr2 sm2 hT _ gr2
  obtain ⟨q2, f2⟩ := hr2
  obtain ⟨hw, hC, hM, hI, hJ, hz, hl⟩ := id hT
  have hs := hj.work sm1 sm2 (fun x x0 x1 => by have k := hI0.2.2 x.toNat (by omega); exact ⟨k.1, k.2.1⟩) f1 f2
  subst q2
  refine lv_pop C0.1 C0.2.1 (lq_d rfl) rfl ?_
  show W p l e room_1 s m #[Value.ref b] below meth c H locs 551 z Q (F0 m 603 LS [])
  exact lv_goto (tgt := 1022) C0.1 C0.2.1 (lq_d rfl) (by decide) (K cc2 ad H locs hs.1 hT)
theorem lq_k10 {p : Program} {l : Launch} {e : Env} {s : State} {m : MethodId} {below : List Frame} {meth : Method} {c : Code} {Q : State → Prop} {D : va_G} {ca : Nat → ClassId} {b L : Nat} {xs : Nat → Int32} {H : Heap} {locs : List Loc} {LS : Array Slot} {ad : Nat → Nat} {i z : Nat} {F : aq_F} {cc : aq_C} (C0 : lw_At p s m meth c b L xs) (hKK : am_KK D ca s) (hL : L ≤ 3072) (hi : i + 6 ≤ L) (K : ∀ (d : aq_C) (ad2 : Nat → Nat) (H2 : Heap) (locs2 : List Loc), lq_S d → lq_T D ca s b i z F d ad2 H2 locs2 LS → W p l e room_1 s m #[Value.ref b] below meth c H2 locs2 551 z Q (F0 m 1022 LS [])) (hj : lq_S cc) (hT : lq_T D ca s b i z F cc ad H locs LS) : W p l e room_1 s m #[Value.ref b] below meth c H locs 551 z Q (F0 m 606 LS []) := by
  obtain ⟨hw, hC, hM, hI, hJ, hz, hl⟩ := id hT
  refine lv_aload_n C0.1 C0.2.1 (lq_d rfl) rfl (lv_at hl 2 rfl) ?_
  refine lq_arg (k := 1) (pc2 := 612) C0 hL hi hT (by decide) rfl rfl rfl rfl rfl rfl ?_
  refine lq_arg (k := 2) (pc2 := 617) C0 hL hi hT (by decide) rfl rfl rfl rfl rfl rfl ?_
  refine lq_cx (as2 := [vI (xs (i + 1)).toInt, vI (xs (i + 2)).toInt]) (rest := []) C0 hKK hT rfl rfl rfl rfl (Nat.le_of_ble_eq_true rfl) (List.forall_mem_cons.mpr ⟨am_rI _, (List.forall_mem_cons.mpr ⟨am_rI _, (fun _ h => absurd h List.not_mem_nil)⟩)⟩) (fun _ h => absurd h List.not_mem_nil) (Nat.zero_le _) (ly_e (qx_X4_sum hC hI rfl)) ?_
  intro r1 cc1 ad H locs _ hr1 sm1 hT _ gr1
  obtain ⟨q1, f1⟩ := hr1
  obtain ⟨hw, hC, hM, hI, hJ, hz, hl⟩ := id hT
  subst q1
  refine lv_pop C0.1 C0.2.1 (lq_d rfl) rfl ?_
  show W p l e room_1 s m #[Value.ref b] below meth c H locs 551 z Q (F0 m 621 LS [])
  refine lv_aload_n C0.1 C0.2.1 (lq_d rfl) rfl (lv_at hl 1 rfl) ?_
  refine lq_arg (k := 1) (pc2 := 627) C0 hL hi hT (by decide) rfl rfl rfl rfl rfl rfl ?_
  refine lq_arg (k := 2) (pc2 := 632) C0 hL hi hT (by decide) rfl rfl rfl rfl rfl rfl ?_
  refine lq_cm (as2 := [vI (xs (i + 1)).toInt, vI (xs (i + 2)).toInt]) (rest := []) C0 hKK hT rfl rfl rfl rfl (Nat.le_of_ble_eq_true rfl) (List.forall_mem_cons.mpr ⟨am_rI _, (List.forall_mem_cons.mpr ⟨am_rI _, (fun _ h => absurd h List.not_mem_nil)⟩)⟩) (fun _ h => absurd h List.not_mem_nil) (Nat.zero_le _) (lz_e (qx_X5_sum hM hJ)) ?_
  intro r2 cc2 ad H locs _ hr2 sm2 hT _ gr2
  obtain ⟨q2, f2⟩ := hr2
  obtain ⟨hw, hC, hM, hI, hJ, hz, hl⟩ := id hT
  have hs : lq_S cc2 := hj.k f1 f2
  subst q2
  refine lv_pop C0.1 C0.2.1 (lq_d rfl) rfl ?_
  show W p l e room_1 s m #[Value.ref b] below meth c H locs 551 z Q (F0 m 636 LS [])
  exact lv_goto (tgt := 1022) C0.1 C0.2.1 (lq_d rfl) (by decide) (K cc2 ad H locs hs hT)
theorem lq_k11 {p : Program} {l : Launch} {e : Env} {s : State} {m : MethodId} {below : List Frame} {meth : Method} {c : Code} {Q : State → Prop} {D : va_G} {ca : Nat → ClassId} {b L : Nat} {xs : Nat → Int32} {H : Heap} {locs : List Loc} {LS : Array Slot} {ad : Nat → Nat} {i z : Nat} {F : aq_F} {cc : aq_C} (C0 : lw_At p s m meth c b L xs) (hKK : am_KK D ca s) (hL : L ≤ 3072) (hi : i + 6 ≤ L) (K : ∀ (d : aq_C) (ad2 : Nat → Nat) (H2 : Heap) (locs2 : List Loc), lq_S d → lq_T D ca s b i z F d ad2 H2 locs2 LS → W p l e room_1 s m #[Value.ref b] below meth c H2 locs2 551 z Q (F0 m 1022 LS [])) (hj : lq_S cc) (hT : lq_T D ca s b i z F cc ad H locs LS) : W p l e room_1 s m #[Value.ref b] below meth c H locs 551 z Q (F0 m 639 LS []) := by
  obtain ⟨hw, hC, hM, hI, hJ, hz, hl⟩ := id hT
  refine lv_aload_n C0.1 C0.2.1 (lq_d rfl) rfl (lv_at hl 2 rfl) ?_
  refine lq_arg (k := 1) (pc2 := 645) C0 hL hi hT (by decide) rfl rfl rfl rfl rfl rfl ?_
  refine lq_arg (k := 2) (pc2 := 650) C0 hL hi hT (by decide) rfl rfl rfl rfl rfl rfl ?_
  refine lq_arg (k := 3) (pc2 := 655) C0 hL hi hT (by decide) rfl rfl rfl rfl rfl rfl ?_
  refine lq_cx (as2 := [vI (xs (i + 1)).toInt, vI (xs (i + 2)).toInt, vI (xs (i + 3)).toInt]) (rest := []) C0 hKK hT rfl rfl rfl rfl (Nat.le_of_ble_eq_true rfl) (List.forall_mem_cons.mpr ⟨am_rI _, (List.forall_mem_cons.mpr ⟨am_rI _, (List.forall_mem_cons.mpr ⟨am_rI _, (fun _ h => absurd h List.not_mem_nil)⟩)⟩)⟩) (fun _ h => absurd h List.not_mem_nil) (Nat.zero_le _) (ly_e (qx_X4_term hC hI rfl)) ?_
  intro r1 cc1 ad H locs _ hr1 sm1 hT _ gr1
  obtain ⟨q1, f1⟩ := hr1
  obtain ⟨hw, hC, hM, hI, hJ, hz, hl⟩ := id hT
  subst q1
  refine lv_pop2_2 C0.1 C0.2.1 (lq_d rfl) rfl ?_
  show W p l e room_1 s m #[Value.ref b] below meth c H locs 551 z Q (F0 m 659 LS [])
  refine lv_aload_n C0.1 C0.2.1 (lq_d rfl) rfl (lv_at hl 1 rfl) ?_
  refine lq_arg (k := 1) (pc2 := 665) C0 hL hi hT (by decide) rfl rfl rfl rfl rfl rfl ?_
  refine lq_arg (k := 2) (pc2 := 670) C0 hL hi hT (by decide) rfl rfl rfl rfl rfl rfl ?_
  refine lq_arg (k := 3) (pc2 := 675) C0 hL hi hT (by decide) rfl rfl rfl rfl rfl rfl ?_
  refine lq_cm (as2 := [vI (xs (i + 1)).toInt, vI (xs (i + 2)).toInt, vI (xs (i + 3)).toInt]) (rest := []) C0 hKK hT rfl rfl rfl rfl (Nat.le_of_ble_eq_true rfl) (List.forall_mem_cons.mpr ⟨am_rI _, (List.forall_mem_cons.mpr ⟨am_rI _, (List.forall_mem_cons.mpr ⟨am_rI _, (fun _ h => absurd h List.not_mem_nil)⟩)⟩)⟩) (fun _ h => absurd h List.not_mem_nil) (Nat.zero_le _) (lz_e (qx_X5_term hM hJ)) ?_
  intro r2 cc2 ad H locs _ hr2 sm2 hT _ gr2
  obtain ⟨q2, f2⟩ := hr2
  obtain ⟨hw, hC, hM, hI, hJ, hz, hl⟩ := id hT
  have hs : lq_S cc2 := hj.k f1 f2
  subst q2
  refine lv_pop2_2 C0.1 C0.2.1 (lq_d rfl) rfl ?_
  show W p l e room_1 s m #[Value.ref b] below meth c H locs 551 z Q (F0 m 679 LS [])
  exact lv_goto (tgt := 1022) C0.1 C0.2.1 (lq_d rfl) (by decide) (K cc2 ad H locs hs hT)
theorem lq_k12 {p : Program} {l : Launch} {e : Env} {s : State} {m : MethodId} {below : List Frame} {meth : Method} {c : Code} {Q : State → Prop} {D : va_G} {ca : Nat → ClassId} {b L : Nat} {xs : Nat → Int32} {H : Heap} {locs : List Loc} {LS : Array Slot} {ad : Nat → Nat} {i z : Nat} {F : aq_F} {cc : aq_C} (C0 : lw_At p s m meth c b L xs) (hKK : am_KK D ca s) (hL : L ≤ 3072) (hi : i + 6 ≤ L) (K : ∀ (d : aq_C) (ad2 : Nat → Nat) (H2 : Heap) (locs2 : List Loc), lq_S d → lq_T D ca s b i z F d ad2 H2 locs2 LS → W p l e room_1 s m #[Value.ref b] below meth c H2 locs2 551 z Q (F0 m 1022 LS [])) (hj : lq_S cc) (hT : lq_T D ca s b i z F cc ad H locs LS) : W p l e room_1 s m #[Value.ref b] below meth c H locs 551 z Q (F0 m 682 LS []) := by
  obtain ⟨hw, hC, hM, hI, hJ, hz, hl⟩ := id hT
  refine lv_aload_n C0.1 C0.2.1 (lq_d rfl) rfl (lv_at hl 2 rfl) ?_
  refine lq_arg (k := 1) (pc2 := 688) C0 hL hi hT (by decide) rfl rfl rfl rfl rfl rfl ?_
  refine lq_arg (k := 2) (pc2 := 693) C0 hL hi hT (by decide) rfl rfl rfl rfl rfl rfl ?_
  refine lq_cx (as2 := [vI (xs (i + 1)).toInt, vI (xs (i + 2)).toInt]) (rest := []) C0 hKK hT rfl rfl rfl rfl (Nat.le_of_ble_eq_true rfl) (List.forall_mem_cons.mpr ⟨am_rI _, (List.forall_mem_cons.mpr ⟨am_rI _, (fun _ h => absurd h List.not_mem_nil)⟩)⟩) (fun _ h => absurd h List.not_mem_nil) (Nat.zero_le _) (ly_e (qx_X4_same hC hI rfl rfl)) ?_
  intro r1 cc1 ad H locs _ hr1 sm1 hT _ gr1
  obtain ⟨q1, f1⟩ := hr1
  obtain ⟨hw, hC, hM, hI, hJ, hz, hl⟩ := id hT
  subst q1
  refine lv_pop C0.1 C0.2.1 (lq_d rfl) rfl ?_
  show W p l e room_1 s m #[Value.ref b] below meth c H locs 551 z Q (F0 m 697 LS [])
  refine lv_aload_n C0.1 C0.2.1 (lq_d rfl) rfl (lv_at hl 1 rfl) ?_
  refine lq_arg (k := 1) (pc2 := 703) C0 hL hi hT (by decide) rfl rfl rfl rfl rfl rfl ?_
  refine lq_arg (k := 2) (pc2 := 708) C0 hL hi hT (by decide) rfl rfl rfl rfl rfl rfl ?_
  refine lq_cm (as2 := [vI (xs (i + 1)).toInt, vI (xs (i + 2)).toInt]) (rest := []) C0 hKK hT rfl rfl rfl rfl (Nat.le_of_ble_eq_true rfl) (List.forall_mem_cons.mpr ⟨am_rI _, (List.forall_mem_cons.mpr ⟨am_rI _, (fun _ h => absurd h List.not_mem_nil)⟩)⟩) (fun _ h => absurd h List.not_mem_nil) (Nat.zero_le _) (lz_e (qx_X5_same hM hJ)) ?_
  intro r2 cc2 ad H locs _ hr2 sm2 hT _ gr2
  obtain ⟨q2, f2⟩ := hr2
  obtain ⟨hw, hC, hM, hI, hJ, hz, hl⟩ := id hT
  have hs : lq_S cc2 := hj.k f1 f2
  subst q2
  refine lv_pop C0.1 C0.2.1 (lq_d rfl) rfl ?_
  show W p l e room_1 s m #[Value.ref b] below meth c H locs 551 z Q (F0 m 712 LS [])
  exact lv_goto (tgt := 1022) C0.1 C0.2.1 (lq_d rfl) (by decide) (K cc2 ad H locs hs hT)
theorem lq_k13 {p : Program} {l : Launch} {e : Env} {s : State} {m : MethodId} {below : List Frame} {meth : Method} {c : Code} {Q : State → Prop} {D : va_G} {ca : Nat → ClassId} {b L : Nat} {xs : Nat → Int32} {H : Heap} {locs : List Loc} {LS : Array Slot} {ad : Nat → Nat} {i z : Nat} {F : aq_F} {cc : aq_C} (C0 : lw_At p s m meth c b L xs) (hKK : am_KK D ca s) (hL : L ≤ 3072) (hi : i + 6 ≤ L) (K : ∀ (d : aq_C) (ad2 : Nat → Nat) (H2 : Heap) (locs2 : List Loc), lq_S d → lq_T D ca s b i z F d ad2 H2 locs2 LS → W p l e room_1 s m #[Value.ref b] below meth c H2 locs2 551 z Q (F0 m 1022 LS [])) (hj : lq_S cc) (hT : lq_T D ca s b i z F cc ad H locs LS) : W p l e room_1 s m #[Value.ref b] below meth c H locs 551 z Q (F0 m 715 LS []) := by
  obtain ⟨hw, hC, hM, hI, hJ, hz, hl⟩ := id hT
  refine lv_aload_n C0.1 C0.2.1 (lq_d rfl) rfl (lv_at hl 2 rfl) ?_
  refine lq_arg (k := 1) (pc2 := 721) C0 hL hi hT (by decide) rfl rfl rfl rfl rfl rfl ?_
  refine lq_arg (k := 2) (pc2 := 726) C0 hL hi hT (by decide) rfl rfl rfl rfl rfl rfl ?_
  refine lq_cx (as2 := [vI (xs (i + 1)).toInt, vI (xs (i + 2)).toInt]) (rest := []) C0 hKK hT rfl rfl rfl rfl (Nat.le_of_ble_eq_true rfl) (List.forall_mem_cons.mpr ⟨am_rI _, (List.forall_mem_cons.mpr ⟨am_rI _, (fun _ h => absurd h List.not_mem_nil)⟩)⟩) (fun _ h => absurd h List.not_mem_nil) (Nat.zero_le _) (ly_e (qx_X4_closed hC hI rfl hj.wx)) ?_
  intro r1 cc1 ad H locs _ hr1 sm1 hT _ gr1
  obtain ⟨q1, f1⟩ := hr1
  obtain ⟨hw, hC, hM, hI, hJ, hz, hl⟩ := id hT
  subst q1
  refine lv_pop2_2 C0.1 C0.2.1 (lq_d rfl) rfl ?_
  show W p l e room_1 s m #[Value.ref b] below meth c H locs 551 z Q (F0 m 730 LS [])
  refine lv_aload_n C0.1 C0.2.1 (lq_d rfl) rfl (lv_at hl 1 rfl) ?_
  refine lq_arg (k := 1) (pc2 := 736) C0 hL hi hT (by decide) rfl rfl rfl rfl rfl rfl ?_
  refine lq_arg (k := 2) (pc2 := 741) C0 hL hi hT (by decide) rfl rfl rfl rfl rfl rfl ?_
  refine lq_cm (as2 := [vI (xs (i + 1)).toInt, vI (xs (i + 2)).toInt]) (rest := []) C0 hKK hT rfl rfl rfl rfl (Nat.le_of_ble_eq_true rfl) (List.forall_mem_cons.mpr ⟨am_rI _, (List.forall_mem_cons.mpr ⟨am_rI _, (fun _ h => absurd h List.not_mem_nil)⟩)⟩) (fun _ h => absurd h List.not_mem_nil) (Nat.zero_le _) (lz_c (qx_X5_closed hM hJ (hj.wm1 sm1))) ?_
  intro r2 cc2 ad H locs _ hr2 sm2 hT _ gr2
  obtain ⟨q2, f2⟩ := hr2
  obtain ⟨hw, hC, hM, hI, hJ, hz, hl⟩ := id hT
  have hs : lq_S cc2 := hj.k f1 f2
  subst q2
  refine lv_pop2_2 C0.1 C0.2.1 (lq_d rfl) rfl ?_
  show W p l e room_1 s m #[Value.ref b] below meth c H locs 551 z Q (F0 m 745 LS [])
  exact lv_goto (tgt := 1022) C0.1 C0.2.1 (lq_d rfl) (by decide) (K cc2 ad H locs hs hT)
theorem lq_k14 {p : Program} {l : Launch} {e : Env} {s : State} {m : MethodId} {below : List Frame} {meth : Method} {c : Code} {Q : State → Prop} {D : va_G} {ca : Nat → ClassId} {b L : Nat} {xs : Nat → Int32} {H : Heap} {locs : List Loc} {LS : Array Slot} {ad : Nat → Nat} {i z : Nat} {F : aq_F} {cc : aq_C} (C0 : lw_At p s m meth c b L xs) (hKK : am_KK D ca s) (hL : L ≤ 3072) (hi : i + 6 ≤ L) (K : ∀ (d : aq_C) (ad2 : Nat → Nat) (H2 : Heap) (locs2 : List Loc), lq_S d → lq_T D ca s b i z F d ad2 H2 locs2 LS → W p l e room_1 s m #[Value.ref b] below meth c H2 locs2 551 z Q (F0 m 1022 LS [])) (hj : lq_S cc) (hT : lq_T D ca s b i z F cc ad H locs LS) : W p l e room_1 s m #[Value.ref b] below meth c H locs 551 z Q (F0 m 748 LS []) := by
  obtain ⟨hw, hC, hM, hI, hJ, hz, hl⟩ := id hT
  refine lv_aload_n C0.1 C0.2.1 (lq_d rfl) rfl (lv_at hl 2 rfl) ?_
  refine lq_arg (k := 1) (pc2 := 754) C0 hL hi hT (by decide) rfl rfl rfl rfl rfl rfl ?_
  refine lq_arg (k := 2) (pc2 := 759) C0 hL hi hT (by decide) rfl rfl rfl rfl rfl rfl ?_
  refine lq_cx (as2 := [vI (xs (i + 1)).toInt, vI (xs (i + 2)).toInt]) (rest := []) C0 hKK hT rfl rfl rfl rfl (Nat.le_of_ble_eq_true rfl) (List.forall_mem_cons.mpr ⟨am_rI _, (List.forall_mem_cons.mpr ⟨am_rI _, (fun _ h => absurd h List.not_mem_nil)⟩)⟩) (fun _ h => absurd h List.not_mem_nil) (Nat.zero_le _) (ly_w (qf_X4_halves hC hI)) ?_
  intro r1 cc1 ad H locs _ hr1 sm1 hT _ gr1
  obtain ⟨q1, f1⟩ := hr1
  obtain ⟨hw, hC, hM, hI, hJ, hz, hl⟩ := id hT
  obtain ⟨v1, rfl⟩ := q1
  refine lv_pop C0.1 C0.2.1 (lq_d rfl) rfl ?_
  show W p l e room_1 s m #[Value.ref b] below meth c H locs 551 z Q (F0 m 763 LS [])
  refine lv_aload_n C0.1 C0.2.1 (lq_d rfl) rfl (lv_at hl 1 rfl) ?_
  refine lq_arg (k := 1) (pc2 := 769) C0 hL hi hT (by decide) rfl rfl rfl rfl rfl rfl ?_
  refine lq_arg (k := 2) (pc2 := 774) C0 hL hi hT (by decide) rfl rfl rfl rfl rfl rfl ?_
  refine lq_cm (as2 := [vI (xs (i + 1)).toInt, vI (xs (i + 2)).toInt]) (rest := []) C0 hKK hT rfl rfl rfl rfl (Nat.le_of_ble_eq_true rfl) (List.forall_mem_cons.mpr ⟨am_rI _, (List.forall_mem_cons.mpr ⟨am_rI _, (fun _ h => absurd h List.not_mem_nil)⟩)⟩) (fun _ h => absurd h List.not_mem_nil) (Nat.zero_le _) (lz_w (qg_X5_halves hM hJ)) ?_
  intro r2 cc2 ad H locs _ hr2 sm2 hT _ gr2
  obtain ⟨q2, f2⟩ := hr2
  obtain ⟨hw, hC, hM, hI, hJ, hz, hl⟩ := id hT
  have hs : lq_S cc2 := hj.k f1 f2
  obtain ⟨v2, rfl⟩ := q2
  refine lv_pop C0.1 C0.2.1 (lq_d rfl) rfl ?_
  show W p l e room_1 s m #[Value.ref b] below meth c H locs 551 z Q (F0 m 778 LS [])
  exact lv_goto (tgt := 1022) C0.1 C0.2.1 (lq_d rfl) (by decide) (K cc2 ad H locs hs hT)
theorem lq_k15 {p : Program} {l : Launch} {e : Env} {s : State} {m : MethodId} {below : List Frame} {meth : Method} {c : Code} {Q : State → Prop} {D : va_G} {ca : Nat → ClassId} {b L : Nat} {xs : Nat → Int32} {H : Heap} {locs : List Loc} {LS : Array Slot} {ad : Nat → Nat} {i z : Nat} {F : aq_F} {cc : aq_C} (C0 : lw_At p s m meth c b L xs) (hKK : am_KK D ca s) (hL : L ≤ 3072) (hi : i + 6 ≤ L) (K : ∀ (d : aq_C) (ad2 : Nat → Nat) (H2 : Heap) (locs2 : List Loc), lq_S d → lq_T D ca s b i z F d ad2 H2 locs2 LS → W p l e room_1 s m #[Value.ref b] below meth c H2 locs2 551 z Q (F0 m 1022 LS [])) (hj : lq_S cc) (hT : lq_T D ca s b i z F cc ad H locs LS) : W p l e room_1 s m #[Value.ref b] below meth c H locs 551 z Q (F0 m 781 LS []) := by
  obtain ⟨hw, hC, hM, hI, hJ, hz, hl⟩ := id hT
  refine lv_aload_n C0.1 C0.2.1 (lq_d rfl) rfl (lv_at hl 2 rfl) ?_
  refine lq_arg (k := 1) (pc2 := 787) C0 hL hi hT (by decide) rfl rfl rfl rfl rfl rfl ?_
  refine lq_arg (k := 2) (pc2 := 792) C0 hL hi hT (by decide) rfl rfl rfl rfl rfl rfl ?_
  refine lq_arg (k := 3) (pc2 := 797) C0 hL hi hT (by decide) rfl rfl rfl rfl rfl rfl ?_
  refine lq_arg (k := 4) (pc2 := 802) C0 hL hi hT (by decide) rfl rfl rfl rfl rfl rfl ?_
  refine lq_cx (as2 := [vI (xs (i + 1)).toInt, vI (xs (i + 2)).toInt, vI (xs (i + 3)).toInt, vI (xs (i + 4)).toInt]) (rest := []) C0 hKK hT rfl rfl rfl rfl (Nat.le_of_ble_eq_true rfl) (List.forall_mem_cons.mpr ⟨am_rI _, (List.forall_mem_cons.mpr ⟨am_rI _, (List.forall_mem_cons.mpr ⟨am_rI _, (List.forall_mem_cons.mpr ⟨am_rI _, (fun _ h => absurd h List.not_mem_nil)⟩)⟩)⟩)⟩) (fun _ h => absurd h List.not_mem_nil) (Nat.zero_le _) (ly_w (qf_X4_half hC hI)) ?_
  intro r1 cc1 ad H locs _ hr1 sm1 hT _ gr1
  obtain ⟨q1, f1⟩ := hr1
  obtain ⟨hw, hC, hM, hI, hJ, hz, hl⟩ := id hT
  obtain ⟨v1, rfl⟩ := q1
  refine lv_pop C0.1 C0.2.1 (lq_d rfl) rfl ?_
  show W p l e room_1 s m #[Value.ref b] below meth c H locs 551 z Q (F0 m 806 LS [])
  refine lv_aload_n C0.1 C0.2.1 (lq_d rfl) rfl (lv_at hl 1 rfl) ?_
  refine lq_arg (k := 1) (pc2 := 812) C0 hL hi hT (by decide) rfl rfl rfl rfl rfl rfl ?_
  refine lq_arg (k := 2) (pc2 := 817) C0 hL hi hT (by decide) rfl rfl rfl rfl rfl rfl ?_
  refine lq_arg (k := 3) (pc2 := 822) C0 hL hi hT (by decide) rfl rfl rfl rfl rfl rfl ?_
  refine lq_arg (k := 4) (pc2 := 827) C0 hL hi hT (by decide) rfl rfl rfl rfl rfl rfl ?_
  refine lq_cm (as2 := [vI (xs (i + 1)).toInt, vI (xs (i + 2)).toInt, vI (xs (i + 3)).toInt, vI (xs (i + 4)).toInt]) (rest := []) C0 hKK hT rfl rfl rfl rfl (Nat.le_of_ble_eq_true rfl) (List.forall_mem_cons.mpr ⟨am_rI _, (List.forall_mem_cons.mpr ⟨am_rI _, (List.forall_mem_cons.mpr ⟨am_rI _, (List.forall_mem_cons.mpr ⟨am_rI _, (fun _ h => absurd h List.not_mem_nil)⟩)⟩)⟩)⟩) (fun _ h => absurd h List.not_mem_nil) (Nat.zero_le _) (lz_w (qg_X5_half hM hJ)) ?_
  intro r2 cc2 ad H locs _ hr2 sm2 hT _ gr2
  obtain ⟨q2, f2⟩ := hr2
  obtain ⟨hw, hC, hM, hI, hJ, hz, hl⟩ := id hT
  have hs : lq_S cc2 := hj.k f1 f2
  obtain ⟨v2, rfl⟩ := q2
  refine lv_pop C0.1 C0.2.1 (lq_d rfl) rfl ?_
  show W p l e room_1 s m #[Value.ref b] below meth c H locs 551 z Q (F0 m 831 LS [])
  exact lv_goto (tgt := 1022) C0.1 C0.2.1 (lq_d rfl) (by decide) (K cc2 ad H locs hs hT)
theorem lq_k16 {p : Program} {l : Launch} {e : Env} {s : State} {m : MethodId} {below : List Frame} {meth : Method} {c : Code} {Q : State → Prop} {D : va_G} {ca : Nat → ClassId} {b L : Nat} {xs : Nat → Int32} {H : Heap} {locs : List Loc} {LS : Array Slot} {ad : Nat → Nat} {i z : Nat} {F : aq_F} {cc : aq_C} (C0 : lw_At p s m meth c b L xs) (hKK : am_KK D ca s) (hL : L ≤ 3072) (hi : i + 6 ≤ L) (K : ∀ (d : aq_C) (ad2 : Nat → Nat) (H2 : Heap) (locs2 : List Loc), lq_S d → lq_T D ca s b i z F d ad2 H2 locs2 LS → W p l e room_1 s m #[Value.ref b] below meth c H2 locs2 551 z Q (F0 m 1022 LS [])) (hj : lq_S cc) (hT : lq_T D ca s b i z F cc ad H locs LS) : W p l e room_1 s m #[Value.ref b] below meth c H locs 551 z Q (F0 m 834 LS []) := by
  obtain ⟨hw, hC, hM, hI, hJ, hz, hl⟩ := id hT
  refine lv_aload_n C0.1 C0.2.1 (lq_d rfl) rfl (lv_at hl 2 rfl) ?_
  refine lq_arg (k := 1) (pc2 := 840) C0 hL hi hT (by decide) rfl rfl rfl rfl rfl rfl ?_
  refine lq_arg (k := 2) (pc2 := 845) C0 hL hi hT (by decide) rfl rfl rfl rfl rfl rfl ?_
  refine lq_arg (k := 3) (pc2 := 850) C0 hL hi hT (by decide) rfl rfl rfl rfl rfl rfl ?_
  refine lq_arg (k := 4) (pc2 := 855) C0 hL hi hT (by decide) rfl rfl rfl rfl rfl rfl ?_
  refine lq_cx (as2 := [vI (xs (i + 1)).toInt, vI (xs (i + 2)).toInt, vI (xs (i + 3)).toInt, vI (xs (i + 4)).toInt]) (rest := []) C0 hKK hT rfl rfl rfl rfl (Nat.le_of_ble_eq_true rfl) (List.forall_mem_cons.mpr ⟨am_rI _, (List.forall_mem_cons.mpr ⟨am_rI _, (List.forall_mem_cons.mpr ⟨am_rI _, (List.forall_mem_cons.mpr ⟨am_rI _, (fun _ h => absurd h List.not_mem_nil)⟩)⟩)⟩)⟩) (fun _ h => absurd h List.not_mem_nil) (Nat.zero_le _) (ly_w (qf_X4_form hC hI)) ?_
  intro r1 cc1 ad H locs _ hr1 sm1 hT _ gr1
  obtain ⟨q1, f1⟩ := hr1
  obtain ⟨hw, hC, hM, hI, hJ, hz, hl⟩ := id hT
  obtain ⟨v1, rfl⟩ := q1
  refine lv_pop C0.1 C0.2.1 (lq_d rfl) rfl ?_
  show W p l e room_1 s m #[Value.ref b] below meth c H locs 551 z Q (F0 m 859 LS [])
  refine lv_aload_n C0.1 C0.2.1 (lq_d rfl) rfl (lv_at hl 1 rfl) ?_
  refine lq_arg (k := 1) (pc2 := 865) C0 hL hi hT (by decide) rfl rfl rfl rfl rfl rfl ?_
  refine lq_arg (k := 2) (pc2 := 870) C0 hL hi hT (by decide) rfl rfl rfl rfl rfl rfl ?_
  refine lq_arg (k := 3) (pc2 := 875) C0 hL hi hT (by decide) rfl rfl rfl rfl rfl rfl ?_
  refine lq_arg (k := 4) (pc2 := 880) C0 hL hi hT (by decide) rfl rfl rfl rfl rfl rfl ?_
  refine lq_cm (as2 := [vI (xs (i + 1)).toInt, vI (xs (i + 2)).toInt, vI (xs (i + 3)).toInt, vI (xs (i + 4)).toInt]) (rest := []) C0 hKK hT rfl rfl rfl rfl (Nat.le_of_ble_eq_true rfl) (List.forall_mem_cons.mpr ⟨am_rI _, (List.forall_mem_cons.mpr ⟨am_rI _, (List.forall_mem_cons.mpr ⟨am_rI _, (List.forall_mem_cons.mpr ⟨am_rI _, (fun _ h => absurd h List.not_mem_nil)⟩)⟩)⟩)⟩) (fun _ h => absurd h List.not_mem_nil) (Nat.zero_le _) (lz_w (qg_X5_form hM hJ)) ?_
  intro r2 cc2 ad H locs _ hr2 sm2 hT _ gr2
  obtain ⟨q2, f2⟩ := hr2
  obtain ⟨hw, hC, hM, hI, hJ, hz, hl⟩ := id hT
  have hs : lq_S cc2 := hj.k f1 f2
  obtain ⟨v2, rfl⟩ := q2
  refine lv_pop C0.1 C0.2.1 (lq_d rfl) rfl ?_
  show W p l e room_1 s m #[Value.ref b] below meth c H locs 551 z Q (F0 m 884 LS [])
  exact lv_goto (tgt := 1022) C0.1 C0.2.1 (lq_d rfl) (by decide) (K cc2 ad H locs hs hT)
theorem lq_k17 {p : Program} {l : Launch} {e : Env} {s : State} {m : MethodId} {below : List Frame} {meth : Method} {c : Code} {Q : State → Prop} {D : va_G} {ca : Nat → ClassId} {b L : Nat} {xs : Nat → Int32} {H : Heap} {locs : List Loc} {LS : Array Slot} {ad : Nat → Nat} {i z : Nat} {F : aq_F} {cc : aq_C} (C0 : lw_At p s m meth c b L xs) (hKK : am_KK D ca s) (hL : L ≤ 3072) (hi : i + 6 ≤ L) (K : ∀ (d : aq_C) (ad2 : Nat → Nat) (H2 : Heap) (locs2 : List Loc), lq_S d → lq_T D ca s b i z F d ad2 H2 locs2 LS → W p l e room_1 s m #[Value.ref b] below meth c H2 locs2 551 z Q (F0 m 1022 LS [])) (hj : lq_S cc) (hT : lq_T D ca s b i z F cc ad H locs LS) : W p l e room_1 s m #[Value.ref b] below meth c H locs 551 z Q (F0 m 887 LS []) := by
  obtain ⟨hw, hC, hM, hI, hJ, hz, hl⟩ := id hT
  refine lv_aload_n C0.1 C0.2.1 (lq_d rfl) rfl (lv_at hl 2 rfl) ?_
  refine lq_arg (k := 1) (pc2 := 893) C0 hL hi hT (by decide) rfl rfl rfl rfl rfl rfl ?_
  refine lq_arg (k := 2) (pc2 := 898) C0 hL hi hT (by decide) rfl rfl rfl rfl rfl rfl ?_
  refine lq_arg (k := 3) (pc2 := 903) C0 hL hi hT (by decide) rfl rfl rfl rfl rfl rfl ?_
  refine lq_arg (k := 4) (pc2 := 908) C0 hL hi hT (by decide) rfl rfl rfl rfl rfl rfl ?_
  refine lq_cx (as2 := [vI (xs (i + 1)).toInt, vI (xs (i + 2)).toInt, vI (xs (i + 3)).toInt, vI (xs (i + 4)).toInt]) (rest := []) C0 hKK hT rfl rfl rfl rfl (Nat.le_of_ble_eq_true rfl) (List.forall_mem_cons.mpr ⟨am_rI _, (List.forall_mem_cons.mpr ⟨am_rI _, (List.forall_mem_cons.mpr ⟨am_rI _, (List.forall_mem_cons.mpr ⟨am_rI _, (fun _ h => absurd h List.not_mem_nil)⟩)⟩)⟩)⟩) (fun _ h => absurd h List.not_mem_nil) (Nat.zero_le _) (ly_w (qf_X4_free hC hI)) ?_
  intro r1 cc1 ad H locs _ hr1 sm1 hT _ gr1
  obtain ⟨q1, f1⟩ := hr1
  obtain ⟨hw, hC, hM, hI, hJ, hz, hl⟩ := id hT
  obtain ⟨v1, rfl⟩ := q1
  refine lv_pop C0.1 C0.2.1 (lq_d rfl) rfl ?_
  show W p l e room_1 s m #[Value.ref b] below meth c H locs 551 z Q (F0 m 912 LS [])
  refine lv_aload_n C0.1 C0.2.1 (lq_d rfl) rfl (lv_at hl 1 rfl) ?_
  refine lq_arg (k := 1) (pc2 := 918) C0 hL hi hT (by decide) rfl rfl rfl rfl rfl rfl ?_
  refine lq_arg (k := 2) (pc2 := 923) C0 hL hi hT (by decide) rfl rfl rfl rfl rfl rfl ?_
  refine lq_arg (k := 3) (pc2 := 928) C0 hL hi hT (by decide) rfl rfl rfl rfl rfl rfl ?_
  refine lq_arg (k := 4) (pc2 := 933) C0 hL hi hT (by decide) rfl rfl rfl rfl rfl rfl ?_
  refine lq_cm (as2 := [vI (xs (i + 1)).toInt, vI (xs (i + 2)).toInt, vI (xs (i + 3)).toInt, vI (xs (i + 4)).toInt]) (rest := []) C0 hKK hT rfl rfl rfl rfl (Nat.le_of_ble_eq_true rfl) (List.forall_mem_cons.mpr ⟨am_rI _, (List.forall_mem_cons.mpr ⟨am_rI _, (List.forall_mem_cons.mpr ⟨am_rI _, (List.forall_mem_cons.mpr ⟨am_rI _, (fun _ h => absurd h List.not_mem_nil)⟩)⟩)⟩)⟩) (fun _ h => absurd h List.not_mem_nil) (Nat.zero_le _) (lz_w (qg_X5_free hM hJ)) ?_
  intro r2 cc2 ad H locs _ hr2 sm2 hT _ gr2
  obtain ⟨q2, f2⟩ := hr2
  obtain ⟨hw, hC, hM, hI, hJ, hz, hl⟩ := id hT
  have hs : lq_S cc2 := hj.k f1 f2
  obtain ⟨v2, rfl⟩ := q2
  refine lv_pop C0.1 C0.2.1 (lq_d rfl) rfl ?_
  show W p l e room_1 s m #[Value.ref b] below meth c H locs 551 z Q (F0 m 937 LS [])
  exact lv_goto (tgt := 1022) C0.1 C0.2.1 (lq_d rfl) (by decide) (K cc2 ad H locs hs hT)
theorem lq_k18 {p : Program} {l : Launch} {e : Env} {s : State} {m : MethodId} {below : List Frame} {meth : Method} {c : Code} {Q : State → Prop} {D : va_G} {ca : Nat → ClassId} {b L : Nat} {xs : Nat → Int32} {H : Heap} {locs : List Loc} {LS : Array Slot} {ad : Nat → Nat} {i z : Nat} {F : aq_F} {cc : aq_C} (C0 : lw_At p s m meth c b L xs) (hKK : am_KK D ca s) (hL : L ≤ 3072) (hi : i + 6 ≤ L) (K : ∀ (d : aq_C) (ad2 : Nat → Nat) (H2 : Heap) (locs2 : List Loc), lq_S d → lq_T D ca s b i z F d ad2 H2 locs2 LS → W p l e room_1 s m #[Value.ref b] below meth c H2 locs2 551 z Q (F0 m 1022 LS [])) (hj : lq_S cc) (hT : lq_T D ca s b i z F cc ad H locs LS) : W p l e room_1 s m #[Value.ref b] below meth c H locs 551 z Q (F0 m 940 LS []) := by
  obtain ⟨hw, hC, hM, hI, hJ, hz, hl⟩ := id hT
  refine lv_aload_n C0.1 C0.2.1 (lq_d rfl) rfl (lv_at hl 2 rfl) ?_
  refine lq_arg (k := 1) (pc2 := 946) C0 hL hi hT (by decide) rfl rfl rfl rfl rfl rfl ?_
  refine lq_cx (as2 := [vI (xs (i + 1)).toInt]) (rest := []) C0 hKK hT rfl rfl rfl rfl (Nat.le_of_ble_eq_true rfl) (List.forall_mem_cons.mpr ⟨am_rI _, (fun _ h => absurd h List.not_mem_nil)⟩) (fun _ h => absurd h List.not_mem_nil) (Nat.zero_le _) (ly_w (ly_row hC hI)) ?_
  intro r1 cc1 ad H locs _ hr1 sm1 hT _ gr1
  obtain ⟨q1, f1⟩ := hr1
  obtain ⟨hw, hC, hM, hI, hJ, hz, hl⟩ := id hT
  obtain ⟨v1, rfl⟩ := q1
  refine lv_pop C0.1 C0.2.1 (lq_d rfl) rfl ?_
  show W p l e room_1 s m #[Value.ref b] below meth c H locs 551 z Q (F0 m 950 LS [])
  refine lv_aload_n C0.1 C0.2.1 (lq_d rfl) rfl (lv_at hl 1 rfl) ?_
  refine lq_arg (k := 1) (pc2 := 956) C0 hL hi hT (by decide) rfl rfl rfl rfl rfl rfl ?_
  refine lq_cm (as2 := [vI (xs (i + 1)).toInt]) (rest := []) C0 hKK hT rfl rfl rfl rfl (Nat.le_of_ble_eq_true rfl) (List.forall_mem_cons.mpr ⟨am_rI _, (fun _ h => absurd h List.not_mem_nil)⟩) (fun _ h => absurd h List.not_mem_nil) (Nat.zero_le _) (lz_w (lz_row hM hJ)) ?_
  intro r2 cc2 ad H locs _ hr2 sm2 hT _ gr2
  obtain ⟨q2, f2⟩ := hr2
  obtain ⟨hw, hC, hM, hI, hJ, hz, hl⟩ := id hT
  have hs : lq_S cc2 := hj.k f1 f2
  obtain ⟨v2, rfl⟩ := q2
  refine lv_pop C0.1 C0.2.1 (lq_d rfl) rfl ?_
  show W p l e room_1 s m #[Value.ref b] below meth c H locs 551 z Q (F0 m 960 LS [])
  exact lv_goto (tgt := 1022) C0.1 C0.2.1 (lq_d rfl) (by decide) (K cc2 ad H locs hs hT)
theorem lq_k19 {p : Program} {l : Launch} {e : Env} {s : State} {m : MethodId} {below : List Frame} {meth : Method} {c : Code} {Q : State → Prop} {D : va_G} {ca : Nat → ClassId} {b L : Nat} {xs : Nat → Int32} {H : Heap} {locs : List Loc} {LS : Array Slot} {ad : Nat → Nat} {i z : Nat} {F : aq_F} {cc : aq_C} (C0 : lw_At p s m meth c b L xs) (hKK : am_KK D ca s) (hL : L ≤ 3072) (hi : i + 6 ≤ L) (K : ∀ (d : aq_C) (ad2 : Nat → Nat) (H2 : Heap) (locs2 : List Loc), lq_S d → lq_T D ca s b i z F d ad2 H2 locs2 LS → W p l e room_1 s m #[Value.ref b] below meth c H2 locs2 551 z Q (F0 m 1022 LS [])) (hj : lq_S cc) (hT : lq_T D ca s b i z F cc ad H locs LS) : W p l e room_1 s m #[Value.ref b] below meth c H locs 551 z Q (F0 m 963 LS []) := by
  obtain ⟨hw, hC, hM, hI, hJ, hz, hl⟩ := id hT
  refine lv_aload_n C0.1 C0.2.1 (lq_d rfl) rfl (lv_at hl 2 rfl) ?_
  refine lq_arg (k := 1) (pc2 := 969) C0 hL hi hT (by decide) rfl rfl rfl rfl rfl rfl ?_
  refine lq_cx (as2 := [vI (xs (i + 1)).toInt]) (rest := []) C0 hKK hT rfl rfl rfl rfl (Nat.le_of_ble_eq_true rfl) (List.forall_mem_cons.mpr ⟨am_rI _, (fun _ h => absurd h List.not_mem_nil)⟩) (fun _ h => absurd h List.not_mem_nil) (Nat.zero_le _) (ly_w (ly_cross hC hI)) ?_
  intro r1 cc1 ad H locs _ hr1 sm1 hT _ gr1
  obtain ⟨q1, f1⟩ := hr1
  obtain ⟨hw, hC, hM, hI, hJ, hz, hl⟩ := id hT
  obtain ⟨v1, rfl⟩ := q1
  refine lv_pop C0.1 C0.2.1 (lq_d rfl) rfl ?_
  show W p l e room_1 s m #[Value.ref b] below meth c H locs 551 z Q (F0 m 973 LS [])
  refine lv_aload_n C0.1 C0.2.1 (lq_d rfl) rfl (lv_at hl 1 rfl) ?_
  refine lq_arg (k := 1) (pc2 := 979) C0 hL hi hT (by decide) rfl rfl rfl rfl rfl rfl ?_
  refine lq_cm (as2 := [vI (xs (i + 1)).toInt]) (rest := []) C0 hKK hT rfl rfl rfl rfl (Nat.le_of_ble_eq_true rfl) (List.forall_mem_cons.mpr ⟨am_rI _, (fun _ h => absurd h List.not_mem_nil)⟩) (fun _ h => absurd h List.not_mem_nil) (Nat.zero_le _) (lz_w (lz_cross hM hJ (am_rI _))) ?_
  intro r2 cc2 ad H locs _ hr2 sm2 hT _ gr2
  obtain ⟨q2, f2⟩ := hr2
  obtain ⟨hw, hC, hM, hI, hJ, hz, hl⟩ := id hT
  have hs : lq_S cc2 := hj.k f1 f2
  obtain ⟨v2, rfl⟩ := q2
  refine lv_pop C0.1 C0.2.1 (lq_d rfl) rfl ?_
  show W p l e room_1 s m #[Value.ref b] below meth c H locs 551 z Q (F0 m 983 LS [])
  exact lv_goto (tgt := 1022) C0.1 C0.2.1 (lq_d rfl) (by decide) (K cc2 ad H locs hs hT)
theorem lq_k20 {p : Program} {l : Launch} {e : Env} {s : State} {m : MethodId} {below : List Frame} {meth : Method} {c : Code} {Q : State → Prop} {D : va_G} {ca : Nat → ClassId} {b L : Nat} {xs : Nat → Int32} {H : Heap} {locs : List Loc} {LS : Array Slot} {ad : Nat → Nat} {i z : Nat} {F : aq_F} {cc : aq_C} (C0 : lw_At p s m meth c b L xs) (hKK : am_KK D ca s) (hL : L ≤ 3072) (hi : i + 6 ≤ L) (K : ∀ (d : aq_C) (ad2 : Nat → Nat) (H2 : Heap) (locs2 : List Loc), lq_S d → lq_T D ca s b i z F d ad2 H2 locs2 LS → W p l e room_1 s m #[Value.ref b] below meth c H2 locs2 551 z Q (F0 m 1022 LS [])) (hj : lq_S cc) (hT : lq_T D ca s b i z F cc ad H locs LS) : W p l e room_1 s m #[Value.ref b] below meth c H locs 551 z Q (F0 m 986 LS []) := by
  obtain ⟨hw, hC, hM, hI, hJ, hz, hl⟩ := id hT
  refine lv_aload_n C0.1 C0.2.1 (lq_d rfl) rfl (lv_at hl 2 rfl) ?_
  refine lq_cx (as2 := []) (rest := []) C0 hKK hT rfl rfl rfl rfl (Nat.le_of_ble_eq_true rfl) (fun _ h => absurd h List.not_mem_nil) (fun _ h => absurd h List.not_mem_nil) (Nat.zero_le _) (ly_w (ly_back hC hI)) ?_
  intro r1 cc1 ad H locs _ hr1 sm1 hT _ gr1
  obtain ⟨q1, f1⟩ := hr1
  obtain ⟨hw, hC, hM, hI, hJ, hz, hl⟩ := id hT
  obtain ⟨v1, rfl⟩ := q1
  refine lv_pop C0.1 C0.2.1 (lq_d rfl) rfl ?_
  show W p l e room_1 s m #[Value.ref b] below meth c H locs 551 z Q (F0 m 991 LS [])
  refine lv_aload_n C0.1 C0.2.1 (lq_d rfl) rfl (lv_at hl 1 rfl) ?_
  refine lq_cm (as2 := []) (rest := []) C0 hKK hT rfl rfl rfl rfl (Nat.le_of_ble_eq_true rfl) (fun _ h => absurd h List.not_mem_nil) (fun _ h => absurd h List.not_mem_nil) (Nat.zero_le _) (lz_w (lz_back hM hJ)) ?_
  intro r2 cc2 ad H locs _ hr2 sm2 hT _ gr2
  obtain ⟨q2, f2⟩ := hr2
  obtain ⟨hw, hC, hM, hI, hJ, hz, hl⟩ := id hT
  have hs : lq_S cc2 := hj.k f1 f2
  obtain ⟨v2, rfl⟩ := q2
  refine lv_pop C0.1 C0.2.1 (lq_d rfl) rfl ?_
  show W p l e room_1 s m #[Value.ref b] below meth c H locs 551 z Q (F0 m 996 LS [])
  exact lv_goto (tgt := 1022) C0.1 C0.2.1 (lq_d rfl) (by decide) (K cc2 ad H locs hs hT)
theorem lq_k21 {p : Program} {l : Launch} {e : Env} {s : State} {m : MethodId} {below : List Frame} {meth : Method} {c : Code} {Q : State → Prop} {D : va_G} {ca : Nat → ClassId} {b L : Nat} {xs : Nat → Int32} {H : Heap} {locs : List Loc} {LS : Array Slot} {ad : Nat → Nat} {i z : Nat} {F : aq_F} {cc : aq_C} (C0 : lw_At p s m meth c b L xs) (hKK : am_KK D ca s) (hL : L ≤ 3072) (hi : i + 6 ≤ L) (K : ∀ (d : aq_C) (ad2 : Nat → Nat) (H2 : Heap) (locs2 : List Loc), lq_S d → lq_T D ca s b i z F d ad2 H2 locs2 LS → W p l e room_1 s m #[Value.ref b] below meth c H2 locs2 551 z Q (F0 m 1022 LS [])) (hj : lq_S cc) (hT : lq_T D ca s b i z F cc ad H locs LS) : W p l e room_1 s m #[Value.ref b] below meth c H locs 551 z Q (F0 m 999 LS []) := by
  obtain ⟨hw, hC, hM, hI, hJ, hz, hl⟩ := id hT
  refine lv_aload_n C0.1 C0.2.1 (lq_d rfl) rfl (lv_at hl 2 rfl) ?_
  refine lq_arg (k := 1) (pc2 := 1005) C0 hL hi hT (by decide) rfl rfl rfl rfl rfl rfl ?_
  refine lq_cx (as2 := [vI (xs (i + 1)).toInt]) (rest := []) C0 hKK hT rfl rfl rfl rfl (Nat.le_of_ble_eq_true rfl) (List.forall_mem_cons.mpr ⟨am_rI _, (fun _ h => absurd h List.not_mem_nil)⟩) (fun _ h => absurd h List.not_mem_nil) (Nat.zero_le _) (ly_w (qf_X4_power hC hI)) ?_
  intro r1 cc1 ad H locs _ hr1 sm1 hT _ gr1
  obtain ⟨q1, f1⟩ := hr1
  obtain ⟨hw, hC, hM, hI, hJ, hz, hl⟩ := id hT
  obtain ⟨v1, rfl⟩ := q1
  refine lv_pop C0.1 C0.2.1 (lq_d rfl) rfl ?_
  show W p l e room_1 s m #[Value.ref b] below meth c H locs 551 z Q (F0 m 1009 LS [])
  refine lv_aload_n C0.1 C0.2.1 (lq_d rfl) rfl (lv_at hl 1 rfl) ?_
  refine lq_arg (k := 1) (pc2 := 1015) C0 hL hi hT (by decide) rfl rfl rfl rfl rfl rfl ?_
  refine lq_cm (as2 := [vI (xs (i + 1)).toInt]) (rest := []) C0 hKK hT rfl rfl rfl rfl (Nat.le_of_ble_eq_true rfl) (List.forall_mem_cons.mpr ⟨am_rI _, (fun _ h => absurd h List.not_mem_nil)⟩) (fun _ h => absurd h List.not_mem_nil) (Nat.zero_le _) (lz_w (qg_X5_power hM hJ)) ?_
  intro r2 cc2 ad H locs _ hr2 sm2 hT _ gr2
  obtain ⟨q2, f2⟩ := hr2
  obtain ⟨hw, hC, hM, hI, hJ, hz, hl⟩ := id hT
  have hs : lq_S cc2 := hj.k f1 f2
  obtain ⟨v2, rfl⟩ := q2
  refine lv_pop C0.1 C0.2.1 (lq_d rfl) rfl ?_
  show W p l e room_1 s m #[Value.ref b] below meth c H locs 551 z Q (F0 m 1019 LS [])
  exact lv_goto (tgt := 1022) C0.1 C0.2.1 (lq_d rfl) (by decide) (K cc2 ad H locs hs hT)
