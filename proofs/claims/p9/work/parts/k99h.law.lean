/-! The law's loop, and the law. -/
set_option maxRecDepth 100000 in
theorem lq_loop {p : Program} {l : Launch} {e : Env} {s : State} {m : MethodId} {below : List Frame} {meth : Method} {c : Code} {D : va_G} {ca : Nat → ClassId} {b L : Nat} {xs : Nat → Int32} {z : Nat} {F : aq_F} (C0 : lw_At p s m meth c b L xs) (hKK : am_KK D ca s) (hL : L ≤ 3072) : ∀ (n i : Nat) (cc : aq_C) (ad : Nat → Nat) (H : Heap) (locs : List Loc) (LS : Array Slot), L < i + n → i ≤ 3072 → lq_S cc → lq_T D ca s b i z F cc ad H locs LS → W p l e room_1 s m #[Value.ref b] below meth c H locs 551 z (lw_Z below #[Value.ref b] s) (F0 m 18 LS []) := by
  obtain ⟨hx, hb, hr, hml, hown, hts, hX, hbl, hlocks, hgv⟩ := id C0
  intro n
  induction n with
  | zero =>
    intro i cc ad H locs LS hn hi hj hT
    obtain ⟨hw, hC, hM, hI, hJ, hz, hl⟩ := hT
    refine lv_iload_n hx hb (lq_d rfl) rfl (lv_at hl 0 rfl) ?_
    refine lv_aload_n hx hb (lq_d rfl) rfl (lv_at hl 3 rfl) ?_
    refine va_slen (A := fun q => s.heap.size ≤ q) hx hb hX hbl (Nat.not_le.mpr hbl) hw.2.2.2 (lq_d rfl) ?_
    refine lv_bipush (v := 6) hx hb (lq_d rfl) (by decide) ?_
    refine lv_isub hx hb (lq_d rfl) ?_
    refine lv_icmp_gt (tgt := 1028) hx hb (lq_d rfl) (by decide) (fun q => ?_) (fun q => absurd ((lq_cmp hL (by omega)).mpr (by omega)) q)
    refine lv_iconst (v := 1) hx hb (lq_d rfl) (by decide) ?_
    refine va_forget (fun q hq => hw.2.2.2.2.2 q hq) ?_
    refine W.widen (k := 600000) (n := 7302249) (by omega) (by omega) ?_
    exact lw_ret hx hb hr hlocks (lq_d rfl)
  | succ n ih =>
    intro i cc ad H locs LS hn hi hj hT
    obtain ⟨hw, hC, hM, hI, hJ, hz, hl⟩ := hT
    refine lv_iload_n hx hb (lq_d rfl) rfl (lv_at hl 0 rfl) ?_
    refine lv_aload_n hx hb (lq_d rfl) rfl (lv_at hl 3 rfl) ?_
    refine va_slen (A := fun q => s.heap.size ≤ q) hx hb hX hbl (Nat.not_le.mpr hbl) hw.2.2.2 (lq_d rfl) ?_
    refine lv_bipush (v := 6) hx hb (lq_d rfl) (by decide) ?_
    refine lv_isub hx hb (lq_d rfl) ?_
    refine lv_icmp_gt (tgt := 1028) hx hb (lq_d rfl) (by decide) (fun q => ?_) (fun q => ?_)
    · refine lv_iconst (v := 1) hx hb (lq_d rfl) (by decide) ?_
      refine va_forget (fun q hq => hw.2.2.2.2.2 q hq) ?_
      refine W.widen (k := 600000) (n := 7302249) (by omega) (by omega) ?_
      exact lw_ret hx hb hr hlocks (lq_d rfl)
    have hi6 : i + 6 ≤ L := by
      rcases Nat.lt_or_ge L (i + 6) with g | g
      · exact absurd ((lq_cmp hL (by omega)).mpr g) q
      · exact g
    have K : ∀ (d : aq_C) (ad2 : Nat → Nat) (H2 : Heap) (locs2 : List Loc), lq_S d → lq_T D ca s b i z F d ad2 H2 locs2 LS → W p l e room_1 s m #[Value.ref b] below meth c H2 locs2 551 z (lw_Z below #[Value.ref b] s) (F0 m 1022 LS []) := by
      intro d ad2 H2 locs2 hj2 hT2
      obtain ⟨kw, kC, kM, kI, kJ, kz, kl⟩ := hT2
      refine lv_iinc (v := nI (i + 6)) (lv' := [(3, .int (nI (i + 6))), (2, .ref (ad2 527)), (1, .ref (ad2 0)), (0, .ref b)]) hx hb (lq_d rfl) kl (k := 0) rfl (nI_add i 6) (by decide) rfl (fun LS2 hl2 => ?_)
      refine lv_goto (tgt := 18) hx hb (lq_d rfl) (by decide) ?_
      exact ih (i + 6) d ad2 H2 locs2 LS2 (by omega) (by omega) hj2 ⟨kw, kC, kM, kI, kJ, kz, hl2⟩
    refine lv_aload_n hx hb (lq_d rfl) rfl (lv_at hl 3 rfl) ?_
    refine lv_iload_n hx hb (lq_d rfl) rfl (lv_at hl 0 rfl) ?_
    refine va_sld (A := fun q => s.heap.size ≤ q) hx hb hX hbl (Nat.not_le.mpr hbl) hw.2.2.2 (vp_in_nI (show i < L by omega) (by omega)) (lq_d rfl) ?_
    refine lv_bipush (v := 31) hx hb (lq_d rfl) (by decide) ?_
    refine lv_iand hx hb (lq_d rfl) ?_
    refine lv_topi (fun v _ => ?_)
    by_cases ho : v.toInt < 0 ∨ 21 < v.toInt
    · exact lv_tableOut (tgt := 1022) hx hb (lq_d rfl) ho (by decide) (K cc ad H locs hj ⟨hw, hC, hM, hI, hJ, hz, hl⟩)
    have h1 : ¬ v.toInt < 0 := fun q => ho (Or.inl q)
    have h2 : ¬ 21 < v.toInt := fun q => ho (Or.inr q)
    have hv : v.toInt = 0 ∨ v.toInt = 1 ∨ v.toInt = 2 ∨ v.toInt = 3 ∨ v.toInt = 4 ∨ v.toInt = 5 ∨ v.toInt = 6 ∨ v.toInt = 7 ∨ v.toInt = 8 ∨ v.toInt = 9 ∨ v.toInt = 10 ∨ v.toInt = 11 ∨ v.toInt = 12 ∨ v.toInt = 13 ∨ v.toInt = 14 ∨ v.toInt = 15 ∨ v.toInt = 16 ∨ v.toInt = 17 ∨ v.toInt = 18 ∨ v.toInt = 19 ∨ v.toInt = 20 ∨ v.toInt = 21 := by omega
    rcases hv with hv | hv | hv | hv | hv | hv | hv | hv | hv | hv | hv | hv | hv | hv | hv | hv | hv | hv | hv | hv | hv | hv
    · refine lv_tableIn (tgt := 136) hx hb (lq_d rfl) h1 h2 (by rw [hv]; rfl) (by decide) ?_
      exact lq_k0 C0 hKK hL hi6 K hj ⟨hw, hC, hM, hI, hJ, hz, hl⟩
    · refine lv_tableIn (tgt := 169) hx hb (lq_d rfl) h1 h2 (by rw [hv]; rfl) (by decide) ?_
      exact lq_k1 C0 hKK hL hi6 K hj ⟨hw, hC, hM, hI, hJ, hz, hl⟩
    · refine lv_tableIn (tgt := 212) hx hb (lq_d rfl) h1 h2 (by rw [hv]; rfl) (by decide) ?_
      exact lq_k2 C0 hKK hL hi6 K hj ⟨hw, hC, hM, hI, hJ, hz, hl⟩
    · refine lv_tableIn (tgt := 255) hx hb (lq_d rfl) h1 h2 (by rw [hv]; rfl) (by decide) ?_
      exact lq_k3 C0 hKK hL hi6 K hj ⟨hw, hC, hM, hI, hJ, hz, hl⟩
    · refine lv_tableIn (tgt := 298) hx hb (lq_d rfl) h1 h2 (by rw [hv]; rfl) (by decide) ?_
      exact lq_k4 C0 hKK hL hi6 K hj ⟨hw, hC, hM, hI, hJ, hz, hl⟩
    · refine lv_tableIn (tgt := 361) hx hb (lq_d rfl) h1 h2 (by rw [hv]; rfl) (by decide) ?_
      exact lq_k5 C0 hKK hL hi6 K hj ⟨hw, hC, hM, hI, hJ, hz, hl⟩
    · refine lv_tableIn (tgt := 394) hx hb (lq_d rfl) h1 h2 (by rw [hv]; rfl) (by decide) ?_
      exact lq_k6 C0 hKK hL hi6 K hj ⟨hw, hC, hM, hI, hJ, hz, hl⟩
    · refine lv_tableIn (tgt := 437) hx hb (lq_d rfl) h1 h2 (by rw [hv]; rfl) (by decide) ?_
      exact lq_k7 C0 hKK hL hi6 K hj ⟨hw, hC, hM, hI, hJ, hz, hl⟩
    · refine lv_tableIn (tgt := 470) hx hb (lq_d rfl) h1 h2 (by rw [hv]; rfl) (by decide) ?_
      exact lq_k8 C0 hKK hL hi6 K hj ⟨hw, hC, hM, hI, hJ, hz, hl⟩
    · refine lv_tableIn (tgt := 553) hx hb (lq_d rfl) h1 h2 (by rw [hv]; rfl) (by decide) ?_
      exact lq_k9 C0 hKK hL hi6 K hj ⟨hw, hC, hM, hI, hJ, hz, hl⟩
    · refine lv_tableIn (tgt := 606) hx hb (lq_d rfl) h1 h2 (by rw [hv]; rfl) (by decide) ?_
      exact lq_k10 C0 hKK hL hi6 K hj ⟨hw, hC, hM, hI, hJ, hz, hl⟩
    · refine lv_tableIn (tgt := 639) hx hb (lq_d rfl) h1 h2 (by rw [hv]; rfl) (by decide) ?_
      exact lq_k11 C0 hKK hL hi6 K hj ⟨hw, hC, hM, hI, hJ, hz, hl⟩
    · refine lv_tableIn (tgt := 682) hx hb (lq_d rfl) h1 h2 (by rw [hv]; rfl) (by decide) ?_
      exact lq_k12 C0 hKK hL hi6 K hj ⟨hw, hC, hM, hI, hJ, hz, hl⟩
    · refine lv_tableIn (tgt := 715) hx hb (lq_d rfl) h1 h2 (by rw [hv]; rfl) (by decide) ?_
      exact lq_k13 C0 hKK hL hi6 K hj ⟨hw, hC, hM, hI, hJ, hz, hl⟩
    · refine lv_tableIn (tgt := 748) hx hb (lq_d rfl) h1 h2 (by rw [hv]; rfl) (by decide) ?_
      exact lq_k14 C0 hKK hL hi6 K hj ⟨hw, hC, hM, hI, hJ, hz, hl⟩
    · refine lv_tableIn (tgt := 781) hx hb (lq_d rfl) h1 h2 (by rw [hv]; rfl) (by decide) ?_
      exact lq_k15 C0 hKK hL hi6 K hj ⟨hw, hC, hM, hI, hJ, hz, hl⟩
    · refine lv_tableIn (tgt := 834) hx hb (lq_d rfl) h1 h2 (by rw [hv]; rfl) (by decide) ?_
      exact lq_k16 C0 hKK hL hi6 K hj ⟨hw, hC, hM, hI, hJ, hz, hl⟩
    · refine lv_tableIn (tgt := 887) hx hb (lq_d rfl) h1 h2 (by rw [hv]; rfl) (by decide) ?_
      exact lq_k17 C0 hKK hL hi6 K hj ⟨hw, hC, hM, hI, hJ, hz, hl⟩
    · refine lv_tableIn (tgt := 940) hx hb (lq_d rfl) h1 h2 (by rw [hv]; rfl) (by decide) ?_
      exact lq_k18 C0 hKK hL hi6 K hj ⟨hw, hC, hM, hI, hJ, hz, hl⟩
    · refine lv_tableIn (tgt := 963) hx hb (lq_d rfl) h1 h2 (by rw [hv]; rfl) (by decide) ?_
      exact lq_k19 C0 hKK hL hi6 K hj ⟨hw, hC, hM, hI, hJ, hz, hl⟩
    · refine lv_tableIn (tgt := 986) hx hb (lq_d rfl) h1 h2 (by rw [hv]; rfl) (by decide) ?_
      exact lq_k20 C0 hKK hL hi6 K hj ⟨hw, hC, hM, hI, hJ, hz, hl⟩
    · refine lv_tableIn (tgt := 999) hx hb (lq_d rfl) h1 h2 (by rw [hv]; rfl) (by decide) ?_
      exact lq_k21 C0 hKK hL hi6 K hj ⟨hw, hC, hM, hI, hJ, hz, hl⟩
theorem sb_Cm {m m2 : Nat} {F F2 : aq_F} (hC : sb_C m F) (hm : m ≤ m2) (h : ∀ b, b < 527 → F2 b = F b) : sb_C m2 F2 := by
  obtain ⟨k0, k1, k2, k3, k4, k5, k6, k7, k8, k9⟩ := hC
  refine ⟨by omega, by rw [h _ (by omega)]; exact k1, by rw [h _ (by omega)]; exact k2, by rw [h _ (by omega)]; exact k3, by rw [h _ (by omega)]; exact k4, su_0m k5 hm (fun b h1 h2 => h b (by omega)), cr_0m k6 hm (fun b h1 h2 => h b (by omega)), fun j hj => su_0m (k7 j hj) hm (fun b h1 h2 => h b (by omega)), fun j hj => ?_, fun j hj => ?_⟩
  · have n6 := sb_end4 j hj
    exact sb_Bm (k8 j hj) hm (fun b h1 h2 => h b (by omega))
  · have n6 := sb_end4 j hj
    exact sb_Hm (k9 j hj) hm (fun b h1 h2 => h b (by omega))
theorem mo_t0e : (fun j => aq_ot (ac_ft 5 j)) = mo_t0 := by
  funext j
  match j with
  | 0 => rfl
  | 1 => rfl
  | 2 => rfl
  | 3 => rfl
  | 4 => rfl
  | 5 => rfl
  | 6 => rfl
  | 7 => rfl
  | 8 => rfl
  | 9 => rfl
  | 10 => rfl
  | 11 => rfl
  | 12 => rfl
  | 13 => rfl
  | 14 => rfl
  | 15 => rfl
  | 16 => rfl
  | 17 => rfl
  | 18 => rfl
  | 19 => rfl
  | 20 => rfl
  | 21 => rfl
  | 22 => rfl
  | 23 => rfl
  | 24 => rfl
  | 25 => rfl
  | 26 => rfl
  | j + 27 => rfl
set_option maxHeartbeats 4000000 in
set_option maxRecDepth 100000 in
/-- THE LAW, from its entry -/
theorem whole_start {p : Program} {e : Env} {s : State} {m : MethodId} {below : List Frame} {meth : Method} {c : Code} (l : Launch) {b L : Nat} {xs : Nat → Int32} (hL : L ≤ 3072) (C0 : lw_At p s m meth c b L xs) : W p l e room_1 s m #[Value.ref b] below meth c s.heap [] 0 0 (lw_Z below #[Value.ref b] s) (entryFrame m ([Value.ref b] : List Value).toArray 4) := by
  obtain ⟨hx, hb, hr, hml, hown, hts, hX, hbl, hlocks, hgv⟩ := id C0
  obtain ⟨D, ca, hKK⟩ := lq_KK hts
  have hl := lv_entry ([.ref b]) (n := 4) (Nat.le_of_ble_eq_true rfl)
  rw [lg_entry_eq]
  generalize (lg_sl ([.ref b]) ++ List.replicate (4 - (lg_sl ([.ref b])).length) Slot.unset).toArray = ls at hl ⊢
  have hl : lv_has ls 4 [(0, .ref b)] := hl
  obtain ⟨F0_, hF0⟩ : ∃ G : aq_F, G = fun _ => (0, 0, fun _ => .inl 0) := ⟨_, rfl⟩
  have hw0 : lq_W D ca s (aq_h 0 0 F0_ (fun _ _ => 0)) (fun _ => 0) s.heap [] := ⟨fun k hk => absurd hk (Nat.not_lt_zero k), fun k q h => by simp [am_ws, aq_h] at h, ⟨fun i j p q h => by simp [am_ws, aq_h] at h, fun k q h => by simp [am_ws, aq_h] at h⟩, va_S.rf⟩
  refine lq_new (h := aq_h 0 0 F0_ (fun _ _ => 0)) (x := 4) (N := 5) (C := RX4) (T := TX4) C0 hKK rfl rfl (List.mem_of_getElem? (i := 62) rfl) (List.mem_of_getElem? (i := 63) rfl) (List.mem_of_getElem? (i := 54) rfl) (show 0 + 1 ≤ 600000 by omega) (show 0 + 5 ≤ 7302249 by omega) hw0 ?_
  intro q H1 hwa
  have hw1 : lq_W D ca s (am_mk (aq_h 0 0 F0_ (fun _ _ => 0)) 14 5 (fun j => am_dv (ac_ft 4 j))) (am_up (fun _ => 0) 0 q) H1 [] := hwa
  clear hwa
  rw [aq_mkg (fun i => aq_otw (ac_ft 4 i))] at hw1
  have eq1 : am_up (fun _ => 0) 0 q 0 = q := am_up_s
  generalize am_up (fun _ => 0) 0 q = ad1 at hw1 eq1
  subst eq1
  have g1 : am_up F0_ 0 (14, 5, fun j => aq_ot (ac_ft 4 j)) 0 = (14, 5, fun j => aq_ot (ac_ft 4 j)) := am_up_s
  generalize am_up F0_ 0 (14, 5, fun j => aq_ot (ac_ft 4 j)) = F1 at hw1 g1
  generalize (fun a i => if a = 0 then 0 else (fun _ _ => 0 : aq_C) a i : aq_C) = c1 at hw1
  show W p l e room_1 s m #[Value.ref b] below meth c H1 [] 1 5 (lw_Z below #[Value.ref b] s) (F0 m 3 ls [.ref (ad1 0)])
  refine lv_dup hx hb (lq_d rfl) rfl ?_
  refine lq_ci (h := aq_h 1 5 F1 c1) (a := 0) (as2 := []) (rest := [vR 0]) C0 hKK rfl (by decide) rfl (qn_X4_init g1) rfl (Nat.le_of_ble_eq_true rfl) (show 0 < 1 by omega) (fun _ h => absurd h List.not_mem_nil) hw1 hl.1 (List.forall_mem_cons.mpr ⟨show 0 < 1 by omega, fun _ h => absurd h List.not_mem_nil⟩) (Nat.le_of_ble_eq_true rfl) ?_ ?_
  · rintro r h2 ⟨s2, F2, c2, rfl, rfl, es, -, -, -, -, -⟩
    exact ⟨show 527 ≤ 600000 by omega, show s2 ≤ 7302249 by omega⟩
  rintro r h2 ad2 H2 locs2 - ⟨z2, F2, c2, rfl, rfl, es2, hC, hI, j8, j9, jS⟩ - - hw2
  show W p l e room_1 s m #[Value.ref b] below meth c H2 locs2 527 z2 (lw_Z below #[Value.ref b] s) (F0 m 7 ls [.ref (ad2 0)])
  refine lv_astore_n (lv' := [(1, .ref (ad2 0)), (0, .ref b)]) hx hb (lq_d rfl) rfl hl (by decide) rfl (fun ls hl => ?_)
  refine lq_new (h := aq_h 527 z2 F2 c2) (x := 5) (N := 27) (C := RX5) (T := TX5) C0 hKK rfl rfl (List.mem_of_getElem? (i := 601) rfl) (List.mem_of_getElem? (i := 602) rfl) (List.mem_of_getElem? (i := 61) rfl) (show 527 + 1 ≤ 600000 by omega) (show z2 + 27 ≤ 7302249 by omega) hw2 ?_
  intro q3 H3 hwb
  have hw3 : lq_W D ca s (am_mk (aq_h 527 z2 F2 c2) 15 27 (fun j => am_dv (ac_ft 5 j))) (am_up ad2 527 q3) H3 locs2 := hwb
  clear hwb
  rw [aq_mkg (fun i => aq_otw (ac_ft 5 i))] at hw3
  have eq3 : am_up ad2 527 q3 527 = q3 := am_up_s
  have eq4 : am_up ad2 527 q3 0 = ad2 0 := am_up_n (by omega)
  generalize am_up ad2 527 q3 = ad3 at hw3 eq3 eq4
  subst eq3
  rw [← eq4] at hl
  have g3 : am_up F2 527 (15, 27, fun j => aq_ot (ac_ft 5 j)) 527 = (15, 27, fun j => aq_ot (ac_ft 5 j)) := am_up_s
  have g4 : ∀ a, a < 527 → am_up F2 527 (15, 27, fun j => aq_ot (ac_ft 5 j)) a = F2 a := fun a ha => am_up_n (by omega)
  generalize am_up F2 527 (15, 27, fun j => aq_ot (ac_ft 5 j)) = F3 at hw3 g3 g4
  rw [mo_t0e] at g3
  have g5 : (fun a i => if a = 527 then 0 else c2 a i : aq_C) 527 10 = 0 := if_pos rfl
  have g6 : ∀ a, a < 527 → ∀ i, (fun a i => if a = 527 then 0 else c2 a i : aq_C) a i = c2 a i := fun a ha i => if_neg (by omega)
  generalize (fun a i => if a = 527 then 0 else c2 a i : aq_C) = c3 at hw3 g5 g6
  show W p l e room_1 s m #[Value.ref b] below meth c H3 locs2 528 (z2 + 27) (lw_Z below #[Value.ref b] s) (F0 m 11 ls [.ref (ad3 527)])
  refine lv_dup hx hb (lq_d rfl) rfl ?_
  refine lq_ci (h := aq_h 528 (z2 + 27) F3 c3) (a := 527) (as2 := []) (rest := [vR 527]) C0 hKK rfl (by decide) rfl (qm_init g3 g5) rfl (Nat.le_of_ble_eq_true rfl) (show 527 < 528 by omega) (fun _ h => absurd h List.not_mem_nil) hw3 hl.1 (List.forall_mem_cons.mpr ⟨show 527 < 528 by omega, fun _ h => absurd h List.not_mem_nil⟩) (Nat.le_of_ble_eq_true rfl) ?_ ?_
  · rintro r h2 ⟨F4, c4, rfl, rfl, -, -, -⟩
    exact ⟨show 527 + 24 ≤ 600000 by omega, show z2 + 27 + 3246 ≤ 7302249 by omega⟩
  rintro r h2 ad4 H4 locs4 - ⟨F4, c4, rfl, rfl, hMo, ⟨hJ, j5, j10, jn, jz⟩, hfr⟩ ag4 - hw4
  have ag4 : ∀ j, j < 528 → ad4 j = ad3 j := ag4
  rw [← ag4 0 (by omega)] at hl
  obtain ⟨z4, ez4⟩ : ∃ z4, z2 + 27 + 3246 = z4 := ⟨_, rfl⟩
  rw [ez4] at hw4 ⊢
  show W p l e room_1 s m #[Value.ref b] below meth c H4 locs4 551 z4 (lw_Z below #[Value.ref b] s) (F0 m 15 ls [.ref (ad4 527)])
  refine lv_astore_n (lv' := [(2, .ref (ad4 527)), (1, .ref (ad4 0)), (0, .ref b)]) hx hb (lq_d rfl) rfl hl (by decide) rfl (fun ls hl => ?_)
  refine lv_iconst (v := 0) hx hb (lq_d rfl) (by decide) ?_
  refine lv_istore_n (lv' := [(3, .int 0), (2, .ref (ad4 527)), (1, .ref (ad4 0)), (0, .ref b)]) hx hb (lq_d rfl) rfl hl (by decide) rfl (fun ls hl => ?_)
  have hC4 : sb_C 551 F4 := sb_Cm hC (by omega) (fun a ha => by rw [(hfr a ha).1]; exact g4 a ha)
  have hI4 : cl_I c4 := lq_cI (S := fun a => 527 ≤ a) hI (fun a ha i => by rw [(hfr a (by omega)).2 i]; exact g6 a (by omega) i) (fun a ha => by omega)
  exact lq_loop (z := z4) (F := F4) C0 hKK hL (L + 1) 0 c4 ad4 H4 locs4 ls (by omega) (by omega) (lq_S0 (fun j hj => ⟨by rw [(hfr _ (by omega)).2 0, g6 _ (by omega) 0]; exact (jS j hj).1, by rw [(hfr _ (by omega)).2 1, g6 _ (by omega) 1]; exact (jS j hj).2⟩) jn jz) ⟨hw4, hC4, hMo, hI4, hJ, by omega, by rw [nI_0]; exact hl⟩
