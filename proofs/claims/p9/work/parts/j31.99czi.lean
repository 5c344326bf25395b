
theorem pf_d1 {g : Int} (hn : g ≠ 0) (h : 0 ≤ g) : am_divl 1000000000000 g = some (pf_q g) := by
  have r := pf_r hn
  have e : pf_q g = (1000000000000 : Int).tdiv g := by unfold pf_q; rw [if_neg (by omega)]
  rw [am_divl_s hn, ← e, am_wl_id (am_rl (by omega) (by omega))]
theorem pf_d2 {g : Int} (h : g < 0) (hr : am_wl (-g) = -g) : am_divl 1000000000000 (am_wl (-g)) = some (pf_q g) := by
  have r := pf_r (g := g) (by omega)
  have e : pf_q g = (1000000000000 : Int).tdiv (-g) := by unfold pf_q; rw [if_pos h]
  rw [hr, am_divl_s (by omega), ← e, am_wl_id (am_rl (by omega) (by omega))]

theorem qx_work_i {m s : Nat} {F : aq_F} {c0 : aq_C} {y : Nat} (hO : mo_0 m F y) {tbl : Int → Int} (hT : mo_T F y tbl) (hI : mo_I y c0) {t u w nn sa : Int} (hs0 : 0 ≤ sa) (hs1 : sa < 8) (ht0 : 0 ≤ t) (ht1 : t < 8) (hu0 : 0 ≤ u) (hu1 : u < 8) (hn1 : 1 ≤ nn) (hn4 : nn ≤ 4) (hWt : sm_w (bx_K nn) (rf_v y t c0)) (hWu : sm_w (bx_K nn) (rf_v y u c0)) {T : Option sm_} : ∀ (d : Nat) (x : Int) (i : Int) (k : Int) (v9 : am_V) (v10 : am_V) (v11 : am_V) (v12 : am_V) (v13 : am_V) (v14 : am_V) (v15 : am_V) (v16 : am_V) (T1 : Option sm_) (c : aq_C) (hs : aq_sm (mo_S y) c0 c) (h0 : 0 ≤ k) (h1 : k ≤ c0 (y + 6) u) (h2 : 0 ≤ i) (h3 : i < c0 (y + 6) t) (hq : mo_q y c0 c) (hx : (x = 0 ∧ T1 = none) ∨ (x = 1 ∧ ∃ tg, sm_w (bx_K nn) tg ∧ sm_e tg (mr_v y c) ∧ sp_i nn (rf_v y t c0) (rf_v y u c0) i d k tg = T1)) (hd : c0 (y + 6) u - k < (d : Int)) (K0 : ∀ (x2 : Int) (k2 : Int) (v92 : am_V) (v102 : am_V) (v112 : am_V) (v122 : am_V) (v132 : am_V) (v142 : am_V) (v152 : am_V) (v162 : am_V) (c2 : aq_C) (hs2 : aq_sm (mo_S y) c0 c2) (hq2 : mo_q y c0 c2) (hx2 : (x2 = 0 ∧ T1 = none) ∨ (x2 = 1 ∧ ∃ tg, sm_w (bx_K nn) tg ∧ sm_e tg (mr_v y c2) ∧ T1 = some tg)), am_E ac_X5_work (381, [vR y, vI sa, vI w, vI t, vI u, vI nn, vI x2, vI i, vI k2, v92, v102, v112, v122, v132, v142, v152, v162], [], aq_h m s F c2) (aq_Z m s F (fun a => y ≤ a ∧ a < y + 24) c0 (fun r d => r = some (vI (wk_z T)) ∧ mo_I y d ∧ (∀ i, i ≠ sa → d (y + 5) i = c0 (y + 5) i ∧ d (y + 6) i = c0 (y + 6) i) ∧ (∀ i, (∀ j, 0 ≤ j → j < 40 → i ≠ 40 * sa + j) → d (y + 7) i = c0 (y + 7) i ∧ d (y + 8) i = c0 (y + 8) i ∧ d (y + 9) i = c0 (y + 9) i) ∧ (∀ v, T = some v → d (y + 5) sa = nn ∧ sm_e v (rf_v y sa d)) ∧ (T = none → aq_sm (mo_S y) c0 d)))), am_E ac_X5_work (206, [vR y, vI sa, vI w, vI t, vI u, vI nn, vI x, vI i, vI k, v9, v10, v11, v12, v13, v14, v15, v16], [], aq_h m s F c) (aq_Z m s F (fun a => y ≤ a ∧ a < y + 24) c0 (fun r d => r = some (vI (wk_z T)) ∧ mo_I y d ∧ (∀ i, i ≠ sa → d (y + 5) i = c0 (y + 5) i ∧ d (y + 6) i = c0 (y + 6) i) ∧ (∀ i, (∀ j, 0 ≤ j → j < 40 → i ≠ 40 * sa + j) → d (y + 7) i = c0 (y + 7) i ∧ d (y + 8) i = c0 (y + 8) i ∧ d (y + 9) i = c0 (y + 9) i) ∧ (∀ v, T = some v → d (y + 5) sa = nn ∧ sm_e v (rf_v y sa d)) ∧ (T = none → aq_sm (mo_S y) c0 d)))
  | 0, x, i, k, v9, v10, v11, v12, v13, v14, v15, v16, T1, c, hs, h0, h1, h2, h3, hq, hx, hd, K0 => by exfalso; omega
  | d + 1, x, i, k, v9, v10, v11, v12, v13, v14, v15, v16, T1, c, hs, h0, h1, h2, h3, hq, hx, hd, K0 => by
    obtain ⟨hm, hFo, hG5, hG6, hG7, hG8, hG9, hG10, hG11, hG12, hG13, hG14, hG15, hG16, hG17, hG18, hG19, hG20, hG21, hG22, hG23⟩ := hO
    obtain ⟨hT1, hTt⟩ := hT
    have hzt1 : 0 ≤ c0 (y + 6) t := hWt.1
    have hzt2 : c0 (y + 6) t ≤ 40 := hWt.2.1
    have hzu1 : 0 ≤ c0 (y + 6) u := hWu.1
    have hzu2 : c0 (y + 6) u ≤ 40 := hWu.2.1
    refine am_E.go (t2 := (208, [vR y, vI sa, vI w, vI t, vI u, vI nn, vI x, vI i, vI k, v9, v10, v11, v12, v13, v14, v15, v16], [vI k], aq_h m s F c)) rfl rfl ?_
    refine am_E.go (t2 := (209, [vR y, vI sa, vI w, vI t, vI u, vI nn, vI x, vI i, vI k, v9, v10, v11, v12, v13, v14, v15, v16], [vR y, vI k], aq_h m s F c)) rfl rfl ?_
    refine aq_gf (v := vR (y + 6)) rfl (by omega) hFo (by decide) rfl ?_
    show am_E _ (212, [vR y, vI sa, vI w, vI t, vI u, vI nn, vI x, vI i, vI k, v9, v10, v11, v12, v13, v14, v15, v16], [vR (y + 6), vI k], aq_h m s F c) _
    refine am_E.go (t2 := (214, [vR y, vI sa, vI w, vI t, vI u, vI nn, vI x, vI i, vI k, v9, v10, v11, v12, v13, v14, v15, v16], [vI u, vR (y + 6), vI k], aq_h m s F c)) rfl rfl ?_
    refine aq_al (ok := fun k => k == 0) (v := vI (c (y + 6) u)) rfl rfl (by omega) hG6 rfl (by omega) (by omega) rfl ?_
    show am_E _ (215, [vR y, vI sa, vI w, vI t, vI u, vI nn, vI x, vI i, vI k, v9, v10, v11, v12, v13, v14, v15, v16], [vI (c (y + 6) u), vI k], aq_h m s F c) _
    have f_1 := hs (y + 6) (mo_n (by decide) (by decide)) u
    refine ae_icmp rfl (fun (q_2 : (c (y + 6) u) ≤ k) => ?_) (fun (q_2 : k < (c (y + 6) u)) => ?_)
    · exact K0 x k (v9) (v10) (v11) (v12) (v13) (v14) (v15) (v16) c hs hq (by
      rcases hx with ⟨k1, k2⟩ | ⟨k1, tg, k2, k3, k4⟩
      · exact Or.inl ⟨k1, k2⟩
      · exact Or.inr ⟨k1, tg, k2, k3, by rw [← k4, sp_r, if_neg (show ¬ k < c0 (y + 6) u by omega)]⟩)
    · refine am_E.go (t2 := (220, [vR y, vI sa, vI w, vI t, vI u, vI nn, vI x, vI i, vI k, v9, v10, v11, v12, v13, v14, v15, v16], [vI x], aq_h m s F c)) rfl rfl ?_
      refine ae_if0 rfl (fun (q_3 : x = 0) => ?_) (fun (q_3 : x ≠ 0) => ?_)
      · exact K0 x k (v9) (v10) (v11) (v12) (v13) (v14) (v15) (v16) c hs hq (by
      rcases hx with ⟨k1, k2⟩ | ⟨k1, tg, k2, k3, k4⟩
      · exact Or.inl ⟨k1, k2⟩
      · exact Or.inr ⟨k1, tg, k2, k3, by rw [← k4, sp_r, if_neg (show ¬ k < c0 (y + 6) u by omega)]⟩)
      · obtain ⟨tg, hw, he, hT2⟩ : ∃ tg, sm_w (bx_K nn) tg ∧ sm_e tg (mr_v y c) ∧ sp_i nn (rf_v y t c0) (rf_v y u c0) i (d + 1) k tg = T1 := by
          rcases hx with ⟨k1, k2⟩ | ⟨k1, k2⟩
          · exfalso; omega
          · exact k2
        have z0 : tg.1 = c y 17 := he.1
        have w0 := hw.1
        have w1 := hw.2.1
        have hkf : ∀ i, 0 ≤ i → i < c y 17 → sm_ok (c (y + 17) i) := fun i i0 i1 => by
          have k9 := (hw.2.2.1 i i0 (by omega)).2.2.1
          rw [(he.2 i i0 (by omega)).2.2] at k9
          exact k9
        refine am_E.go (t2 := (224, [vR y, vI sa, vI w, vI t, vI u, vI nn, vI x, vI i, vI k, v9, v10, v11, v12, v13, v14, v15, v16], [vR y], aq_h m s F c)) rfl rfl ?_
        refine aq_gf (v := vR (y + 9)) rfl (by omega) hFo (by decide) rfl ?_
        show am_E _ (227, [vR y, vI sa, vI w, vI t, vI u, vI nn, vI x, vI i, vI k, v9, v10, v11, v12, v13, v14, v15, v16], [vR (y + 9)], aq_h m s F c) _
        refine am_E.go (t2 := (229, [vR y, vI sa, vI w, vI t, vI u, vI nn, vI x, vI i, vI k, v9, v10, v11, v12, v13, v14, v15, v16], [vI 40, vR (y + 9)], aq_h m s F c)) rfl rfl ?_
        refine am_E.go (t2 := (230, [vR y, vI sa, vI w, vI t, vI u, vI nn, vI x, vI i, vI k, v9, v10, v11, v12, v13, v14, v15, v16], [vI t, vI 40, vR (y + 9)], aq_h m s F c)) rfl rfl ?_
        refine ae_mul rfl (am_ri (by omega) (by omega)) ?_
        show am_E _ (231, [vR y, vI sa, vI w, vI t, vI u, vI nn, vI x, vI i, vI k, v9, v10, v11, v12, v13, v14, v15, v16], [vI (40 * t), vR (y + 9)], aq_h m s F c) _
        refine am_E.go (t2 := (233, [vR y, vI sa, vI w, vI t, vI u, vI nn, vI x, vI i, vI k, v9, v10, v11, v12, v13, v14, v15, v16], [vI i, vI (40 * t), vR (y + 9)], aq_h m s F c)) rfl rfl ?_
        refine ae_add rfl (am_ri (by omega) (by omega)) ?_
        show am_E _ (234, [vR y, vI sa, vI w, vI t, vI u, vI nn, vI x, vI i, vI k, v9, v10, v11, v12, v13, v14, v15, v16], [vI ((40 * t) + i), vR (y + 9)], aq_h m s F c) _
        refine aq_al (ok := fun k => k == 2) (v := vL (c (y + 9) ((40 * t) + i))) rfl rfl (by omega) hG9 rfl (by omega) (by omega) rfl ?_
        show am_E _ (235, [vR y, vI sa, vI w, vI t, vI u, vI nn, vI x, vI i, vI k, v9, v10, v11, v12, v13, v14, v15, v16], [vL (c (y + 9) ((40 * t) + i))], aq_h m s F c) _
        have f_4 := hs (y + 9) (mo_n (by decide) (by decide)) ((40 * t) + i)
        have kkt : (0 ≤ c0 (y + 7) (40 * t + i) ∧ c0 (y + 7) (40 * t + i) < bx_K nn) ∧ (0 ≤ c0 (y + 8) (40 * t + i) ∧ c0 (y + 8) (40 * t + i) ≤ 20) ∧ sm_ok (c0 (y + 9) (40 * t + i)) ∧ c0 (y + 9) (40 * t + i) ≠ 0 := hWt.2.2.1 i (by omega) (show i < c0 (y + 6) t by omega)
        obtain ⟨⟨kb0t, kb1t⟩, ⟨kp0t, kp1t⟩, kft, knt⟩ := kkt
        have kgt := kft
        unfold sm_ok at kgt
        refine am_E.go (t2 := (237, [vR y, vI sa, vI w, vI t, vI u, vI nn, vI x, vI i, vI k, vL (c (y + 9) ((40 * t) + i)), vU, v11, v12, v13, v14, v15, v16], [], aq_h m s F c)) rfl rfl ?_
        refine am_E.go (t2 := (238, [vR y, vI sa, vI w, vI t, vI u, vI nn, vI x, vI i, vI k, vL (c (y + 9) ((40 * t) + i)), vU, v11, v12, v13, v14, v15, v16], [vR y], aq_h m s F c)) rfl rfl ?_
        refine aq_gf (v := vR (y + 9)) rfl (by omega) hFo (by decide) rfl ?_
        show am_E _ (241, [vR y, vI sa, vI w, vI t, vI u, vI nn, vI x, vI i, vI k, vL (c (y + 9) ((40 * t) + i)), vU, v11, v12, v13, v14, v15, v16], [vR (y + 9)], aq_h m s F c) _
        refine am_E.go (t2 := (243, [vR y, vI sa, vI w, vI t, vI u, vI nn, vI x, vI i, vI k, vL (c (y + 9) ((40 * t) + i)), vU, v11, v12, v13, v14, v15, v16], [vI 40, vR (y + 9)], aq_h m s F c)) rfl rfl ?_
        refine am_E.go (t2 := (245, [vR y, vI sa, vI w, vI t, vI u, vI nn, vI x, vI i, vI k, vL (c (y + 9) ((40 * t) + i)), vU, v11, v12, v13, v14, v15, v16], [vI u, vI 40, vR (y + 9)], aq_h m s F c)) rfl rfl ?_
        refine ae_mul rfl (am_ri (by omega) (by omega)) ?_
        show am_E _ (246, [vR y, vI sa, vI w, vI t, vI u, vI nn, vI x, vI i, vI k, vL (c (y + 9) ((40 * t) + i)), vU, v11, v12, v13, v14, v15, v16], [vI (40 * u), vR (y + 9)], aq_h m s F c) _
        refine am_E.go (t2 := (248, [vR y, vI sa, vI w, vI t, vI u, vI nn, vI x, vI i, vI k, vL (c (y + 9) ((40 * t) + i)), vU, v11, v12, v13, v14, v15, v16], [vI k, vI (40 * u), vR (y + 9)], aq_h m s F c)) rfl rfl ?_
        refine ae_add rfl (am_ri (by omega) (by omega)) ?_
        show am_E _ (249, [vR y, vI sa, vI w, vI t, vI u, vI nn, vI x, vI i, vI k, vL (c (y + 9) ((40 * t) + i)), vU, v11, v12, v13, v14, v15, v16], [vI ((40 * u) + k), vR (y + 9)], aq_h m s F c) _
        refine aq_al (ok := fun k => k == 2) (v := vL (c (y + 9) ((40 * u) + k))) rfl rfl (by omega) hG9 rfl (by omega) (by omega) rfl ?_
        show am_E _ (250, [vR y, vI sa, vI w, vI t, vI u, vI nn, vI x, vI i, vI k, vL (c (y + 9) ((40 * t) + i)), vU, v11, v12, v13, v14, v15, v16], [vL (c (y + 9) ((40 * u) + k))], aq_h m s F c) _
        have f_5 := hs (y + 9) (mo_n (by decide) (by decide)) ((40 * u) + k)
        have kku : (0 ≤ c0 (y + 7) (40 * u + k) ∧ c0 (y + 7) (40 * u + k) < bx_K nn) ∧ (0 ≤ c0 (y + 8) (40 * u + k) ∧ c0 (y + 8) (40 * u + k) ≤ 20) ∧ sm_ok (c0 (y + 9) (40 * u + k)) ∧ c0 (y + 9) (40 * u + k) ≠ 0 := hWu.2.2.1 k (by omega) (show k < c0 (y + 6) u by omega)
        obtain ⟨⟨kb0u, kb1u⟩, ⟨kp0u, kp1u⟩, kfu, knu⟩ := kku
        have kgu := kfu
        unfold sm_ok at kgu
        refine am_E.go (t2 := (252, [vR y, vI sa, vI w, vI t, vI u, vI nn, vI x, vI i, vI k, vL (c (y + 9) ((40 * t) + i)), vU, vL (c (y + 9) ((40 * u) + k)), vU, v13, v14, v15, v16], [], aq_h m s F c)) rfl rfl ?_
        refine am_E.go (t2 := (255, [vR y, vI sa, vI w, vI t, vI u, vI nn, vI x, vI i, vI k, vL (c (y + 9) ((40 * t) + i)), vU, vL (c (y + 9) ((40 * u) + k)), vU, v13, v14, v15, v16], [vL 1000000000000], aq_h m s F c)) rfl rfl ?_
        refine am_E.go (t2 := (257, [vR y, vI sa, vI w, vI t, vI u, vI nn, vI x, vI i, vI k, vL (c (y + 9) ((40 * t) + i)), vU, vL (c (y + 9) ((40 * u) + k)), vU, v13, v14, v15, v16], [vL (c (y + 9) ((40 * u) + k)), vL 1000000000000], aq_h m s F c)) rfl rfl ?_
        refine am_E.go (t2 := (258, [vR y, vI sa, vI w, vI t, vI u, vI nn, vI x, vI i, vI k, vL (c (y + 9) ((40 * t) + i)), vU, vL (c (y + 9) ((40 * u) + k)), vU, v13, v14, v15, v16], [vL 0, vL (c (y + 9) ((40 * u) + k)), vL 1000000000000], aq_h m s F c)) rfl rfl ?_
        have ez_6 := am_lcf (c (y + 9) ((40 * u) + k)) 0
        refine am_E.go (t2 := (259, [vR y, vI sa, vI w, vI t, vI u, vI nn, vI x, vI i, vI k, vL (c (y + 9) ((40 * t) + i)), vU, vL (c (y + 9) ((40 * u) + k)), vU, v13, v14, v15, v16], [vI (if (c (y + 9) ((40 * u) + k)) < 0 then -1 else if (c (y + 9) ((40 * u) + k)) = 0 then 0 else 1), vL 1000000000000], aq_h m s F c)) rfl rfl ?_
        generalize (if (c (y + 9) ((40 * u) + k)) < 0 then -1 else if (c (y + 9) ((40 * u) + k)) = 0 then 0 else 1) = z_6 at ez_6 ⊢
        refine ae_if0 rfl (fun (q_7 : 0 ≤ z_6) => ?_) (fun (q_7 : z_6 < 0) => ?_)
        · refine am_E.go (t2 := (270, [vR y, vI sa, vI w, vI t, vI u, vI nn, vI x, vI i, vI k, vL (c (y + 9) ((40 * t) + i)), vU, vL (c (y + 9) ((40 * u) + k)), vU, v13, v14, v15, v16], [vL (c (y + 9) ((40 * u) + k)), vL 1000000000000], aq_h m s F c)) rfl rfl ?_
          refine ae_binl (z := pf_q (c (y + 9) (40 * u + k))) rfl rfl (pf_d1 (by omega) (by omega)) ?_
          show am_E _ (271, [vR y, vI sa, vI w, vI t, vI u, vI nn, vI x, vI i, vI k, vL (c (y + 9) ((40 * t) + i)), vU, vL (c (y + 9) ((40 * u) + k)), vU, v13, v14, v15, v16], [vL (pf_q (c (y + 9) (40 * u + k)))], aq_h m s F c) _
          refine am_E.go (t2 := (273, [vR y, vI sa, vI w, vI t, vI u, vI nn, vI x, vI i, vI k, vL (c (y + 9) ((40 * t) + i)), vU, vL (c (y + 9) ((40 * u) + k)), vU, vL (pf_q (c (y + 9) (40 * u + k))), vU, v15, v16], [], aq_h m s F c)) rfl rfl ?_
          refine am_E.go (t2 := (274, [vR y, vI sa, vI w, vI t, vI u, vI nn, vI x, vI i, vI k, vL (c (y + 9) ((40 * t) + i)), vU, vL (c (y + 9) ((40 * u) + k)), vU, vL (pf_q (c (y + 9) (40 * u + k))), vU, v15, v16], [vR y], aq_h m s F c)) rfl rfl ?_
          refine am_E.go (t2 := (276, [vR y, vI sa, vI w, vI t, vI u, vI nn, vI x, vI i, vI k, vL (c (y + 9) ((40 * t) + i)), vU, vL (c (y + 9) ((40 * u) + k)), vU, vL (pf_q (c (y + 9) (40 * u + k))), vU, v15, v16], [vI nn, vR y], aq_h m s F c)) rfl rfl ?_
          refine am_E.go (t2 := (277, [vR y, vI sa, vI w, vI t, vI u, vI nn, vI x, vI i, vI k, vL (c (y + 9) ((40 * t) + i)), vU, vL (c (y + 9) ((40 * u) + k)), vU, vL (pf_q (c (y + 9) (40 * u + k))), vU, v15, v16], [vR y, vI nn, vR y], aq_h m s F c)) rfl rfl ?_
          refine aq_gf (v := vR (y + 7)) rfl (by omega) hFo (by decide) rfl ?_
          show am_E _ (280, [vR y, vI sa, vI w, vI t, vI u, vI nn, vI x, vI i, vI k, vL (c (y + 9) ((40 * t) + i)), vU, vL (c (y + 9) ((40 * u) + k)), vU, vL (pf_q (c (y + 9) (40 * u + k))), vU, v15, v16], [vR (y + 7), vI nn, vR y], aq_h m s F c) _
          refine am_E.go (t2 := (282, [vR y, vI sa, vI w, vI t, vI u, vI nn, vI x, vI i, vI k, vL (c (y + 9) ((40 * t) + i)), vU, vL (c (y + 9) ((40 * u) + k)), vU, vL (pf_q (c (y + 9) (40 * u + k))), vU, v15, v16], [vI 40, vR (y + 7), vI nn, vR y], aq_h m s F c)) rfl rfl ?_
          refine am_E.go (t2 := (283, [vR y, vI sa, vI w, vI t, vI u, vI nn, vI x, vI i, vI k, vL (c (y + 9) ((40 * t) + i)), vU, vL (c (y + 9) ((40 * u) + k)), vU, vL (pf_q (c (y + 9) (40 * u + k))), vU, v15, v16], [vI t, vI 40, vR (y + 7), vI nn, vR y], aq_h m s F c)) rfl rfl ?_
          refine ae_mul rfl (am_ri (by omega) (by omega)) ?_
          show am_E _ (284, [vR y, vI sa, vI w, vI t, vI u, vI nn, vI x, vI i, vI k, vL (c (y + 9) ((40 * t) + i)), vU, vL (c (y + 9) ((40 * u) + k)), vU, vL (pf_q (c (y + 9) (40 * u + k))), vU, v15, v16], [vI (40 * t), vR (y + 7), vI nn, vR y], aq_h m s F c) _
          refine am_E.go (t2 := (286, [vR y, vI sa, vI w, vI t, vI u, vI nn, vI x, vI i, vI k, vL (c (y + 9) ((40 * t) + i)), vU, vL (c (y + 9) ((40 * u) + k)), vU, vL (pf_q (c (y + 9) (40 * u + k))), vU, v15, v16], [vI i, vI (40 * t), vR (y + 7), vI nn, vR y], aq_h m s F c)) rfl rfl ?_
          refine ae_add rfl (am_ri (by omega) (by omega)) ?_
          show am_E _ (287, [vR y, vI sa, vI w, vI t, vI u, vI nn, vI x, vI i, vI k, vL (c (y + 9) ((40 * t) + i)), vU, vL (c (y + 9) ((40 * u) + k)), vU, vL (pf_q (c (y + 9) (40 * u + k))), vU, v15, v16], [vI ((40 * t) + i), vR (y + 7), vI nn, vR y], aq_h m s F c) _
          refine aq_al (ok := fun k => k == 0) (v := vI (c (y + 7) ((40 * t) + i))) rfl rfl (by omega) hG7 rfl (by omega) (by omega) rfl ?_
          show am_E _ (288, [vR y, vI sa, vI w, vI t, vI u, vI nn, vI x, vI i, vI k, vL (c (y + 9) ((40 * t) + i)), vU, vL (c (y + 9) ((40 * u) + k)), vU, vL (pf_q (c (y + 9) (40 * u + k))), vU, v15, v16], [vI (c (y + 7) ((40 * t) + i)), vI nn, vR y], aq_h m s F c) _
          have f_8 := hs (y + 7) (mo_n (by decide) (by decide)) ((40 * t) + i)
          refine am_E.go (t2 := (289, [vR y, vI sa, vI w, vI t, vI u, vI nn, vI x, vI i, vI k, vL (c (y + 9) ((40 * t) + i)), vU, vL (c (y + 9) ((40 * u) + k)), vU, vL (pf_q (c (y + 9) (40 * u + k))), vU, v15, v16], [vR y, vI (c (y + 7) ((40 * t) + i)), vI nn, vR y], aq_h m s F c)) rfl rfl ?_
          refine aq_gf (v := vR (y + 7)) rfl (by omega) hFo (by decide) rfl ?_
          show am_E _ (292, [vR y, vI sa, vI w, vI t, vI u, vI nn, vI x, vI i, vI k, vL (c (y + 9) ((40 * t) + i)), vU, vL (c (y + 9) ((40 * u) + k)), vU, vL (pf_q (c (y + 9) (40 * u + k))), vU, v15, v16], [vR (y + 7), vI (c (y + 7) ((40 * t) + i)), vI nn, vR y], aq_h m s F c) _
          refine am_E.go (t2 := (294, [vR y, vI sa, vI w, vI t, vI u, vI nn, vI x, vI i, vI k, vL (c (y + 9) ((40 * t) + i)), vU, vL (c (y + 9) ((40 * u) + k)), vU, vL (pf_q (c (y + 9) (40 * u + k))), vU, v15, v16], [vI 40, vR (y + 7), vI (c (y + 7) ((40 * t) + i)), vI nn, vR y], aq_h m s F c)) rfl rfl ?_
          refine am_E.go (t2 := (296, [vR y, vI sa, vI w, vI t, vI u, vI nn, vI x, vI i, vI k, vL (c (y + 9) ((40 * t) + i)), vU, vL (c (y + 9) ((40 * u) + k)), vU, vL (pf_q (c (y + 9) (40 * u + k))), vU, v15, v16], [vI u, vI 40, vR (y + 7), vI (c (y + 7) ((40 * t) + i)), vI nn, vR y], aq_h m s F c)) rfl rfl ?_
          refine ae_mul rfl (am_ri (by omega) (by omega)) ?_
          show am_E _ (297, [vR y, vI sa, vI w, vI t, vI u, vI nn, vI x, vI i, vI k, vL (c (y + 9) ((40 * t) + i)), vU, vL (c (y + 9) ((40 * u) + k)), vU, vL (pf_q (c (y + 9) (40 * u + k))), vU, v15, v16], [vI (40 * u), vR (y + 7), vI (c (y + 7) ((40 * t) + i)), vI nn, vR y], aq_h m s F c) _
          refine am_E.go (t2 := (299, [vR y, vI sa, vI w, vI t, vI u, vI nn, vI x, vI i, vI k, vL (c (y + 9) ((40 * t) + i)), vU, vL (c (y + 9) ((40 * u) + k)), vU, vL (pf_q (c (y + 9) (40 * u + k))), vU, v15, v16], [vI k, vI (40 * u), vR (y + 7), vI (c (y + 7) ((40 * t) + i)), vI nn, vR y], aq_h m s F c)) rfl rfl ?_
          refine ae_add rfl (am_ri (by omega) (by omega)) ?_
          show am_E _ (300, [vR y, vI sa, vI w, vI t, vI u, vI nn, vI x, vI i, vI k, vL (c (y + 9) ((40 * t) + i)), vU, vL (c (y + 9) ((40 * u) + k)), vU, vL (pf_q (c (y + 9) (40 * u + k))), vU, v15, v16], [vI ((40 * u) + k), vR (y + 7), vI (c (y + 7) ((40 * t) + i)), vI nn, vR y], aq_h m s F c) _
          refine aq_al (ok := fun k => k == 0) (v := vI (c (y + 7) ((40 * u) + k))) rfl rfl (by omega) hG7 rfl (by omega) (by omega) rfl ?_
          show am_E _ (301, [vR y, vI sa, vI w, vI t, vI u, vI nn, vI x, vI i, vI k, vL (c (y + 9) ((40 * t) + i)), vU, vL (c (y + 9) ((40 * u) + k)), vU, vL (pf_q (c (y + 9) (40 * u + k))), vU, v15, v16], [vI (c (y + 7) ((40 * u) + k)), vI (c (y + 7) ((40 * t) + i)), vI nn, vR y], aq_h m s F c) _
          have f_9 := hs (y + 7) (mo_n (by decide) (by decide)) ((40 * u) + k)
          refine aq_callv (y := 4) (as2 := [vI nn, vI (c (y + 7) ((40 * t) + i)), vI (c (y + 7) ((40 * u) + k))]) (rest := []) rfl rfl (by decide) (Nat.le_of_ble_eq_true rfl) rfl rfl (Nat.le_of_ble_eq_true rfl) (by omega) hFo rfl (Nat.le_of_ble_eq_true rfl) (qz_stacked (S := fun a => a = y ∨ a = y + 12 ∨ a = y + 13) ⟨hm, hFo, hG5, hG6, hG7, hG8, hG9, hG10, hG11, hG12, hG13, hG14, hG15, hG16, hG17, hG18, hG19, hG20, hG21, hG22, hG23⟩ (Or.inl rfl) (Or.inr (Or.inl rfl)) (Or.inr (Or.inr rfl)) ⟨hT1, hTt⟩ (by omega) (by omega) (by omega) (by omega) (by omega) (by omega)) ?_
          rintro r5 h5 ⟨c_t, rfl, s_t, v_t, rfl, hv1_t, hv2_t, hr1_t, hr2_t, hk_t, hrr_t, hvv_t⟩
          show am_E _ (304, [vR y, vI sa, vI w, vI t, vI u, vI nn, vI x, vI i, vI k, vL (c (y + 9) ((40 * t) + i)), vU, vL (c (y + 9) ((40 * u) + k)), vU, vL (pf_q (c (y + 9) (40 * u + k))), vU, v15, v16], [vI v_t], aq_h m s F c_t) _
          have e1 := sk_r (n := nn) (x := c (y + 7) (40 * t + i)) (y := c (y + 7) (40 * u + k)) hn1 hn4 (by omega) (by omega) (by omega) (by omega)
          have e2 := sk_v (n := nn) (x := c (y + 7) (40 * t + i)) (y := c (y + 7) (40 * u + k)) hn1 hn4 (by omega) (by omega) (by omega) (by omega) hv1_t hv2_t hvv_t
          have e_rg : c_t y 15 = sk_ nn (c (y + 7) (40 * t + i)) (c (y + 7) (40 * u + k)) / 1000 := by rw [← e1]; exact hrr_t
          have bl := sk_l (n := nn) (x := c (y + 7) (40 * t + i)) (y := c (y + 7) (40 * u + k))
          have bb := sk_b (n := nn) (x := c (y + 7) (40 * t + i)) (y := c (y + 7) (40 * u + k)) hn1 hn4 (by omega) (by omega) (by omega) (by omega)
          have he_t : sm_e tg (mr_v y c_t) := by rw [mr_vs s_t hk_t.2.2 (by omega) (by omega) (by omega)]; exact he
          have hz_t : c_t y 17 = c y 17 := hk_t.2.2
          have hkf_t : ∀ i, 0 ≤ i → i < c_t y 17 → sm_ok (c_t (y + 17) i) := fun i i0 i1 => by rw [s_t (y + 17) (by omega) i]; exact hkf i i0 (by omega)
          refine am_E.go (t2 := (306, [vR y, vI sa, vI w, vI t, vI u, vI nn, vI x, vI i, vI k, vL (c (y + 9) ((40 * t) + i)), vU, vL (c (y + 9) ((40 * u) + k)), vU, vL (pf_q (c (y + 9) (40 * u + k))), vU, vI v_t, v16], [], aq_h m s F c_t)) rfl rfl ?_
          refine am_E.go (t2 := (307, [vR y, vI sa, vI w, vI t, vI u, vI nn, vI x, vI i, vI k, vL (c (y + 9) ((40 * t) + i)), vU, vL (c (y + 9) ((40 * u) + k)), vU, vL (pf_q (c (y + 9) (40 * u + k))), vU, vI v_t, v16], [vR y], aq_h m s F c_t)) rfl rfl ?_
          refine aq_gf (v := vR (y + 8)) rfl (by omega) hFo (by decide) rfl ?_
          show am_E _ (310, [vR y, vI sa, vI w, vI t, vI u, vI nn, vI x, vI i, vI k, vL (c (y + 9) ((40 * t) + i)), vU, vL (c (y + 9) ((40 * u) + k)), vU, vL (pf_q (c (y + 9) (40 * u + k))), vU, vI v_t, v16], [vR (y + 8)], aq_h m s F c_t) _
          refine am_E.go (t2 := (312, [vR y, vI sa, vI w, vI t, vI u, vI nn, vI x, vI i, vI k, vL (c (y + 9) ((40 * t) + i)), vU, vL (c (y + 9) ((40 * u) + k)), vU, vL (pf_q (c (y + 9) (40 * u + k))), vU, vI v_t, v16], [vI 40, vR (y + 8)], aq_h m s F c_t)) rfl rfl ?_
          refine am_E.go (t2 := (313, [vR y, vI sa, vI w, vI t, vI u, vI nn, vI x, vI i, vI k, vL (c (y + 9) ((40 * t) + i)), vU, vL (c (y + 9) ((40 * u) + k)), vU, vL (pf_q (c (y + 9) (40 * u + k))), vU, vI v_t, v16], [vI t, vI 40, vR (y + 8)], aq_h m s F c_t)) rfl rfl ?_
          refine ae_mul rfl (am_ri (by omega) (by omega)) ?_
          show am_E _ (314, [vR y, vI sa, vI w, vI t, vI u, vI nn, vI x, vI i, vI k, vL (c (y + 9) ((40 * t) + i)), vU, vL (c (y + 9) ((40 * u) + k)), vU, vL (pf_q (c (y + 9) (40 * u + k))), vU, vI v_t, v16], [vI (40 * t), vR (y + 8)], aq_h m s F c_t) _
          refine am_E.go (t2 := (316, [vR y, vI sa, vI w, vI t, vI u, vI nn, vI x, vI i, vI k, vL (c (y + 9) ((40 * t) + i)), vU, vL (c (y + 9) ((40 * u) + k)), vU, vL (pf_q (c (y + 9) (40 * u + k))), vU, vI v_t, v16], [vI i, vI (40 * t), vR (y + 8)], aq_h m s F c_t)) rfl rfl ?_
          refine ae_add rfl (am_ri (by omega) (by omega)) ?_
          show am_E _ (317, [vR y, vI sa, vI w, vI t, vI u, vI nn, vI x, vI i, vI k, vL (c (y + 9) ((40 * t) + i)), vU, vL (c (y + 9) ((40 * u) + k)), vU, vL (pf_q (c (y + 9) (40 * u + k))), vU, vI v_t, v16], [vI ((40 * t) + i), vR (y + 8)], aq_h m s F c_t) _
          refine aq_al (ok := fun k => k == 0) (v := vI (c_t (y + 8) ((40 * t) + i))) rfl rfl (by omega) hG8 rfl (by omega) (by omega) rfl ?_
          show am_E _ (318, [vR y, vI sa, vI w, vI t, vI u, vI nn, vI x, vI i, vI k, vL (c (y + 9) ((40 * t) + i)), vU, vL (c (y + 9) ((40 * u) + k)), vU, vL (pf_q (c (y + 9) (40 * u + k))), vU, vI v_t, v16], [vI (c_t (y + 8) ((40 * t) + i))], aq_h m s F c_t) _
          have f_10 := (aq_smt hs (aq_smi s_t (fun a h => by unfold mo_S; omega))) (y + 8) (mo_n (by decide) (by decide)) ((40 * t) + i)
          refine am_E.go (t2 := (319, [vR y, vI sa, vI w, vI t, vI u, vI nn, vI x, vI i, vI k, vL (c (y + 9) ((40 * t) + i)), vU, vL (c (y + 9) ((40 * u) + k)), vU, vL (pf_q (c (y + 9) (40 * u + k))), vU, vI v_t, v16], [vR y, vI (c_t (y + 8) ((40 * t) + i))], aq_h m s F c_t)) rfl rfl ?_
          refine aq_gf (v := vR (y + 8)) rfl (by omega) hFo (by decide) rfl ?_
          show am_E _ (322, [vR y, vI sa, vI w, vI t, vI u, vI nn, vI x, vI i, vI k, vL (c (y + 9) ((40 * t) + i)), vU, vL (c (y + 9) ((40 * u) + k)), vU, vL (pf_q (c (y + 9) (40 * u + k))), vU, vI v_t, v16], [vR (y + 8), vI (c_t (y + 8) ((40 * t) + i))], aq_h m s F c_t) _
          refine am_E.go (t2 := (324, [vR y, vI sa, vI w, vI t, vI u, vI nn, vI x, vI i, vI k, vL (c (y + 9) ((40 * t) + i)), vU, vL (c (y + 9) ((40 * u) + k)), vU, vL (pf_q (c (y + 9) (40 * u + k))), vU, vI v_t, v16], [vI 40, vR (y + 8), vI (c_t (y + 8) ((40 * t) + i))], aq_h m s F c_t)) rfl rfl ?_
          refine am_E.go (t2 := (326, [vR y, vI sa, vI w, vI t, vI u, vI nn, vI x, vI i, vI k, vL (c (y + 9) ((40 * t) + i)), vU, vL (c (y + 9) ((40 * u) + k)), vU, vL (pf_q (c (y + 9) (40 * u + k))), vU, vI v_t, v16], [vI u, vI 40, vR (y + 8), vI (c_t (y + 8) ((40 * t) + i))], aq_h m s F c_t)) rfl rfl ?_
          refine ae_mul rfl (am_ri (by omega) (by omega)) ?_
          show am_E _ (327, [vR y, vI sa, vI w, vI t, vI u, vI nn, vI x, vI i, vI k, vL (c (y + 9) ((40 * t) + i)), vU, vL (c (y + 9) ((40 * u) + k)), vU, vL (pf_q (c (y + 9) (40 * u + k))), vU, vI v_t, v16], [vI (40 * u), vR (y + 8), vI (c_t (y + 8) ((40 * t) + i))], aq_h m s F c_t) _
          refine am_E.go (t2 := (329, [vR y, vI sa, vI w, vI t, vI u, vI nn, vI x, vI i, vI k, vL (c (y + 9) ((40 * t) + i)), vU, vL (c (y + 9) ((40 * u) + k)), vU, vL (pf_q (c (y + 9) (40 * u + k))), vU, vI v_t, v16], [vI k, vI (40 * u), vR (y + 8), vI (c_t (y + 8) ((40 * t) + i))], aq_h m s F c_t)) rfl rfl ?_
          refine ae_add rfl (am_ri (by omega) (by omega)) ?_
          show am_E _ (330, [vR y, vI sa, vI w, vI t, vI u, vI nn, vI x, vI i, vI k, vL (c (y + 9) ((40 * t) + i)), vU, vL (c (y + 9) ((40 * u) + k)), vU, vL (pf_q (c (y + 9) (40 * u + k))), vU, vI v_t, v16], [vI ((40 * u) + k), vR (y + 8), vI (c_t (y + 8) ((40 * t) + i))], aq_h m s F c_t) _
          refine aq_al (ok := fun k => k == 0) (v := vI (c_t (y + 8) ((40 * u) + k))) rfl rfl (by omega) hG8 rfl (by omega) (by omega) rfl ?_
          show am_E _ (331, [vR y, vI sa, vI w, vI t, vI u, vI nn, vI x, vI i, vI k, vL (c (y + 9) ((40 * t) + i)), vU, vL (c (y + 9) ((40 * u) + k)), vU, vL (pf_q (c (y + 9) (40 * u + k))), vU, vI v_t, v16], [vI (c_t (y + 8) ((40 * u) + k)), vI (c_t (y + 8) ((40 * t) + i))], aq_h m s F c_t) _
          have f_11 := (aq_smt hs (aq_smi s_t (fun a h => by unfold mo_S; omega))) (y + 8) (mo_n (by decide) (by decide)) ((40 * u) + k)
          refine ae_add rfl (am_ri (by omega) (by omega)) ?_
          show am_E _ (332, [vR y, vI sa, vI w, vI t, vI u, vI nn, vI x, vI i, vI k, vL (c (y + 9) ((40 * t) + i)), vU, vL (c (y + 9) ((40 * u) + k)), vU, vL (pf_q (c (y + 9) (40 * u + k))), vU, vI v_t, v16], [vI ((c_t (y + 8) ((40 * t) + i)) + (c_t (y + 8) ((40 * u) + k)))], aq_h m s F c_t) _
          refine am_E.go (t2 := (333, [vR y, vI sa, vI w, vI t, vI u, vI nn, vI x, vI i, vI k, vL (c (y + 9) ((40 * t) + i)), vU, vL (c (y + 9) ((40 * u) + k)), vU, vL (pf_q (c (y + 9) (40 * u + k))), vU, vI v_t, v16], [vR y, vI ((c_t (y + 8) ((40 * t) + i)) + (c_t (y + 8) ((40 * u) + k)))], aq_h m s F c_t)) rfl rfl ?_
          refine aq_gf (v := vI (c_t y 15)) rfl (by omega) hFo (by decide) rfl ?_
          show am_E _ (336, [vR y, vI sa, vI w, vI t, vI u, vI nn, vI x, vI i, vI k, vL (c (y + 9) ((40 * t) + i)), vU, vL (c (y + 9) ((40 * u) + k)), vU, vL (pf_q (c (y + 9) (40 * u + k))), vU, vI v_t, v16], [vI (c_t y 15), vI ((c_t (y + 8) ((40 * t) + i)) + (c_t (y + 8) ((40 * u) + k)))], aq_h m s F c_t) _
          skip
          refine ae_add rfl (am_ri (by omega) (by omega)) ?_
          show am_E _ (337, [vR y, vI sa, vI w, vI t, vI u, vI nn, vI x, vI i, vI k, vL (c (y + 9) ((40 * t) + i)), vU, vL (c (y + 9) ((40 * u) + k)), vU, vL (pf_q (c (y + 9) (40 * u + k))), vU, vI v_t, v16], [vI (((c_t (y + 8) ((40 * t) + i)) + (c_t (y + 8) ((40 * u) + k))) + (c_t y 15))], aq_h m s F c_t) _
          refine am_E.go (t2 := (339, [vR y, vI sa, vI w, vI t, vI u, vI nn, vI x, vI i, vI k, vL (c (y + 9) ((40 * t) + i)), vU, vL (c (y + 9) ((40 * u) + k)), vU, vL (pf_q (c (y + 9) (40 * u + k))), vU, vI v_t, vI (((c_t (y + 8) ((40 * t) + i)) + (c_t (y + 8) ((40 * u) + k))) + (c_t y 15))], [], aq_h m s F c_t)) rfl rfl ?_
          refine am_E.go (t2 := (341, [vR y, vI sa, vI w, vI t, vI u, vI nn, vI x, vI i, vI k, vL (c (y + 9) ((40 * t) + i)), vU, vL (c (y + 9) ((40 * u) + k)), vU, vL (pf_q (c (y + 9) (40 * u + k))), vU, vI v_t, vI (((c_t (y + 8) ((40 * t) + i)) + (c_t (y + 8) ((40 * u) + k))) + (c_t y 15))], [vL (c (y + 9) ((40 * t) + i))], aq_h m s F c_t)) rfl rfl ?_
          refine am_E.go (t2 := (343, [vR y, vI sa, vI w, vI t, vI u, vI nn, vI x, vI i, vI k, vL (c (y + 9) ((40 * t) + i)), vU, vL (c (y + 9) ((40 * u) + k)), vU, vL (pf_q (c (y + 9) (40 * u + k))), vU, vI v_t, vI (((c_t (y + 8) ((40 * t) + i)) + (c_t (y + 8) ((40 * u) + k))) + (c_t y 15))], [vL (pf_q (c (y + 9) (40 * u + k))), vL (c (y + 9) ((40 * t) + i))], aq_h m s F c_t)) rfl rfl ?_
          have rq := pf_r (g := c (y + 9) (40 * u + k)) (by omega)
          have e_m : am_wl (-(pf_q (c (y + 9) (40 * u + k)))) = -(pf_q (c (y + 9) (40 * u + k))) := am_wl_id (am_rl (by omega) (by omega))
          refine am_E.go (t2 := (344, [vR y, vI sa, vI w, vI t, vI u, vI nn, vI x, vI i, vI k, vL (c (y + 9) ((40 * t) + i)), vU, vL (c (y + 9) ((40 * u) + k)), vU, vL (pf_q (c (y + 9) (40 * u + k))), vU, vI v_t, vI (((c_t (y + 8) ((40 * t) + i)) + (c_t (y + 8) ((40 * u) + k))) + (c_t y 15))], [vL (am_wl (-(pf_q (c (y + 9) (40 * u + k))))), vL (c (y + 9) ((40 * t) + i))], aq_h m s F c_t)) rfl rfl ?_
          refine am_E.go (t2 := (346, [vR y, vI sa, vI w, vI t, vI u, vI nn, vI x, vI i, vI k, vL (c (y + 9) ((40 * t) + i)), vU, vL (c (y + 9) ((40 * u) + k)), vU, vL (pf_q (c (y + 9) (40 * u + k))), vU, vI v_t, vI (((c_t (y + 8) ((40 * t) + i)) + (c_t (y + 8) ((40 * u) + k))) + (c_t y 15))], [vL (pf_q (c (y + 9) (40 * u + k))), vL (am_wl (-(pf_q (c (y + 9) (40 * u + k))))), vL (c (y + 9) ((40 * t) + i))], aq_h m s F c_t)) rfl rfl ?_
          refine am_E.call rfl rfl rfl (Nat.le_of_ble_eq_true rfl) (qm_in) ?_
          rintro r5 h5 ⟨rfl, v_13, rfl, hv_13⟩
          show am_E _ (349, [vR y, vI sa, vI w, vI t, vI u, vI nn, vI x, vI i, vI k, vL (c (y + 9) ((40 * t) + i)), vU, vL (c (y + 9) ((40 * u) + k)), vU, vL (pf_q (c (y + 9) (40 * u + k))), vU, vI v_t, vI (((c_t (y + 8) ((40 * t) + i)) + (c_t (y + 8) ((40 * u) + k))) + (c_t y 15))], [vI v_13], aq_h m s F c_t) _
          refine ae_if0 rfl (fun (q_14 : v_13 = 0) => ?_) (fun (q_14 : v_13 ≠ 0) => ?_)
          · have hpf : ¬ pf_ (c (y + 9) (40 * t + i)) (c (y + 9) (40 * u + k)) := by
              unfold pf_
              omega
            have hpg : ¬ pf_ (c0 (y + 9) (40 * t + i)) (c0 (y + 9) (40 * u + k)) := by rw [← hs (y + 9) (mo_n (by decide) (by decide)) (40 * t + i), ← hs (y + 9) (mo_n (by decide) (by decide)) (40 * u + k)]; exact hpf
            refine am_E.go (t2 := (373, [vR y, vI sa, vI w, vI t, vI u, vI nn, vI x, vI i, vI k, vL (c (y + 9) ((40 * t) + i)), vU, vL (c (y + 9) ((40 * u) + k)), vU, vL (pf_q (c (y + 9) (40 * u + k))), vU, vI v_t, vI (((c_t (y + 8) ((40 * t) + i)) + (c_t (y + 8) ((40 * u) + k))) + (c_t y 15))], [vI 0], aq_h m s F c_t)) rfl rfl ?_
            refine am_E.go (t2 := (375, [vR y, vI sa, vI w, vI t, vI u, vI nn, vI 0, vI i, vI k, vL (c (y + 9) ((40 * t) + i)), vU, vL (c (y + 9) ((40 * u) + k)), vU, vL (pf_q (c (y + 9) (40 * u + k))), vU, vI v_t, vI (((c_t (y + 8) ((40 * t) + i)) + (c_t (y + 8) ((40 * u) + k))) + (c_t y 15))], [], aq_h m s F c_t)) rfl rfl ?_
            refine ae_iinc rfl rfl (am_ri (by omega) (by omega)) ?_
            show am_E _ (378, [vR y, vI sa, vI w, vI t, vI u, vI nn, vI 0, vI i, vI (k + 1), vL (c (y + 9) ((40 * t) + i)), vU, vL (c (y + 9) ((40 * u) + k)), vU, vL (pf_q (c (y + 9) (40 * u + k))), vU, vI v_t, vI (((c_t (y + 8) ((40 * t) + i)) + (c_t (y + 8) ((40 * u) + k))) + (c_t y 15))], [], aq_h m s F c_t) _
            refine am_E.go (t2 := (206, [vR y, vI sa, vI w, vI t, vI u, vI nn, vI 0, vI i, vI (k + 1), vL (c (y + 9) ((40 * t) + i)), vU, vL (c (y + 9) ((40 * u) + k)), vU, vL (pf_q (c (y + 9) (40 * u + k))), vU, vI v_t, vI (((c_t (y + 8) ((40 * t) + i)) + (c_t (y + 8) ((40 * u) + k))) + (c_t y 15))], [], aq_h m s F c_t)) rfl rfl ?_
            exact qx_work_i ⟨hm, hFo, hG5, hG6, hG7, hG8, hG9, hG10, hG11, hG12, hG13, hG14, hG15, hG16, hG17, hG18, hG19, hG20, hG21, hG22, hG23⟩ ⟨hT1, hTt⟩ hI hs0 hs1 ht0 ht1 hu0 hu1 hn1 hn4 hWt hWu d 0 i (k + 1) (vL (c (y + 9) ((40 * t) + i))) (vU) (vL (c (y + 9) ((40 * u) + k))) (vU) (vL (pf_q (c (y + 9) (40 * u + k)))) (vU) (vI v_t) (vI (((c_t (y + 8) ((40 * t) + i)) + (c_t (y + 8) ((40 * u) + k))) + (c_t y 15))) _ c_t (aq_smt hs (aq_smi s_t (fun a h => by unfold mo_S; omega))) (by omega) (by omega) (by omega) (by omega) (mo_qt hq (mo_qk hk_t)) (Or.inl ⟨rfl, by rw [← hT2, sp_r, if_pos (show k < c0 (y + 6) u by omega), if_neg hpg]⟩) (by omega) K0
          · have hpf : pf_ (c (y + 9) (40 * t + i)) (c (y + 9) (40 * u + k)) := by
              unfold pf_
              omega
            have hpg : pf_ (c0 (y + 9) (40 * t + i)) (c0 (y + 9) (40 * u + k)) := by rw [← hs (y + 9) (mo_n (by decide) (by decide)) (40 * t + i), ← hs (y + 9) (mo_n (by decide) (by decide)) (40 * u + k)]; exact hpf
            have hpo := pf_ok (by omega) hpf
            have hpr := hpo
            unfold sm_ok at hpr
            refine am_E.go (t2 := (353, [vR y, vI sa, vI w, vI t, vI u, vI nn, vI x, vI i, vI k, vL (c (y + 9) ((40 * t) + i)), vU, vL (c (y + 9) ((40 * u) + k)), vU, vL (pf_q (c (y + 9) (40 * u + k))), vU, vI v_t, vI (((c_t (y + 8) ((40 * t) + i)) + (c_t (y + 8) ((40 * u) + k))) + (c_t y 15))], [vR y], aq_h m s F c_t)) rfl rfl ?_
            refine am_E.go (t2 := (355, [vR y, vI sa, vI w, vI t, vI u, vI nn, vI x, vI i, vI k, vL (c (y + 9) ((40 * t) + i)), vU, vL (c (y + 9) ((40 * u) + k)), vU, vL (pf_q (c (y + 9) (40 * u + k))), vU, vI v_t, vI (((c_t (y + 8) ((40 * t) + i)) + (c_t (y + 8) ((40 * u) + k))) + (c_t y 15))], [vI v_t, vR y], aq_h m s F c_t)) rfl rfl ?_
            refine am_E.go (t2 := (357, [vR y, vI sa, vI w, vI t, vI u, vI nn, vI x, vI i, vI k, vL (c (y + 9) ((40 * t) + i)), vU, vL (c (y + 9) ((40 * u) + k)), vU, vL (pf_q (c (y + 9) (40 * u + k))), vU, vI v_t, vI (((c_t (y + 8) ((40 * t) + i)) + (c_t (y + 8) ((40 * u) + k))) + (c_t y 15))], [vI (((c_t (y + 8) ((40 * t) + i)) + (c_t (y + 8) ((40 * u) + k))) + (c_t y 15)), vI v_t, vR y], aq_h m s F c_t)) rfl rfl ?_
            refine am_E.go (t2 := (359, [vR y, vI sa, vI w, vI t, vI u, vI nn, vI x, vI i, vI k, vL (c (y + 9) ((40 * t) + i)), vU, vL (c (y + 9) ((40 * u) + k)), vU, vL (pf_q (c (y + 9) (40 * u + k))), vU, vI v_t, vI (((c_t (y + 8) ((40 * t) + i)) + (c_t (y + 8) ((40 * u) + k))) + (c_t y 15))], [vL (c (y + 9) ((40 * t) + i)), vI (((c_t (y + 8) ((40 * t) + i)) + (c_t (y + 8) ((40 * u) + k))) + (c_t y 15)), vI v_t, vR y], aq_h m s F c_t)) rfl rfl ?_
            refine am_E.go (t2 := (361, [vR y, vI sa, vI w, vI t, vI u, vI nn, vI x, vI i, vI k, vL (c (y + 9) ((40 * t) + i)), vU, vL (c (y + 9) ((40 * u) + k)), vU, vL (pf_q (c (y + 9) (40 * u + k))), vU, vI v_t, vI (((c_t (y + 8) ((40 * t) + i)) + (c_t (y + 8) ((40 * u) + k))) + (c_t y 15))], [vL (c (y + 9) ((40 * u) + k)), vL (c (y + 9) ((40 * t) + i)), vI (((c_t (y + 8) ((40 * t) + i)) + (c_t (y + 8) ((40 * u) + k))) + (c_t y 15)), vI v_t, vR y], aq_h m s F c_t)) rfl rfl ?_
            refine ae_binl (z := (c (y + 9) ((40 * t) + i)) * (c (y + 9) ((40 * u) + k))) rfl rfl (congrArg some (am_wl_id (am_rl (by omega) (by omega)))) ?_
            show am_E _ (362, [vR y, vI sa, vI w, vI t, vI u, vI nn, vI x, vI i, vI k, vL (c (y + 9) ((40 * t) + i)), vU, vL (c (y + 9) ((40 * u) + k)), vU, vL (pf_q (c (y + 9) (40 * u + k))), vU, vI v_t, vI (((c_t (y + 8) ((40 * t) + i)) + (c_t (y + 8) ((40 * u) + k))) + (c_t y 15))], [vL ((c (y + 9) ((40 * t) + i)) * (c (y + 9) ((40 * u) + k))), vI (((c_t (y + 8) ((40 * t) + i)) + (c_t (y + 8) ((40 * u) + k))) + (c_t y 15)), vI v_t, vR y], aq_h m s F c_t) _
            refine aq_callv (y := 4) (as2 := [vI v_t, vI (((c_t (y + 8) ((40 * t) + i)) + (c_t (y + 8) ((40 * u) + k))) + (c_t y 15)), vL ((c (y + 9) ((40 * t) + i)) * (c (y + 9) ((40 * u) + k)))]) (rest := []) rfl rfl (by decide) (Nat.le_of_ble_eq_true rfl) rfl rfl (Nat.le_of_ble_eq_true rfl) (by omega) hFo rfl (Nat.le_of_ble_eq_true rfl) (qx_comesJ ⟨hm, hFo, hG5, hG6, hG7, hG8, hG9, hG10, hG11, hG12, hG13, hG14, hG15, hG16, hG17, hG18, hG19, hG20, hG21, hG22, hG23⟩ (by omega) (by omega) hkf_t hpo (pf_n (by omega) (by omega))) ?_
            rintro r5 h5 ⟨c_k, rfl, s_k, v_k, rfl, q_k, r_k⟩
            show am_E _ (365, [vR y, vI sa, vI w, vI t, vI u, vI nn, vI x, vI i, vI k, vL (c (y + 9) ((40 * t) + i)), vU, vL (c (y + 9) ((40 * u) + k)), vU, vL (pf_q (c (y + 9) (40 * u + k))), vU, vI v_t, vI (((c_t (y + 8) ((40 * t) + i)) + (c_t (y + 8) ((40 * u) + k))) + (c_t y 15))], [vI v_k], aq_h m s F c_k) _
            have Q := sm_qJ2 hw he_t r_k
            have hpq := hpo
            rw [e2, e_rg, s_t (y + 8) (by omega) (40 * t + i), s_t (y + 8) (by omega) (40 * u + k), hs (y + 7) (mo_n (by decide) (by decide)) (40 * t + i), hs (y + 7) (mo_n (by decide) (by decide)) (40 * u + k), hs (y + 8) (mo_n (by decide) (by decide)) (40 * t + i), hs (y + 8) (mo_n (by decide) (by decide)) (40 * u + k), hs (y + 9) (mo_n (by decide) (by decide)) (40 * t + i), hs (y + 9) (mo_n (by decide) (by decide)) (40 * u + k)] at Q
            rw [hs (y + 9) (mo_n (by decide) (by decide)) (40 * t + i), hs (y + 9) (mo_n (by decide) (by decide)) (40 * u + k)] at hpq
            rw [hs (y + 7) (mo_n (by decide) (by decide)) (40 * t + i), hs (y + 7) (mo_n (by decide) (by decide)) (40 * u + k)] at bb
            refine ae_if0 rfl (fun (q_15 : v_k = 0) => ?_) (fun (q_15 : v_k ≠ 0) => ?_)
            · have e_t : sm_J tg (sk_ nn (c0 (y + 7) (40 * t + i)) (c0 (y + 7) (40 * u + k)) % 1000) (c0 (y + 8) (40 * t + i) + c0 (y + 8) (40 * u + k) + sk_ nn (c0 (y + 7) (40 * t + i)) (c0 (y + 7) (40 * u + k)) / 1000) (c0 (y + 9) (40 * t + i) * c0 (y + 9) (40 * u + k)) = none := by
                rcases Q with ⟨k1, k2⟩ | ⟨k1, k2⟩
                · exact k2
                · exfalso; omega
              refine am_E.go (t2 := (373, [vR y, vI sa, vI w, vI t, vI u, vI nn, vI x, vI i, vI k, vL (c (y + 9) ((40 * t) + i)), vU, vL (c (y + 9) ((40 * u) + k)), vU, vL (pf_q (c (y + 9) (40 * u + k))), vU, vI v_t, vI (((c_t (y + 8) ((40 * t) + i)) + (c_t (y + 8) ((40 * u) + k))) + (c_t y 15))], [vI 0], aq_h m s F c_k)) rfl rfl ?_
              refine am_E.go (t2 := (375, [vR y, vI sa, vI w, vI t, vI u, vI nn, vI 0, vI i, vI k, vL (c (y + 9) ((40 * t) + i)), vU, vL (c (y + 9) ((40 * u) + k)), vU, vL (pf_q (c (y + 9) (40 * u + k))), vU, vI v_t, vI (((c_t (y + 8) ((40 * t) + i)) + (c_t (y + 8) ((40 * u) + k))) + (c_t y 15))], [], aq_h m s F c_k)) rfl rfl ?_
              refine ae_iinc rfl rfl (am_ri (by omega) (by omega)) ?_
              show am_E _ (378, [vR y, vI sa, vI w, vI t, vI u, vI nn, vI 0, vI i, vI (k + 1), vL (c (y + 9) ((40 * t) + i)), vU, vL (c (y + 9) ((40 * u) + k)), vU, vL (pf_q (c (y + 9) (40 * u + k))), vU, vI v_t, vI (((c_t (y + 8) ((40 * t) + i)) + (c_t (y + 8) ((40 * u) + k))) + (c_t y 15))], [], aq_h m s F c_k) _
              refine am_E.go (t2 := (206, [vR y, vI sa, vI w, vI t, vI u, vI nn, vI 0, vI i, vI (k + 1), vL (c (y + 9) ((40 * t) + i)), vU, vL (c (y + 9) ((40 * u) + k)), vU, vL (pf_q (c (y + 9) (40 * u + k))), vU, vI v_t, vI (((c_t (y + 8) ((40 * t) + i)) + (c_t (y + 8) ((40 * u) + k))) + (c_t y 15))], [], aq_h m s F c_k)) rfl rfl ?_
              exact qx_work_i ⟨hm, hFo, hG5, hG6, hG7, hG8, hG9, hG10, hG11, hG12, hG13, hG14, hG15, hG16, hG17, hG18, hG19, hG20, hG21, hG22, hG23⟩ ⟨hT1, hTt⟩ hI hs0 hs1 ht0 ht1 hu0 hu1 hn1 hn4 hWt hWu d 0 i (k + 1) (vL (c (y + 9) ((40 * t) + i))) (vU) (vL (c (y + 9) ((40 * u) + k))) (vU) (vL (pf_q (c (y + 9) (40 * u + k)))) (vU) (vI v_t) (vI (((c_t (y + 8) ((40 * t) + i)) + (c_t (y + 8) ((40 * u) + k))) + (c_t y 15))) _ c_k (aq_smt (aq_smt hs (aq_smi s_t (fun a h => by unfold mo_S; omega))) (aq_smi s_k (fun a h => mo_S3 h))) (by omega) (by omega) (by omega) (by omega) (mo_qt (mo_qt hq (mo_qk hk_t)) q_k) (Or.inl ⟨rfl, by rw [← hT2, sp_r, if_pos (show k < c0 (y + 6) u by omega), if_pos hpg, e_t]; rfl⟩) (by omega) K0
            · obtain ⟨t2, e_t, e_w⟩ : ∃ t2, sm_J tg (sk_ nn (c0 (y + 7) (40 * t + i)) (c0 (y + 7) (40 * u + k)) % 1000) (c0 (y + 8) (40 * t + i) + c0 (y + 8) (40 * u + k) + sk_ nn (c0 (y + 7) (40 * t + i)) (c0 (y + 7) (40 * u + k)) / 1000) (c0 (y + 9) (40 * t + i) * c0 (y + 9) (40 * u + k)) = some t2 ∧ sm_e t2 (mr_v y c_k) := by
                rcases Q with ⟨k1, k2⟩ | ⟨k1, k2⟩
                · exfalso; omega
                · exact k2
              have e_u := sm_Jw e_t
              have hw2 := sm_jw hw bb.1.1 bb.1.2 (by omega) e_u.1 hpq e_u.2
              refine am_E.go (t2 := (369, [vR y, vI sa, vI w, vI t, vI u, vI nn, vI x, vI i, vI k, vL (c (y + 9) ((40 * t) + i)), vU, vL (c (y + 9) ((40 * u) + k)), vU, vL (pf_q (c (y + 9) (40 * u + k))), vU, vI v_t, vI (((c_t (y + 8) ((40 * t) + i)) + (c_t (y + 8) ((40 * u) + k))) + (c_t y 15))], [vI 1], aq_h m s F c_k)) rfl rfl ?_
              refine am_E.go (t2 := (373, [vR y, vI sa, vI w, vI t, vI u, vI nn, vI x, vI i, vI k, vL (c (y + 9) ((40 * t) + i)), vU, vL (c (y + 9) ((40 * u) + k)), vU, vL (pf_q (c (y + 9) (40 * u + k))), vU, vI v_t, vI (((c_t (y + 8) ((40 * t) + i)) + (c_t (y + 8) ((40 * u) + k))) + (c_t y 15))], [vI 1], aq_h m s F c_k)) rfl rfl ?_
              refine am_E.go (t2 := (375, [vR y, vI sa, vI w, vI t, vI u, vI nn, vI 1, vI i, vI k, vL (c (y + 9) ((40 * t) + i)), vU, vL (c (y + 9) ((40 * u) + k)), vU, vL (pf_q (c (y + 9) (40 * u + k))), vU, vI v_t, vI (((c_t (y + 8) ((40 * t) + i)) + (c_t (y + 8) ((40 * u) + k))) + (c_t y 15))], [], aq_h m s F c_k)) rfl rfl ?_
              refine ae_iinc rfl rfl (am_ri (by omega) (by omega)) ?_
              show am_E _ (378, [vR y, vI sa, vI w, vI t, vI u, vI nn, vI 1, vI i, vI (k + 1), vL (c (y + 9) ((40 * t) + i)), vU, vL (c (y + 9) ((40 * u) + k)), vU, vL (pf_q (c (y + 9) (40 * u + k))), vU, vI v_t, vI (((c_t (y + 8) ((40 * t) + i)) + (c_t (y + 8) ((40 * u) + k))) + (c_t y 15))], [], aq_h m s F c_k) _
              refine am_E.go (t2 := (206, [vR y, vI sa, vI w, vI t, vI u, vI nn, vI 1, vI i, vI (k + 1), vL (c (y + 9) ((40 * t) + i)), vU, vL (c (y + 9) ((40 * u) + k)), vU, vL (pf_q (c (y + 9) (40 * u + k))), vU, vI v_t, vI (((c_t (y + 8) ((40 * t) + i)) + (c_t (y + 8) ((40 * u) + k))) + (c_t y 15))], [], aq_h m s F c_k)) rfl rfl ?_
              exact qx_work_i ⟨hm, hFo, hG5, hG6, hG7, hG8, hG9, hG10, hG11, hG12, hG13, hG14, hG15, hG16, hG17, hG18, hG19, hG20, hG21, hG22, hG23⟩ ⟨hT1, hTt⟩ hI hs0 hs1 ht0 ht1 hu0 hu1 hn1 hn4 hWt hWu d 1 i (k + 1) (vL (c (y + 9) ((40 * t) + i))) (vU) (vL (c (y + 9) ((40 * u) + k))) (vU) (vL (pf_q (c (y + 9) (40 * u + k)))) (vU) (vI v_t) (vI (((c_t (y + 8) ((40 * t) + i)) + (c_t (y + 8) ((40 * u) + k))) + (c_t y 15))) _ c_k (aq_smt (aq_smt hs (aq_smi s_t (fun a h => by unfold mo_S; omega))) (aq_smi s_k (fun a h => mo_S3 h))) (by omega) (by omega) (by omega) (by omega) (mo_qt (mo_qt hq (mo_qk hk_t)) q_k) (Or.inr ⟨rfl, t2, hw2, e_w, by rw [← hT2, sp_r, if_pos (show k < c0 (y + 6) u by omega), if_pos hpg, e_t]; rfl⟩) (by omega) K0
        · have e_n : am_wl (-(c (y + 9) (40 * u + k))) = -(c (y + 9) (40 * u + k)) := am_wl_id (am_rl (by omega) (by omega))
          refine am_E.go (t2 := (264, [vR y, vI sa, vI w, vI t, vI u, vI nn, vI x, vI i, vI k, vL (c (y + 9) ((40 * t) + i)), vU, vL (c (y + 9) ((40 * u) + k)), vU, v13, v14, v15, v16], [vL (c (y + 9) ((40 * u) + k)), vL 1000000000000], aq_h m s F c)) rfl rfl ?_
          refine am_E.go (t2 := (265, [vR y, vI sa, vI w, vI t, vI u, vI nn, vI x, vI i, vI k, vL (c (y + 9) ((40 * t) + i)), vU, vL (c (y + 9) ((40 * u) + k)), vU, v13, v14, v15, v16], [vL (am_wl (-(c (y + 9) ((40 * u) + k)))), vL 1000000000000], aq_h m s F c)) rfl rfl ?_
          refine am_E.go (t2 := (270, [vR y, vI sa, vI w, vI t, vI u, vI nn, vI x, vI i, vI k, vL (c (y + 9) ((40 * t) + i)), vU, vL (c (y + 9) ((40 * u) + k)), vU, v13, v14, v15, v16], [vL (am_wl (-(c (y + 9) ((40 * u) + k)))), vL 1000000000000], aq_h m s F c)) rfl rfl ?_
          refine ae_binl (z := pf_q (c (y + 9) (40 * u + k))) rfl rfl (pf_d2 (by omega) e_n) ?_
          show am_E _ (271, [vR y, vI sa, vI w, vI t, vI u, vI nn, vI x, vI i, vI k, vL (c (y + 9) ((40 * t) + i)), vU, vL (c (y + 9) ((40 * u) + k)), vU, v13, v14, v15, v16], [vL (pf_q (c (y + 9) (40 * u + k)))], aq_h m s F c) _
          refine am_E.go (t2 := (273, [vR y, vI sa, vI w, vI t, vI u, vI nn, vI x, vI i, vI k, vL (c (y + 9) ((40 * t) + i)), vU, vL (c (y + 9) ((40 * u) + k)), vU, vL (pf_q (c (y + 9) (40 * u + k))), vU, v15, v16], [], aq_h m s F c)) rfl rfl ?_
          refine am_E.go (t2 := (274, [vR y, vI sa, vI w, vI t, vI u, vI nn, vI x, vI i, vI k, vL (c (y + 9) ((40 * t) + i)), vU, vL (c (y + 9) ((40 * u) + k)), vU, vL (pf_q (c (y + 9) (40 * u + k))), vU, v15, v16], [vR y], aq_h m s F c)) rfl rfl ?_
          refine am_E.go (t2 := (276, [vR y, vI sa, vI w, vI t, vI u, vI nn, vI x, vI i, vI k, vL (c (y + 9) ((40 * t) + i)), vU, vL (c (y + 9) ((40 * u) + k)), vU, vL (pf_q (c (y + 9) (40 * u + k))), vU, v15, v16], [vI nn, vR y], aq_h m s F c)) rfl rfl ?_
          refine am_E.go (t2 := (277, [vR y, vI sa, vI w, vI t, vI u, vI nn, vI x, vI i, vI k, vL (c (y + 9) ((40 * t) + i)), vU, vL (c (y + 9) ((40 * u) + k)), vU, vL (pf_q (c (y + 9) (40 * u + k))), vU, v15, v16], [vR y, vI nn, vR y], aq_h m s F c)) rfl rfl ?_
          refine aq_gf (v := vR (y + 7)) rfl (by omega) hFo (by decide) rfl ?_
          show am_E _ (280, [vR y, vI sa, vI w, vI t, vI u, vI nn, vI x, vI i, vI k, vL (c (y + 9) ((40 * t) + i)), vU, vL (c (y + 9) ((40 * u) + k)), vU, vL (pf_q (c (y + 9) (40 * u + k))), vU, v15, v16], [vR (y + 7), vI nn, vR y], aq_h m s F c) _
          refine am_E.go (t2 := (282, [vR y, vI sa, vI w, vI t, vI u, vI nn, vI x, vI i, vI k, vL (c (y + 9) ((40 * t) + i)), vU, vL (c (y + 9) ((40 * u) + k)), vU, vL (pf_q (c (y + 9) (40 * u + k))), vU, v15, v16], [vI 40, vR (y + 7), vI nn, vR y], aq_h m s F c)) rfl rfl ?_
          refine am_E.go (t2 := (283, [vR y, vI sa, vI w, vI t, vI u, vI nn, vI x, vI i, vI k, vL (c (y + 9) ((40 * t) + i)), vU, vL (c (y + 9) ((40 * u) + k)), vU, vL (pf_q (c (y + 9) (40 * u + k))), vU, v15, v16], [vI t, vI 40, vR (y + 7), vI nn, vR y], aq_h m s F c)) rfl rfl ?_
          refine ae_mul rfl (am_ri (by omega) (by omega)) ?_
          show am_E _ (284, [vR y, vI sa, vI w, vI t, vI u, vI nn, vI x, vI i, vI k, vL (c (y + 9) ((40 * t) + i)), vU, vL (c (y + 9) ((40 * u) + k)), vU, vL (pf_q (c (y + 9) (40 * u + k))), vU, v15, v16], [vI (40 * t), vR (y + 7), vI nn, vR y], aq_h m s F c) _
          refine am_E.go (t2 := (286, [vR y, vI sa, vI w, vI t, vI u, vI nn, vI x, vI i, vI k, vL (c (y + 9) ((40 * t) + i)), vU, vL (c (y + 9) ((40 * u) + k)), vU, vL (pf_q (c (y + 9) (40 * u + k))), vU, v15, v16], [vI i, vI (40 * t), vR (y + 7), vI nn, vR y], aq_h m s F c)) rfl rfl ?_
          refine ae_add rfl (am_ri (by omega) (by omega)) ?_
          show am_E _ (287, [vR y, vI sa, vI w, vI t, vI u, vI nn, vI x, vI i, vI k, vL (c (y + 9) ((40 * t) + i)), vU, vL (c (y + 9) ((40 * u) + k)), vU, vL (pf_q (c (y + 9) (40 * u + k))), vU, v15, v16], [vI ((40 * t) + i), vR (y + 7), vI nn, vR y], aq_h m s F c) _
          refine aq_al (ok := fun k => k == 0) (v := vI (c (y + 7) ((40 * t) + i))) rfl rfl (by omega) hG7 rfl (by omega) (by omega) rfl ?_
          show am_E _ (288, [vR y, vI sa, vI w, vI t, vI u, vI nn, vI x, vI i, vI k, vL (c (y + 9) ((40 * t) + i)), vU, vL (c (y + 9) ((40 * u) + k)), vU, vL (pf_q (c (y + 9) (40 * u + k))), vU, v15, v16], [vI (c (y + 7) ((40 * t) + i)), vI nn, vR y], aq_h m s F c) _
          have f_16 := hs (y + 7) (mo_n (by decide) (by decide)) ((40 * t) + i)
          refine am_E.go (t2 := (289, [vR y, vI sa, vI w, vI t, vI u, vI nn, vI x, vI i, vI k, vL (c (y + 9) ((40 * t) + i)), vU, vL (c (y + 9) ((40 * u) + k)), vU, vL (pf_q (c (y + 9) (40 * u + k))), vU, v15, v16], [vR y, vI (c (y + 7) ((40 * t) + i)), vI nn, vR y], aq_h m s F c)) rfl rfl ?_
          refine aq_gf (v := vR (y + 7)) rfl (by omega) hFo (by decide) rfl ?_
          show am_E _ (292, [vR y, vI sa, vI w, vI t, vI u, vI nn, vI x, vI i, vI k, vL (c (y + 9) ((40 * t) + i)), vU, vL (c (y + 9) ((40 * u) + k)), vU, vL (pf_q (c (y + 9) (40 * u + k))), vU, v15, v16], [vR (y + 7), vI (c (y + 7) ((40 * t) + i)), vI nn, vR y], aq_h m s F c) _
          refine am_E.go (t2 := (294, [vR y, vI sa, vI w, vI t, vI u, vI nn, vI x, vI i, vI k, vL (c (y + 9) ((40 * t) + i)), vU, vL (c (y + 9) ((40 * u) + k)), vU, vL (pf_q (c (y + 9) (40 * u + k))), vU, v15, v16], [vI 40, vR (y + 7), vI (c (y + 7) ((40 * t) + i)), vI nn, vR y], aq_h m s F c)) rfl rfl ?_
          refine am_E.go (t2 := (296, [vR y, vI sa, vI w, vI t, vI u, vI nn, vI x, vI i, vI k, vL (c (y + 9) ((40 * t) + i)), vU, vL (c (y + 9) ((40 * u) + k)), vU, vL (pf_q (c (y + 9) (40 * u + k))), vU, v15, v16], [vI u, vI 40, vR (y + 7), vI (c (y + 7) ((40 * t) + i)), vI nn, vR y], aq_h m s F c)) rfl rfl ?_
          refine ae_mul rfl (am_ri (by omega) (by omega)) ?_
          show am_E _ (297, [vR y, vI sa, vI w, vI t, vI u, vI nn, vI x, vI i, vI k, vL (c (y + 9) ((40 * t) + i)), vU, vL (c (y + 9) ((40 * u) + k)), vU, vL (pf_q (c (y + 9) (40 * u + k))), vU, v15, v16], [vI (40 * u), vR (y + 7), vI (c (y + 7) ((40 * t) + i)), vI nn, vR y], aq_h m s F c) _
          refine am_E.go (t2 := (299, [vR y, vI sa, vI w, vI t, vI u, vI nn, vI x, vI i, vI k, vL (c (y + 9) ((40 * t) + i)), vU, vL (c (y + 9) ((40 * u) + k)), vU, vL (pf_q (c (y + 9) (40 * u + k))), vU, v15, v16], [vI k, vI (40 * u), vR (y + 7), vI (c (y + 7) ((40 * t) + i)), vI nn, vR y], aq_h m s F c)) rfl rfl ?_
          refine ae_add rfl (am_ri (by omega) (by omega)) ?_
          show am_E _ (300, [vR y, vI sa, vI w, vI t, vI u, vI nn, vI x, vI i, vI k, vL (c (y + 9) ((40 * t) + i)), vU, vL (c (y + 9) ((40 * u) + k)), vU, vL (pf_q (c (y + 9) (40 * u + k))), vU, v15, v16], [vI ((40 * u) + k), vR (y + 7), vI (c (y + 7) ((40 * t) + i)), vI nn, vR y], aq_h m s F c) _
          refine aq_al (ok := fun k => k == 0) (v := vI (c (y + 7) ((40 * u) + k))) rfl rfl (by omega) hG7 rfl (by omega) (by omega) rfl ?_
          show am_E _ (301, [vR y, vI sa, vI w, vI t, vI u, vI nn, vI x, vI i, vI k, vL (c (y + 9) ((40 * t) + i)), vU, vL (c (y + 9) ((40 * u) + k)), vU, vL (pf_q (c (y + 9) (40 * u + k))), vU, v15, v16], [vI (c (y + 7) ((40 * u) + k)), vI (c (y + 7) ((40 * t) + i)), vI nn, vR y], aq_h m s F c) _
          have f_17 := hs (y + 7) (mo_n (by decide) (by decide)) ((40 * u) + k)
          refine aq_callv (y := 4) (as2 := [vI nn, vI (c (y + 7) ((40 * t) + i)), vI (c (y + 7) ((40 * u) + k))]) (rest := []) rfl rfl (by decide) (Nat.le_of_ble_eq_true rfl) rfl rfl (Nat.le_of_ble_eq_true rfl) (by omega) hFo rfl (Nat.le_of_ble_eq_true rfl) (qz_stacked (S := fun a => a = y ∨ a = y + 12 ∨ a = y + 13) ⟨hm, hFo, hG5, hG6, hG7, hG8, hG9, hG10, hG11, hG12, hG13, hG14, hG15, hG16, hG17, hG18, hG19, hG20, hG21, hG22, hG23⟩ (Or.inl rfl) (Or.inr (Or.inl rfl)) (Or.inr (Or.inr rfl)) ⟨hT1, hTt⟩ (by omega) (by omega) (by omega) (by omega) (by omega) (by omega)) ?_
          rintro r5 h5 ⟨c_t, rfl, s_t, v_t, rfl, hv1_t, hv2_t, hr1_t, hr2_t, hk_t, hrr_t, hvv_t⟩
          show am_E _ (304, [vR y, vI sa, vI w, vI t, vI u, vI nn, vI x, vI i, vI k, vL (c (y + 9) ((40 * t) + i)), vU, vL (c (y + 9) ((40 * u) + k)), vU, vL (pf_q (c (y + 9) (40 * u + k))), vU, v15, v16], [vI v_t], aq_h m s F c_t) _
          have e1 := sk_r (n := nn) (x := c (y + 7) (40 * t + i)) (y := c (y + 7) (40 * u + k)) hn1 hn4 (by omega) (by omega) (by omega) (by omega)
          have e2 := sk_v (n := nn) (x := c (y + 7) (40 * t + i)) (y := c (y + 7) (40 * u + k)) hn1 hn4 (by omega) (by omega) (by omega) (by omega) hv1_t hv2_t hvv_t
          have e_rg : c_t y 15 = sk_ nn (c (y + 7) (40 * t + i)) (c (y + 7) (40 * u + k)) / 1000 := by rw [← e1]; exact hrr_t
          have bl := sk_l (n := nn) (x := c (y + 7) (40 * t + i)) (y := c (y + 7) (40 * u + k))
          have bb := sk_b (n := nn) (x := c (y + 7) (40 * t + i)) (y := c (y + 7) (40 * u + k)) hn1 hn4 (by omega) (by omega) (by omega) (by omega)
          have he_t : sm_e tg (mr_v y c_t) := by rw [mr_vs s_t hk_t.2.2 (by omega) (by omega) (by omega)]; exact he
          have hz_t : c_t y 17 = c y 17 := hk_t.2.2
          have hkf_t : ∀ i, 0 ≤ i → i < c_t y 17 → sm_ok (c_t (y + 17) i) := fun i i0 i1 => by rw [s_t (y + 17) (by omega) i]; exact hkf i i0 (by omega)
          refine am_E.go (t2 := (306, [vR y, vI sa, vI w, vI t, vI u, vI nn, vI x, vI i, vI k, vL (c (y + 9) ((40 * t) + i)), vU, vL (c (y + 9) ((40 * u) + k)), vU, vL (pf_q (c (y + 9) (40 * u + k))), vU, vI v_t, v16], [], aq_h m s F c_t)) rfl rfl ?_
          refine am_E.go (t2 := (307, [vR y, vI sa, vI w, vI t, vI u, vI nn, vI x, vI i, vI k, vL (c (y + 9) ((40 * t) + i)), vU, vL (c (y + 9) ((40 * u) + k)), vU, vL (pf_q (c (y + 9) (40 * u + k))), vU, vI v_t, v16], [vR y], aq_h m s F c_t)) rfl rfl ?_
          refine aq_gf (v := vR (y + 8)) rfl (by omega) hFo (by decide) rfl ?_
          show am_E _ (310, [vR y, vI sa, vI w, vI t, vI u, vI nn, vI x, vI i, vI k, vL (c (y + 9) ((40 * t) + i)), vU, vL (c (y + 9) ((40 * u) + k)), vU, vL (pf_q (c (y + 9) (40 * u + k))), vU, vI v_t, v16], [vR (y + 8)], aq_h m s F c_t) _
          refine am_E.go (t2 := (312, [vR y, vI sa, vI w, vI t, vI u, vI nn, vI x, vI i, vI k, vL (c (y + 9) ((40 * t) + i)), vU, vL (c (y + 9) ((40 * u) + k)), vU, vL (pf_q (c (y + 9) (40 * u + k))), vU, vI v_t, v16], [vI 40, vR (y + 8)], aq_h m s F c_t)) rfl rfl ?_
          refine am_E.go (t2 := (313, [vR y, vI sa, vI w, vI t, vI u, vI nn, vI x, vI i, vI k, vL (c (y + 9) ((40 * t) + i)), vU, vL (c (y + 9) ((40 * u) + k)), vU, vL (pf_q (c (y + 9) (40 * u + k))), vU, vI v_t, v16], [vI t, vI 40, vR (y + 8)], aq_h m s F c_t)) rfl rfl ?_
          refine ae_mul rfl (am_ri (by omega) (by omega)) ?_
          show am_E _ (314, [vR y, vI sa, vI w, vI t, vI u, vI nn, vI x, vI i, vI k, vL (c (y + 9) ((40 * t) + i)), vU, vL (c (y + 9) ((40 * u) + k)), vU, vL (pf_q (c (y + 9) (40 * u + k))), vU, vI v_t, v16], [vI (40 * t), vR (y + 8)], aq_h m s F c_t) _
          refine am_E.go (t2 := (316, [vR y, vI sa, vI w, vI t, vI u, vI nn, vI x, vI i, vI k, vL (c (y + 9) ((40 * t) + i)), vU, vL (c (y + 9) ((40 * u) + k)), vU, vL (pf_q (c (y + 9) (40 * u + k))), vU, vI v_t, v16], [vI i, vI (40 * t), vR (y + 8)], aq_h m s F c_t)) rfl rfl ?_
          refine ae_add rfl (am_ri (by omega) (by omega)) ?_
          show am_E _ (317, [vR y, vI sa, vI w, vI t, vI u, vI nn, vI x, vI i, vI k, vL (c (y + 9) ((40 * t) + i)), vU, vL (c (y + 9) ((40 * u) + k)), vU, vL (pf_q (c (y + 9) (40 * u + k))), vU, vI v_t, v16], [vI ((40 * t) + i), vR (y + 8)], aq_h m s F c_t) _
          refine aq_al (ok := fun k => k == 0) (v := vI (c_t (y + 8) ((40 * t) + i))) rfl rfl (by omega) hG8 rfl (by omega) (by omega) rfl ?_
          show am_E _ (318, [vR y, vI sa, vI w, vI t, vI u, vI nn, vI x, vI i, vI k, vL (c (y + 9) ((40 * t) + i)), vU, vL (c (y + 9) ((40 * u) + k)), vU, vL (pf_q (c (y + 9) (40 * u + k))), vU, vI v_t, v16], [vI (c_t (y + 8) ((40 * t) + i))], aq_h m s F c_t) _
          have f_18 := (aq_smt hs (aq_smi s_t (fun a h => by unfold mo_S; omega))) (y + 8) (mo_n (by decide) (by decide)) ((40 * t) + i)
          refine am_E.go (t2 := (319, [vR y, vI sa, vI w, vI t, vI u, vI nn, vI x, vI i, vI k, vL (c (y + 9) ((40 * t) + i)), vU, vL (c (y + 9) ((40 * u) + k)), vU, vL (pf_q (c (y + 9) (40 * u + k))), vU, vI v_t, v16], [vR y, vI (c_t (y + 8) ((40 * t) + i))], aq_h m s F c_t)) rfl rfl ?_
          refine aq_gf (v := vR (y + 8)) rfl (by omega) hFo (by decide) rfl ?_
          show am_E _ (322, [vR y, vI sa, vI w, vI t, vI u, vI nn, vI x, vI i, vI k, vL (c (y + 9) ((40 * t) + i)), vU, vL (c (y + 9) ((40 * u) + k)), vU, vL (pf_q (c (y + 9) (40 * u + k))), vU, vI v_t, v16], [vR (y + 8), vI (c_t (y + 8) ((40 * t) + i))], aq_h m s F c_t) _
          refine am_E.go (t2 := (324, [vR y, vI sa, vI w, vI t, vI u, vI nn, vI x, vI i, vI k, vL (c (y + 9) ((40 * t) + i)), vU, vL (c (y + 9) ((40 * u) + k)), vU, vL (pf_q (c (y + 9) (40 * u + k))), vU, vI v_t, v16], [vI 40, vR (y + 8), vI (c_t (y + 8) ((40 * t) + i))], aq_h m s F c_t)) rfl rfl ?_
          refine am_E.go (t2 := (326, [vR y, vI sa, vI w, vI t, vI u, vI nn, vI x, vI i, vI k, vL (c (y + 9) ((40 * t) + i)), vU, vL (c (y + 9) ((40 * u) + k)), vU, vL (pf_q (c (y + 9) (40 * u + k))), vU, vI v_t, v16], [vI u, vI 40, vR (y + 8), vI (c_t (y + 8) ((40 * t) + i))], aq_h m s F c_t)) rfl rfl ?_
          refine ae_mul rfl (am_ri (by omega) (by omega)) ?_
          show am_E _ (327, [vR y, vI sa, vI w, vI t, vI u, vI nn, vI x, vI i, vI k, vL (c (y + 9) ((40 * t) + i)), vU, vL (c (y + 9) ((40 * u) + k)), vU, vL (pf_q (c (y + 9) (40 * u + k))), vU, vI v_t, v16], [vI (40 * u), vR (y + 8), vI (c_t (y + 8) ((40 * t) + i))], aq_h m s F c_t) _
          refine am_E.go (t2 := (329, [vR y, vI sa, vI w, vI t, vI u, vI nn, vI x, vI i, vI k, vL (c (y + 9) ((40 * t) + i)), vU, vL (c (y + 9) ((40 * u) + k)), vU, vL (pf_q (c (y + 9) (40 * u + k))), vU, vI v_t, v16], [vI k, vI (40 * u), vR (y + 8), vI (c_t (y + 8) ((40 * t) + i))], aq_h m s F c_t)) rfl rfl ?_
          refine ae_add rfl (am_ri (by omega) (by omega)) ?_
          show am_E _ (330, [vR y, vI sa, vI w, vI t, vI u, vI nn, vI x, vI i, vI k, vL (c (y + 9) ((40 * t) + i)), vU, vL (c (y + 9) ((40 * u) + k)), vU, vL (pf_q (c (y + 9) (40 * u + k))), vU, vI v_t, v16], [vI ((40 * u) + k), vR (y + 8), vI (c_t (y + 8) ((40 * t) + i))], aq_h m s F c_t) _
          refine aq_al (ok := fun k => k == 0) (v := vI (c_t (y + 8) ((40 * u) + k))) rfl rfl (by omega) hG8 rfl (by omega) (by omega) rfl ?_
          show am_E _ (331, [vR y, vI sa, vI w, vI t, vI u, vI nn, vI x, vI i, vI k, vL (c (y + 9) ((40 * t) + i)), vU, vL (c (y + 9) ((40 * u) + k)), vU, vL (pf_q (c (y + 9) (40 * u + k))), vU, vI v_t, v16], [vI (c_t (y + 8) ((40 * u) + k)), vI (c_t (y + 8) ((40 * t) + i))], aq_h m s F c_t) _
          have f_19 := (aq_smt hs (aq_smi s_t (fun a h => by unfold mo_S; omega))) (y + 8) (mo_n (by decide) (by decide)) ((40 * u) + k)
          refine ae_add rfl (am_ri (by omega) (by omega)) ?_
          show am_E _ (332, [vR y, vI sa, vI w, vI t, vI u, vI nn, vI x, vI i, vI k, vL (c (y + 9) ((40 * t) + i)), vU, vL (c (y + 9) ((40 * u) + k)), vU, vL (pf_q (c (y + 9) (40 * u + k))), vU, vI v_t, v16], [vI ((c_t (y + 8) ((40 * t) + i)) + (c_t (y + 8) ((40 * u) + k)))], aq_h m s F c_t) _
          refine am_E.go (t2 := (333, [vR y, vI sa, vI w, vI t, vI u, vI nn, vI x, vI i, vI k, vL (c (y + 9) ((40 * t) + i)), vU, vL (c (y + 9) ((40 * u) + k)), vU, vL (pf_q (c (y + 9) (40 * u + k))), vU, vI v_t, v16], [vR y, vI ((c_t (y + 8) ((40 * t) + i)) + (c_t (y + 8) ((40 * u) + k)))], aq_h m s F c_t)) rfl rfl ?_
          refine aq_gf (v := vI (c_t y 15)) rfl (by omega) hFo (by decide) rfl ?_
          show am_E _ (336, [vR y, vI sa, vI w, vI t, vI u, vI nn, vI x, vI i, vI k, vL (c (y + 9) ((40 * t) + i)), vU, vL (c (y + 9) ((40 * u) + k)), vU, vL (pf_q (c (y + 9) (40 * u + k))), vU, vI v_t, v16], [vI (c_t y 15), vI ((c_t (y + 8) ((40 * t) + i)) + (c_t (y + 8) ((40 * u) + k)))], aq_h m s F c_t) _
          skip
          refine ae_add rfl (am_ri (by omega) (by omega)) ?_
          show am_E _ (337, [vR y, vI sa, vI w, vI t, vI u, vI nn, vI x, vI i, vI k, vL (c (y + 9) ((40 * t) + i)), vU, vL (c (y + 9) ((40 * u) + k)), vU, vL (pf_q (c (y + 9) (40 * u + k))), vU, vI v_t, v16], [vI (((c_t (y + 8) ((40 * t) + i)) + (c_t (y + 8) ((40 * u) + k))) + (c_t y 15))], aq_h m s F c_t) _
          refine am_E.go (t2 := (339, [vR y, vI sa, vI w, vI t, vI u, vI nn, vI x, vI i, vI k, vL (c (y + 9) ((40 * t) + i)), vU, vL (c (y + 9) ((40 * u) + k)), vU, vL (pf_q (c (y + 9) (40 * u + k))), vU, vI v_t, vI (((c_t (y + 8) ((40 * t) + i)) + (c_t (y + 8) ((40 * u) + k))) + (c_t y 15))], [], aq_h m s F c_t)) rfl rfl ?_
          refine am_E.go (t2 := (341, [vR y, vI sa, vI w, vI t, vI u, vI nn, vI x, vI i, vI k, vL (c (y + 9) ((40 * t) + i)), vU, vL (c (y + 9) ((40 * u) + k)), vU, vL (pf_q (c (y + 9) (40 * u + k))), vU, vI v_t, vI (((c_t (y + 8) ((40 * t) + i)) + (c_t (y + 8) ((40 * u) + k))) + (c_t y 15))], [vL (c (y + 9) ((40 * t) + i))], aq_h m s F c_t)) rfl rfl ?_
          refine am_E.go (t2 := (343, [vR y, vI sa, vI w, vI t, vI u, vI nn, vI x, vI i, vI k, vL (c (y + 9) ((40 * t) + i)), vU, vL (c (y + 9) ((40 * u) + k)), vU, vL (pf_q (c (y + 9) (40 * u + k))), vU, vI v_t, vI (((c_t (y + 8) ((40 * t) + i)) + (c_t (y + 8) ((40 * u) + k))) + (c_t y 15))], [vL (pf_q (c (y + 9) (40 * u + k))), vL (c (y + 9) ((40 * t) + i))], aq_h m s F c_t)) rfl rfl ?_
          have rq := pf_r (g := c (y + 9) (40 * u + k)) (by omega)
          have e_m : am_wl (-(pf_q (c (y + 9) (40 * u + k)))) = -(pf_q (c (y + 9) (40 * u + k))) := am_wl_id (am_rl (by omega) (by omega))
          refine am_E.go (t2 := (344, [vR y, vI sa, vI w, vI t, vI u, vI nn, vI x, vI i, vI k, vL (c (y + 9) ((40 * t) + i)), vU, vL (c (y + 9) ((40 * u) + k)), vU, vL (pf_q (c (y + 9) (40 * u + k))), vU, vI v_t, vI (((c_t (y + 8) ((40 * t) + i)) + (c_t (y + 8) ((40 * u) + k))) + (c_t y 15))], [vL (am_wl (-(pf_q (c (y + 9) (40 * u + k))))), vL (c (y + 9) ((40 * t) + i))], aq_h m s F c_t)) rfl rfl ?_
          refine am_E.go (t2 := (346, [vR y, vI sa, vI w, vI t, vI u, vI nn, vI x, vI i, vI k, vL (c (y + 9) ((40 * t) + i)), vU, vL (c (y + 9) ((40 * u) + k)), vU, vL (pf_q (c (y + 9) (40 * u + k))), vU, vI v_t, vI (((c_t (y + 8) ((40 * t) + i)) + (c_t (y + 8) ((40 * u) + k))) + (c_t y 15))], [vL (pf_q (c (y + 9) (40 * u + k))), vL (am_wl (-(pf_q (c (y + 9) (40 * u + k))))), vL (c (y + 9) ((40 * t) + i))], aq_h m s F c_t)) rfl rfl ?_
          refine am_E.call rfl rfl rfl (Nat.le_of_ble_eq_true rfl) (qm_in) ?_
          rintro r5 h5 ⟨rfl, v_21, rfl, hv_21⟩
          show am_E _ (349, [vR y, vI sa, vI w, vI t, vI u, vI nn, vI x, vI i, vI k, vL (c (y + 9) ((40 * t) + i)), vU, vL (c (y + 9) ((40 * u) + k)), vU, vL (pf_q (c (y + 9) (40 * u + k))), vU, vI v_t, vI (((c_t (y + 8) ((40 * t) + i)) + (c_t (y + 8) ((40 * u) + k))) + (c_t y 15))], [vI v_21], aq_h m s F c_t) _
          refine ae_if0 rfl (fun (q_22 : v_21 = 0) => ?_) (fun (q_22 : v_21 ≠ 0) => ?_)
          · have hpf : ¬ pf_ (c (y + 9) (40 * t + i)) (c (y + 9) (40 * u + k)) := by
              unfold pf_
              omega
            have hpg : ¬ pf_ (c0 (y + 9) (40 * t + i)) (c0 (y + 9) (40 * u + k)) := by rw [← hs (y + 9) (mo_n (by decide) (by decide)) (40 * t + i), ← hs (y + 9) (mo_n (by decide) (by decide)) (40 * u + k)]; exact hpf
            refine am_E.go (t2 := (373, [vR y, vI sa, vI w, vI t, vI u, vI nn, vI x, vI i, vI k, vL (c (y + 9) ((40 * t) + i)), vU, vL (c (y + 9) ((40 * u) + k)), vU, vL (pf_q (c (y + 9) (40 * u + k))), vU, vI v_t, vI (((c_t (y + 8) ((40 * t) + i)) + (c_t (y + 8) ((40 * u) + k))) + (c_t y 15))], [vI 0], aq_h m s F c_t)) rfl rfl ?_
            refine am_E.go (t2 := (375, [vR y, vI sa, vI w, vI t, vI u, vI nn, vI 0, vI i, vI k, vL (c (y + 9) ((40 * t) + i)), vU, vL (c (y + 9) ((40 * u) + k)), vU, vL (pf_q (c (y + 9) (40 * u + k))), vU, vI v_t, vI (((c_t (y + 8) ((40 * t) + i)) + (c_t (y + 8) ((40 * u) + k))) + (c_t y 15))], [], aq_h m s F c_t)) rfl rfl ?_
            refine ae_iinc rfl rfl (am_ri (by omega) (by omega)) ?_
            show am_E _ (378, [vR y, vI sa, vI w, vI t, vI u, vI nn, vI 0, vI i, vI (k + 1), vL (c (y + 9) ((40 * t) + i)), vU, vL (c (y + 9) ((40 * u) + k)), vU, vL (pf_q (c (y + 9) (40 * u + k))), vU, vI v_t, vI (((c_t (y + 8) ((40 * t) + i)) + (c_t (y + 8) ((40 * u) + k))) + (c_t y 15))], [], aq_h m s F c_t) _
            refine am_E.go (t2 := (206, [vR y, vI sa, vI w, vI t, vI u, vI nn, vI 0, vI i, vI (k + 1), vL (c (y + 9) ((40 * t) + i)), vU, vL (c (y + 9) ((40 * u) + k)), vU, vL (pf_q (c (y + 9) (40 * u + k))), vU, vI v_t, vI (((c_t (y + 8) ((40 * t) + i)) + (c_t (y + 8) ((40 * u) + k))) + (c_t y 15))], [], aq_h m s F c_t)) rfl rfl ?_
            exact qx_work_i ⟨hm, hFo, hG5, hG6, hG7, hG8, hG9, hG10, hG11, hG12, hG13, hG14, hG15, hG16, hG17, hG18, hG19, hG20, hG21, hG22, hG23⟩ ⟨hT1, hTt⟩ hI hs0 hs1 ht0 ht1 hu0 hu1 hn1 hn4 hWt hWu d 0 i (k + 1) (vL (c (y + 9) ((40 * t) + i))) (vU) (vL (c (y + 9) ((40 * u) + k))) (vU) (vL (pf_q (c (y + 9) (40 * u + k)))) (vU) (vI v_t) (vI (((c_t (y + 8) ((40 * t) + i)) + (c_t (y + 8) ((40 * u) + k))) + (c_t y 15))) _ c_t (aq_smt hs (aq_smi s_t (fun a h => by unfold mo_S; omega))) (by omega) (by omega) (by omega) (by omega) (mo_qt hq (mo_qk hk_t)) (Or.inl ⟨rfl, by rw [← hT2, sp_r, if_pos (show k < c0 (y + 6) u by omega), if_neg hpg]⟩) (by omega) K0
          · have hpf : pf_ (c (y + 9) (40 * t + i)) (c (y + 9) (40 * u + k)) := by
              unfold pf_
              omega
            have hpg : pf_ (c0 (y + 9) (40 * t + i)) (c0 (y + 9) (40 * u + k)) := by rw [← hs (y + 9) (mo_n (by decide) (by decide)) (40 * t + i), ← hs (y + 9) (mo_n (by decide) (by decide)) (40 * u + k)]; exact hpf
            have hpo := pf_ok (by omega) hpf
            have hpr := hpo
            unfold sm_ok at hpr
            refine am_E.go (t2 := (353, [vR y, vI sa, vI w, vI t, vI u, vI nn, vI x, vI i, vI k, vL (c (y + 9) ((40 * t) + i)), vU, vL (c (y + 9) ((40 * u) + k)), vU, vL (pf_q (c (y + 9) (40 * u + k))), vU, vI v_t, vI (((c_t (y + 8) ((40 * t) + i)) + (c_t (y + 8) ((40 * u) + k))) + (c_t y 15))], [vR y], aq_h m s F c_t)) rfl rfl ?_
            refine am_E.go (t2 := (355, [vR y, vI sa, vI w, vI t, vI u, vI nn, vI x, vI i, vI k, vL (c (y + 9) ((40 * t) + i)), vU, vL (c (y + 9) ((40 * u) + k)), vU, vL (pf_q (c (y + 9) (40 * u + k))), vU, vI v_t, vI (((c_t (y + 8) ((40 * t) + i)) + (c_t (y + 8) ((40 * u) + k))) + (c_t y 15))], [vI v_t, vR y], aq_h m s F c_t)) rfl rfl ?_
            refine am_E.go (t2 := (357, [vR y, vI sa, vI w, vI t, vI u, vI nn, vI x, vI i, vI k, vL (c (y + 9) ((40 * t) + i)), vU, vL (c (y + 9) ((40 * u) + k)), vU, vL (pf_q (c (y + 9) (40 * u + k))), vU, vI v_t, vI (((c_t (y + 8) ((40 * t) + i)) + (c_t (y + 8) ((40 * u) + k))) + (c_t y 15))], [vI (((c_t (y + 8) ((40 * t) + i)) + (c_t (y + 8) ((40 * u) + k))) + (c_t y 15)), vI v_t, vR y], aq_h m s F c_t)) rfl rfl ?_
            refine am_E.go (t2 := (359, [vR y, vI sa, vI w, vI t, vI u, vI nn, vI x, vI i, vI k, vL (c (y + 9) ((40 * t) + i)), vU, vL (c (y + 9) ((40 * u) + k)), vU, vL (pf_q (c (y + 9) (40 * u + k))), vU, vI v_t, vI (((c_t (y + 8) ((40 * t) + i)) + (c_t (y + 8) ((40 * u) + k))) + (c_t y 15))], [vL (c (y + 9) ((40 * t) + i)), vI (((c_t (y + 8) ((40 * t) + i)) + (c_t (y + 8) ((40 * u) + k))) + (c_t y 15)), vI v_t, vR y], aq_h m s F c_t)) rfl rfl ?_
            refine am_E.go (t2 := (361, [vR y, vI sa, vI w, vI t, vI u, vI nn, vI x, vI i, vI k, vL (c (y + 9) ((40 * t) + i)), vU, vL (c (y + 9) ((40 * u) + k)), vU, vL (pf_q (c (y + 9) (40 * u + k))), vU, vI v_t, vI (((c_t (y + 8) ((40 * t) + i)) + (c_t (y + 8) ((40 * u) + k))) + (c_t y 15))], [vL (c (y + 9) ((40 * u) + k)), vL (c (y + 9) ((40 * t) + i)), vI (((c_t (y + 8) ((40 * t) + i)) + (c_t (y + 8) ((40 * u) + k))) + (c_t y 15)), vI v_t, vR y], aq_h m s F c_t)) rfl rfl ?_
            refine ae_binl (z := (c (y + 9) ((40 * t) + i)) * (c (y + 9) ((40 * u) + k))) rfl rfl (congrArg some (am_wl_id (am_rl (by omega) (by omega)))) ?_
            show am_E _ (362, [vR y, vI sa, vI w, vI t, vI u, vI nn, vI x, vI i, vI k, vL (c (y + 9) ((40 * t) + i)), vU, vL (c (y + 9) ((40 * u) + k)), vU, vL (pf_q (c (y + 9) (40 * u + k))), vU, vI v_t, vI (((c_t (y + 8) ((40 * t) + i)) + (c_t (y + 8) ((40 * u) + k))) + (c_t y 15))], [vL ((c (y + 9) ((40 * t) + i)) * (c (y + 9) ((40 * u) + k))), vI (((c_t (y + 8) ((40 * t) + i)) + (c_t (y + 8) ((40 * u) + k))) + (c_t y 15)), vI v_t, vR y], aq_h m s F c_t) _
            refine aq_callv (y := 4) (as2 := [vI v_t, vI (((c_t (y + 8) ((40 * t) + i)) + (c_t (y + 8) ((40 * u) + k))) + (c_t y 15)), vL ((c (y + 9) ((40 * t) + i)) * (c (y + 9) ((40 * u) + k)))]) (rest := []) rfl rfl (by decide) (Nat.le_of_ble_eq_true rfl) rfl rfl (Nat.le_of_ble_eq_true rfl) (by omega) hFo rfl (Nat.le_of_ble_eq_true rfl) (qx_comesJ ⟨hm, hFo, hG5, hG6, hG7, hG8, hG9, hG10, hG11, hG12, hG13, hG14, hG15, hG16, hG17, hG18, hG19, hG20, hG21, hG22, hG23⟩ (by omega) (by omega) hkf_t hpo (pf_n (by omega) (by omega))) ?_
            rintro r5 h5 ⟨c_k, rfl, s_k, v_k, rfl, q_k, r_k⟩
            show am_E _ (365, [vR y, vI sa, vI w, vI t, vI u, vI nn, vI x, vI i, vI k, vL (c (y + 9) ((40 * t) + i)), vU, vL (c (y + 9) ((40 * u) + k)), vU, vL (pf_q (c (y + 9) (40 * u + k))), vU, vI v_t, vI (((c_t (y + 8) ((40 * t) + i)) + (c_t (y + 8) ((40 * u) + k))) + (c_t y 15))], [vI v_k], aq_h m s F c_k) _
            have Q := sm_qJ2 hw he_t r_k
            have hpq := hpo
            rw [e2, e_rg, s_t (y + 8) (by omega) (40 * t + i), s_t (y + 8) (by omega) (40 * u + k), hs (y + 7) (mo_n (by decide) (by decide)) (40 * t + i), hs (y + 7) (mo_n (by decide) (by decide)) (40 * u + k), hs (y + 8) (mo_n (by decide) (by decide)) (40 * t + i), hs (y + 8) (mo_n (by decide) (by decide)) (40 * u + k), hs (y + 9) (mo_n (by decide) (by decide)) (40 * t + i), hs (y + 9) (mo_n (by decide) (by decide)) (40 * u + k)] at Q
            rw [hs (y + 9) (mo_n (by decide) (by decide)) (40 * t + i), hs (y + 9) (mo_n (by decide) (by decide)) (40 * u + k)] at hpq
            rw [hs (y + 7) (mo_n (by decide) (by decide)) (40 * t + i), hs (y + 7) (mo_n (by decide) (by decide)) (40 * u + k)] at bb
            refine ae_if0 rfl (fun (q_23 : v_k = 0) => ?_) (fun (q_23 : v_k ≠ 0) => ?_)
            · have e_t : sm_J tg (sk_ nn (c0 (y + 7) (40 * t + i)) (c0 (y + 7) (40 * u + k)) % 1000) (c0 (y + 8) (40 * t + i) + c0 (y + 8) (40 * u + k) + sk_ nn (c0 (y + 7) (40 * t + i)) (c0 (y + 7) (40 * u + k)) / 1000) (c0 (y + 9) (40 * t + i) * c0 (y + 9) (40 * u + k)) = none := by
                rcases Q with ⟨k1, k2⟩ | ⟨k1, k2⟩
                · exact k2
                · exfalso; omega
              refine am_E.go (t2 := (373, [vR y, vI sa, vI w, vI t, vI u, vI nn, vI x, vI i, vI k, vL (c (y + 9) ((40 * t) + i)), vU, vL (c (y + 9) ((40 * u) + k)), vU, vL (pf_q (c (y + 9) (40 * u + k))), vU, vI v_t, vI (((c_t (y + 8) ((40 * t) + i)) + (c_t (y + 8) ((40 * u) + k))) + (c_t y 15))], [vI 0], aq_h m s F c_k)) rfl rfl ?_
              refine am_E.go (t2 := (375, [vR y, vI sa, vI w, vI t, vI u, vI nn, vI 0, vI i, vI k, vL (c (y + 9) ((40 * t) + i)), vU, vL (c (y + 9) ((40 * u) + k)), vU, vL (pf_q (c (y + 9) (40 * u + k))), vU, vI v_t, vI (((c_t (y + 8) ((40 * t) + i)) + (c_t (y + 8) ((40 * u) + k))) + (c_t y 15))], [], aq_h m s F c_k)) rfl rfl ?_
              refine ae_iinc rfl rfl (am_ri (by omega) (by omega)) ?_
              show am_E _ (378, [vR y, vI sa, vI w, vI t, vI u, vI nn, vI 0, vI i, vI (k + 1), vL (c (y + 9) ((40 * t) + i)), vU, vL (c (y + 9) ((40 * u) + k)), vU, vL (pf_q (c (y + 9) (40 * u + k))), vU, vI v_t, vI (((c_t (y + 8) ((40 * t) + i)) + (c_t (y + 8) ((40 * u) + k))) + (c_t y 15))], [], aq_h m s F c_k) _
              refine am_E.go (t2 := (206, [vR y, vI sa, vI w, vI t, vI u, vI nn, vI 0, vI i, vI (k + 1), vL (c (y + 9) ((40 * t) + i)), vU, vL (c (y + 9) ((40 * u) + k)), vU, vL (pf_q (c (y + 9) (40 * u + k))), vU, vI v_t, vI (((c_t (y + 8) ((40 * t) + i)) + (c_t (y + 8) ((40 * u) + k))) + (c_t y 15))], [], aq_h m s F c_k)) rfl rfl ?_
              exact qx_work_i ⟨hm, hFo, hG5, hG6, hG7, hG8, hG9, hG10, hG11, hG12, hG13, hG14, hG15, hG16, hG17, hG18, hG19, hG20, hG21, hG22, hG23⟩ ⟨hT1, hTt⟩ hI hs0 hs1 ht0 ht1 hu0 hu1 hn1 hn4 hWt hWu d 0 i (k + 1) (vL (c (y + 9) ((40 * t) + i))) (vU) (vL (c (y + 9) ((40 * u) + k))) (vU) (vL (pf_q (c (y + 9) (40 * u + k)))) (vU) (vI v_t) (vI (((c_t (y + 8) ((40 * t) + i)) + (c_t (y + 8) ((40 * u) + k))) + (c_t y 15))) _ c_k (aq_smt (aq_smt hs (aq_smi s_t (fun a h => by unfold mo_S; omega))) (aq_smi s_k (fun a h => mo_S3 h))) (by omega) (by omega) (by omega) (by omega) (mo_qt (mo_qt hq (mo_qk hk_t)) q_k) (Or.inl ⟨rfl, by rw [← hT2, sp_r, if_pos (show k < c0 (y + 6) u by omega), if_pos hpg, e_t]; rfl⟩) (by omega) K0
            · obtain ⟨t2, e_t, e_w⟩ : ∃ t2, sm_J tg (sk_ nn (c0 (y + 7) (40 * t + i)) (c0 (y + 7) (40 * u + k)) % 1000) (c0 (y + 8) (40 * t + i) + c0 (y + 8) (40 * u + k) + sk_ nn (c0 (y + 7) (40 * t + i)) (c0 (y + 7) (40 * u + k)) / 1000) (c0 (y + 9) (40 * t + i) * c0 (y + 9) (40 * u + k)) = some t2 ∧ sm_e t2 (mr_v y c_k) := by
                rcases Q with ⟨k1, k2⟩ | ⟨k1, k2⟩
                · exfalso; omega
                · exact k2
              have e_u := sm_Jw e_t
              have hw2 := sm_jw hw bb.1.1 bb.1.2 (by omega) e_u.1 hpq e_u.2
              refine am_E.go (t2 := (369, [vR y, vI sa, vI w, vI t, vI u, vI nn, vI x, vI i, vI k, vL (c (y + 9) ((40 * t) + i)), vU, vL (c (y + 9) ((40 * u) + k)), vU, vL (pf_q (c (y + 9) (40 * u + k))), vU, vI v_t, vI (((c_t (y + 8) ((40 * t) + i)) + (c_t (y + 8) ((40 * u) + k))) + (c_t y 15))], [vI 1], aq_h m s F c_k)) rfl rfl ?_
              refine am_E.go (t2 := (373, [vR y, vI sa, vI w, vI t, vI u, vI nn, vI x, vI i, vI k, vL (c (y + 9) ((40 * t) + i)), vU, vL (c (y + 9) ((40 * u) + k)), vU, vL (pf_q (c (y + 9) (40 * u + k))), vU, vI v_t, vI (((c_t (y + 8) ((40 * t) + i)) + (c_t (y + 8) ((40 * u) + k))) + (c_t y 15))], [vI 1], aq_h m s F c_k)) rfl rfl ?_
              refine am_E.go (t2 := (375, [vR y, vI sa, vI w, vI t, vI u, vI nn, vI 1, vI i, vI k, vL (c (y + 9) ((40 * t) + i)), vU, vL (c (y + 9) ((40 * u) + k)), vU, vL (pf_q (c (y + 9) (40 * u + k))), vU, vI v_t, vI (((c_t (y + 8) ((40 * t) + i)) + (c_t (y + 8) ((40 * u) + k))) + (c_t y 15))], [], aq_h m s F c_k)) rfl rfl ?_
              refine ae_iinc rfl rfl (am_ri (by omega) (by omega)) ?_
              show am_E _ (378, [vR y, vI sa, vI w, vI t, vI u, vI nn, vI 1, vI i, vI (k + 1), vL (c (y + 9) ((40 * t) + i)), vU, vL (c (y + 9) ((40 * u) + k)), vU, vL (pf_q (c (y + 9) (40 * u + k))), vU, vI v_t, vI (((c_t (y + 8) ((40 * t) + i)) + (c_t (y + 8) ((40 * u) + k))) + (c_t y 15))], [], aq_h m s F c_k) _
              refine am_E.go (t2 := (206, [vR y, vI sa, vI w, vI t, vI u, vI nn, vI 1, vI i, vI (k + 1), vL (c (y + 9) ((40 * t) + i)), vU, vL (c (y + 9) ((40 * u) + k)), vU, vL (pf_q (c (y + 9) (40 * u + k))), vU, vI v_t, vI (((c_t (y + 8) ((40 * t) + i)) + (c_t (y + 8) ((40 * u) + k))) + (c_t y 15))], [], aq_h m s F c_k)) rfl rfl ?_
              exact qx_work_i ⟨hm, hFo, hG5, hG6, hG7, hG8, hG9, hG10, hG11, hG12, hG13, hG14, hG15, hG16, hG17, hG18, hG19, hG20, hG21, hG22, hG23⟩ ⟨hT1, hTt⟩ hI hs0 hs1 ht0 ht1 hu0 hu1 hn1 hn4 hWt hWu d 1 i (k + 1) (vL (c (y + 9) ((40 * t) + i))) (vU) (vL (c (y + 9) ((40 * u) + k))) (vU) (vL (pf_q (c (y + 9) (40 * u + k)))) (vU) (vI v_t) (vI (((c_t (y + 8) ((40 * t) + i)) + (c_t (y + 8) ((40 * u) + k))) + (c_t y 15))) _ c_k (aq_smt (aq_smt hs (aq_smi s_t (fun a h => by unfold mo_S; omega))) (aq_smi s_k (fun a h => mo_S3 h))) (by omega) (by omega) (by omega) (by omega) (mo_qt (mo_qt hq (mo_qk hk_t)) q_k) (Or.inr ⟨rfl, t2, hw2, e_w, by rw [← hT2, sp_r, if_pos (show k < c0 (y + 6) u by omega), if_pos hpg, e_t]; rfl⟩) (by omega) K0

theorem qx_work_o {m s : Nat} {F : aq_F} {c0 : aq_C} {y : Nat} (hO : mo_0 m F y) {tbl : Int → Int} (hT : mo_T F y tbl) (hI : mo_I y c0) {t u w nn sa : Int} (hs0 : 0 ≤ sa) (hs1 : sa < 8) (ht0 : 0 ≤ t) (ht1 : t < 8) (hu0 : 0 ≤ u) (hu1 : u < 8) (hn1 : 1 ≤ nn) (hn4 : nn ≤ 4) (hWt : sm_w (bx_K nn) (rf_v y t c0)) (hWu : sm_w (bx_K nn) (rf_v y u c0)) {T : Option sm_} : ∀ (d : Nat) (x : Int) (i : Int) (v8 : am_V) (v9 : am_V) (v10 : am_V) (v11 : am_V) (v12 : am_V) (v13 : am_V) (v14 : am_V) (v15 : am_V) (v16 : am_V) (c : aq_C) (hs : aq_sm (mo_S y) c0 c) (h0 : 0 ≤ i) (h1 : i ≤ c0 (y + 6) t) (hq : mo_q y c0 c) (hx : (x = 0 ∧ T = none) ∨ (x = 1 ∧ ∃ tg, sm_w (bx_K nn) tg ∧ sm_e tg (mr_v y c) ∧ sp_o nn (rf_v y t c0) (rf_v y u c0) d i tg = T)) (hd : c0 (y + 6) t - i < (d : Int)), am_E ac_X5_work (187, [vR y, vI sa, vI w, vI t, vI u, vI nn, vI x, vI i, v8, v9, v10, v11, v12, v13, v14, v15, v16], [], aq_h m s F c) (aq_Z m s F (fun a => y ≤ a ∧ a < y + 24) c0 (fun r d => r = some (vI (wk_z T)) ∧ mo_I y d ∧ (∀ i, i ≠ sa → d (y + 5) i = c0 (y + 5) i ∧ d (y + 6) i = c0 (y + 6) i) ∧ (∀ i, (∀ j, 0 ≤ j → j < 40 → i ≠ 40 * sa + j) → d (y + 7) i = c0 (y + 7) i ∧ d (y + 8) i = c0 (y + 8) i ∧ d (y + 9) i = c0 (y + 9) i) ∧ (∀ v, T = some v → d (y + 5) sa = nn ∧ sm_e v (rf_v y sa d)) ∧ (T = none → aq_sm (mo_S y) c0 d)))
  | 0, x, i, v8, v9, v10, v11, v12, v13, v14, v15, v16, c, hs, h0, h1, hq, hx, hd => by exfalso; omega
  | d + 1, x, i, v8, v9, v10, v11, v12, v13, v14, v15, v16, c, hs, h0, h1, hq, hx, hd => by
    obtain ⟨hm, hFo, hG5, hG6, hG7, hG8, hG9, hG10, hG11, hG12, hG13, hG14, hG15, hG16, hG17, hG18, hG19, hG20, hG21, hG22, hG23⟩ := hO
    obtain ⟨hT1, hTt⟩ := hT
    have hzt1 : 0 ≤ c0 (y + 6) t := hWt.1
    have hzt2 : c0 (y + 6) t ≤ 40 := hWt.2.1
    have hzu1 : 0 ≤ c0 (y + 6) u := hWu.1
    have hzu2 : c0 (y + 6) u ≤ 40 := hWu.2.1
    refine am_E.go (t2 := (189, [vR y, vI sa, vI w, vI t, vI u, vI nn, vI x, vI i, v8, v9, v10, v11, v12, v13, v14, v15, v16], [vI i], aq_h m s F c)) rfl rfl ?_
    refine am_E.go (t2 := (190, [vR y, vI sa, vI w, vI t, vI u, vI nn, vI x, vI i, v8, v9, v10, v11, v12, v13, v14, v15, v16], [vR y, vI i], aq_h m s F c)) rfl rfl ?_
    refine aq_gf (v := vR (y + 6)) rfl (by omega) hFo (by decide) rfl ?_
    show am_E _ (193, [vR y, vI sa, vI w, vI t, vI u, vI nn, vI x, vI i, v8, v9, v10, v11, v12, v13, v14, v15, v16], [vR (y + 6), vI i], aq_h m s F c) _
    refine am_E.go (t2 := (194, [vR y, vI sa, vI w, vI t, vI u, vI nn, vI x, vI i, v8, v9, v10, v11, v12, v13, v14, v15, v16], [vI t, vR (y + 6), vI i], aq_h m s F c)) rfl rfl ?_
    refine aq_al (ok := fun k => k == 0) (v := vI (c (y + 6) t)) rfl rfl (by omega) hG6 rfl (by omega) (by omega) rfl ?_
    show am_E _ (195, [vR y, vI sa, vI w, vI t, vI u, vI nn, vI x, vI i, v8, v9, v10, v11, v12, v13, v14, v15, v16], [vI (c (y + 6) t), vI i], aq_h m s F c) _
    have f_1 := hs (y + 6) (mo_n (by decide) (by decide)) t
    refine ae_icmp rfl (fun (q_2 : (c (y + 6) t) ≤ i) => ?_) (fun (q_2 : i < (c (y + 6) t)) => ?_)
    · refine am_E.go (t2 := (389, [vR y, vI sa, vI w, vI t, vI u, vI nn, vI x, vI i, v8, v9, v10, v11, v12, v13, v14, v15, v16], [vI x], aq_h m s F c)) rfl rfl ?_
      refine ae_if0 rfl (fun (q_3 : x = 0) => ?_) (fun (q_3 : x ≠ 0) => ?_)
      · have e_T : T = none := by
          rcases hx with ⟨k1, k2⟩ | ⟨k1, k2⟩
          · exact k2
          · exfalso; omega
        refine am_E.go (t2 := (404, [vR y, vI sa, vI w, vI t, vI u, vI nn, vI x, vI i, v8, v9, v10, v11, v12, v13, v14, v15, v16], [vI (-5)], aq_h m s F c)) rfl rfl ?_
        refine am_E.ret rfl rfl ?_
        rw [e_T]
        exact ⟨_, rfl, aq_smi hs (fun a h => mo_Sa h), rfl, mo_Iw hI hs hq, fun i _ => ⟨hs (y + 5) (mo_n (by decide) (by decide)) _, hs (y + 6) (mo_n (by decide) (by decide)) _⟩, fun i _ => ⟨hs (y + 7) (mo_n (by decide) (by decide)) _, hs (y + 8) (mo_n (by decide) (by decide)) _, hs (y + 9) (mo_n (by decide) (by decide)) _⟩, fun v q => absurd q (by simp), fun _ => hs⟩
      · obtain ⟨hx1, tg, hw, he, hT2⟩ : x = 1 ∧ ∃ tg, sm_w (bx_K nn) tg ∧ sm_e tg (mr_v y c) ∧ sp_o nn (rf_v y t c0) (rf_v y u c0) (d + 1) i tg = T := by
          rcases hx with ⟨k1, k2⟩ | k2
          · exfalso; omega
          · exact k2
        have z0 : tg.1 = c y 17 := he.1
        have w0 := hw.1
        have w1 := hw.2.1
        have hkf : ∀ i, 0 ≤ i → i < c y 17 → sm_ok (c (y + 17) i) := fun i i0 i1 => by
          have k9 := (hw.2.2.1 i i0 (by omega)).2.2.1
          rw [(he.2 i i0 (by omega)).2.2] at k9
          exact k9
        have e_T : T = some tg := by rw [← hT2, sp_q, if_neg (show ¬ i < c0 (y + 6) t by omega)]
        refine am_E.go (t2 := (393, [vR y, vI sa, vI w, vI t, vI u, vI nn, vI x, vI i, v8, v9, v10, v11, v12, v13, v14, v15, v16], [vR y], aq_h m s F c)) rfl rfl ?_
        refine am_E.go (t2 := (394, [vR y, vI sa, vI w, vI t, vI u, vI nn, vI x, vI i, v8, v9, v10, v11, v12, v13, v14, v15, v16], [vI sa, vR y], aq_h m s F c)) rfl rfl ?_
        refine am_E.go (t2 := (396, [vR y, vI sa, vI w, vI t, vI u, vI nn, vI x, vI i, v8, v9, v10, v11, v12, v13, v14, v15, v16], [vI nn, vI sa, vR y], aq_h m s F c)) rfl rfl ?_
        refine aq_callv (y := 3) (as2 := [vI sa, vI nn]) (rest := []) rfl rfl (by decide) (Nat.le_of_ble_eq_true rfl) rfl rfl (Nat.le_of_ble_eq_true rfl) (by omega) hFo rfl (Nat.le_of_ble_eq_true rfl) (qx_store ⟨hm, hFo, hG5, hG6, hG7, hG8, hG9, hG10, hG11, hG12, hG13, hG14, hG15, hG16, hG17, hG18, hG19, hG20, hG21, hG22, hG23⟩ (by omega) (by omega) hn1 hn4 (mo_Iw hI hs hq) (sm_mr hw he)) ?_
        rintro r5 h5 ⟨c_b, rfl, s_b, rfl, hI_b, b5, b6, b7, b8⟩
        show am_E _ (399, [vR y, vI sa, vI w, vI t, vI u, vI nn, vI x, vI i, v8, v9, v10, v11, v12, v13, v14, v15, v16], [vI (c y 17)], aq_h m s F c_b) _
        refine am_E.go (t2 := (404, [vR y, vI sa, vI w, vI t, vI u, vI nn, vI x, vI i, v8, v9, v10, v11, v12, v13, v14, v15, v16], [vI (c y 17)], aq_h m s F c_b)) rfl rfl ?_
        refine am_E.ret rfl rfl ?_
        rw [e_T]
        refine ⟨_, rfl, (aq_smt (aq_smi hs (fun a h => mo_Sa h)) (aq_smi s_b (fun a h => by omega))), ?_, hI_b, fun i hi => ⟨by rw [b5 i, if_neg hi, hs (y + 5) (mo_n (by decide) (by decide)) _], by rw [b6 i hi, hs (y + 6) (mo_n (by decide) (by decide)) _]⟩, fun i hi => ⟨by rw [(b8 i hi).1, hs (y + 7) (mo_n (by decide) (by decide)) _], by rw [(b8 i hi).2.1, hs (y + 8) (mo_n (by decide) (by decide)) _], by rw [(b8 i hi).2.2, hs (y + 9) (mo_n (by decide) (by decide)) _]⟩, fun v q => ?_, fun q => absurd q (by simp)⟩
        · exact congrArg (fun z => some (vI z)) z0.symm
        · obtain rfl := Option.some.inj q
          exact ⟨by rw [b5 sa, if_pos rfl], sm_et he b7⟩
    · refine am_E.go (t2 := (200, [vR y, vI sa, vI w, vI t, vI u, vI nn, vI x, vI i, v8, v9, v10, v11, v12, v13, v14, v15, v16], [vI x], aq_h m s F c)) rfl rfl ?_
      refine ae_if0 rfl (fun (q_4 : x = 0) => ?_) (fun (q_4 : x ≠ 0) => ?_)
      · refine am_E.go (t2 := (389, [vR y, vI sa, vI w, vI t, vI u, vI nn, vI x, vI i, v8, v9, v10, v11, v12, v13, v14, v15, v16], [vI x], aq_h m s F c)) rfl rfl ?_
        refine ae_if0 rfl (fun (q_5 : x = 0) => ?_) (fun (q_5 : x ≠ 0) => ?_)
        · have e_T : T = none := by
            rcases hx with ⟨k1, k2⟩ | ⟨k1, k2⟩
            · exact k2
            · exfalso; omega
          refine am_E.go (t2 := (404, [vR y, vI sa, vI w, vI t, vI u, vI nn, vI x, vI i, v8, v9, v10, v11, v12, v13, v14, v15, v16], [vI (-5)], aq_h m s F c)) rfl rfl ?_
          refine am_E.ret rfl rfl ?_
          rw [e_T]
          exact ⟨_, rfl, aq_smi hs (fun a h => mo_Sa h), rfl, mo_Iw hI hs hq, fun i _ => ⟨hs (y + 5) (mo_n (by decide) (by decide)) _, hs (y + 6) (mo_n (by decide) (by decide)) _⟩, fun i _ => ⟨hs (y + 7) (mo_n (by decide) (by decide)) _, hs (y + 8) (mo_n (by decide) (by decide)) _, hs (y + 9) (mo_n (by decide) (by decide)) _⟩, fun v q => absurd q (by simp), fun _ => hs⟩
        · obtain ⟨hx1, tg, hw, he, hT2⟩ : x = 1 ∧ ∃ tg, sm_w (bx_K nn) tg ∧ sm_e tg (mr_v y c) ∧ sp_o nn (rf_v y t c0) (rf_v y u c0) (d + 1) i tg = T := by
            rcases hx with ⟨k1, k2⟩ | k2
            · exfalso; omega
            · exact k2
          have z0 : tg.1 = c y 17 := he.1
          have w0 := hw.1
          have w1 := hw.2.1
          have hkf : ∀ i, 0 ≤ i → i < c y 17 → sm_ok (c (y + 17) i) := fun i i0 i1 => by
            have k9 := (hw.2.2.1 i i0 (by omega)).2.2.1
            rw [(he.2 i i0 (by omega)).2.2] at k9
            exact k9
          have e_T : T = some tg := by rw [← hT2, sp_q, if_neg (show ¬ i < c0 (y + 6) t by omega)]
          refine am_E.go (t2 := (393, [vR y, vI sa, vI w, vI t, vI u, vI nn, vI x, vI i, v8, v9, v10, v11, v12, v13, v14, v15, v16], [vR y], aq_h m s F c)) rfl rfl ?_
          refine am_E.go (t2 := (394, [vR y, vI sa, vI w, vI t, vI u, vI nn, vI x, vI i, v8, v9, v10, v11, v12, v13, v14, v15, v16], [vI sa, vR y], aq_h m s F c)) rfl rfl ?_
          refine am_E.go (t2 := (396, [vR y, vI sa, vI w, vI t, vI u, vI nn, vI x, vI i, v8, v9, v10, v11, v12, v13, v14, v15, v16], [vI nn, vI sa, vR y], aq_h m s F c)) rfl rfl ?_
          refine aq_callv (y := 3) (as2 := [vI sa, vI nn]) (rest := []) rfl rfl (by decide) (Nat.le_of_ble_eq_true rfl) rfl rfl (Nat.le_of_ble_eq_true rfl) (by omega) hFo rfl (Nat.le_of_ble_eq_true rfl) (qx_store ⟨hm, hFo, hG5, hG6, hG7, hG8, hG9, hG10, hG11, hG12, hG13, hG14, hG15, hG16, hG17, hG18, hG19, hG20, hG21, hG22, hG23⟩ (by omega) (by omega) hn1 hn4 (mo_Iw hI hs hq) (sm_mr hw he)) ?_
          rintro r5 h5 ⟨c_b, rfl, s_b, rfl, hI_b, b5, b6, b7, b8⟩
          show am_E _ (399, [vR y, vI sa, vI w, vI t, vI u, vI nn, vI x, vI i, v8, v9, v10, v11, v12, v13, v14, v15, v16], [vI (c y 17)], aq_h m s F c_b) _
          refine am_E.go (t2 := (404, [vR y, vI sa, vI w, vI t, vI u, vI nn, vI x, vI i, v8, v9, v10, v11, v12, v13, v14, v15, v16], [vI (c y 17)], aq_h m s F c_b)) rfl rfl ?_
          refine am_E.ret rfl rfl ?_
          rw [e_T]
          refine ⟨_, rfl, (aq_smt (aq_smi hs (fun a h => mo_Sa h)) (aq_smi s_b (fun a h => by omega))), ?_, hI_b, fun i hi => ⟨by rw [b5 i, if_neg hi, hs (y + 5) (mo_n (by decide) (by decide)) _], by rw [b6 i hi, hs (y + 6) (mo_n (by decide) (by decide)) _]⟩, fun i hi => ⟨by rw [(b8 i hi).1, hs (y + 7) (mo_n (by decide) (by decide)) _], by rw [(b8 i hi).2.1, hs (y + 8) (mo_n (by decide) (by decide)) _], by rw [(b8 i hi).2.2, hs (y + 9) (mo_n (by decide) (by decide)) _]⟩, fun v q => ?_, fun q => absurd q (by simp)⟩
          · exact congrArg (fun z => some (vI z)) z0.symm
          · obtain rfl := Option.some.inj q
            exact ⟨by rw [b5 sa, if_pos rfl], sm_et he b7⟩
      · obtain ⟨hx1, tg, hw, he, hT2⟩ : x = 1 ∧ ∃ tg, sm_w (bx_K nn) tg ∧ sm_e tg (mr_v y c) ∧ sp_o nn (rf_v y t c0) (rf_v y u c0) (d + 1) i tg = T := by
          rcases hx with ⟨k1, k2⟩ | k2
          · exfalso; omega
          · exact k2
        have z0 : tg.1 = c y 17 := he.1
        have w0 := hw.1
        have w1 := hw.2.1
        have hkf : ∀ i, 0 ≤ i → i < c y 17 → sm_ok (c (y + 17) i) := fun i i0 i1 => by
          have k9 := (hw.2.2.1 i i0 (by omega)).2.2.1
          rw [(he.2 i i0 (by omega)).2.2] at k9
          exact k9
        refine am_E.go (t2 := (204, [vR y, vI sa, vI w, vI t, vI u, vI nn, vI x, vI i, v8, v9, v10, v11, v12, v13, v14, v15, v16], [vI 0], aq_h m s F c)) rfl rfl ?_
        refine am_E.go (t2 := (206, [vR y, vI sa, vI w, vI t, vI u, vI nn, vI x, vI i, vI 0, v9, v10, v11, v12, v13, v14, v15, v16], [], aq_h m s F c)) rfl rfl ?_
        refine qx_work_i ⟨hm, hFo, hG5, hG6, hG7, hG8, hG9, hG10, hG11, hG12, hG13, hG14, hG15, hG16, hG17, hG18, hG19, hG20, hG21, hG22, hG23⟩ ⟨hT1, hTt⟩ hI hs0 hs1 ht0 ht1 hu0 hu1 hn1 hn4 hWt hWu 41 x i 0 (v9) (v10) (v11) (v12) (v13) (v14) (v15) (v16) _ c hs (by omega) (by omega) (by omega) (by omega) hq (Or.inr ⟨hx1, tg, hw, he, rfl⟩) (by omega) ?_
        · intro x2_206 k2_206 v92_206 v102_206 v112_206 v122_206 v132_206 v142_206 v152_206 v162_206 c_6 sc_6 hq2_206 hx2_206
          refine ae_iinc rfl rfl (am_ri (by omega) (by omega)) ?_
          show am_E _ (384, [vR y, vI sa, vI w, vI t, vI u, vI nn, vI x2_206, vI (i + 1), vI k2_206, v92_206, v102_206, v112_206, v122_206, v132_206, v142_206, v152_206, v162_206], [], aq_h m s F c_6) _
          refine am_E.go (t2 := (187, [vR y, vI sa, vI w, vI t, vI u, vI nn, vI x2_206, vI (i + 1), vI k2_206, v92_206, v102_206, v112_206, v122_206, v132_206, v142_206, v152_206, v162_206], [], aq_h m s F c_6)) rfl rfl ?_
          exact qx_work_o ⟨hm, hFo, hG5, hG6, hG7, hG8, hG9, hG10, hG11, hG12, hG13, hG14, hG15, hG16, hG17, hG18, hG19, hG20, hG21, hG22, hG23⟩ ⟨hT1, hTt⟩ hI hs0 hs1 ht0 ht1 hu0 hu1 hn1 hn4 hWt hWu d x2_206 (i + 1) (vI k2_206) (v92_206) (v102_206) (v112_206) (v122_206) (v132_206) (v142_206) (v152_206) (v162_206) c_6 sc_6 (by omega) (by omega) hq2_206 (by
      rcases hx2_206 with ⟨k1, k2⟩ | ⟨k1, tg2, k2, k3, k4⟩
      · exact Or.inl ⟨k1, by rw [← hT2, sp_q, if_pos (show i < c0 (y + 6) t by omega), k2]; rfl⟩
      · exact Or.inr ⟨k1, tg2, k2, k3, by rw [← hT2, sp_q, if_pos (show i < c0 (y + 6) t by omega), k4]; rfl⟩) (by omega)

theorem qx_X5_work {m s : Nat} {F : aq_F} {c : aq_C} {y : Nat} (hC : mo_C m F y) (hI : mo_I y c) {sa w t u : Int} (hWs : ∀ x : Int, 0 ≤ x → x < 8 → sm_w (bx_K (c (y + 5) x)) (rf_v y x c)) : am_E ac_X5_work (0, [vR y, vI sa, vI w, vI t, vI u, vU, vU, vU, vU, vU, vU, vU, vU, vU, vU, vU, vU], [], aq_h m s F c) (aq_Z m s F (fun a => y ≤ a ∧ a < y + 24) c (fun r d => r = some (vI (wk_a (c (y + 5) t) (c (y + 5) u) (rf_v y t c) (rf_v y u c) sa w t u)) ∧ mo_I y d ∧ (∀ i, i ≠ sa → d (y + 5) i = c (y + 5) i ∧ d (y + 6) i = c (y + 6) i) ∧ (∀ i, (∀ j, 0 ≤ j → j < 40 → i ≠ 40 * sa + j) → d (y + 7) i = c (y + 7) i ∧ d (y + 8) i = c (y + 8) i ∧ d (y + 9) i = c (y + 9) i) ∧ (∀ v, (wk_k sa w t u ∧ c (y + 5) t = c (y + 5) u) → wk_o (c (y + 5) t) w (rf_v y t c) (rf_v y u c) = some v → d (y + 5) sa = c (y + 5) t ∧ sm_e v (rf_v y sa d)) ∧ (((wk_k sa w t u ∧ c (y + 5) t = c (y + 5) u) → wk_o (c (y + 5) t) w (rf_v y t c) (rf_v y u c) = none) → aq_sm (mo_S y) c d))) := by
  obtain ⟨⟨hm, hFo, hG5, hG6, hG7, hG8, hG9, hG10, hG11, hG12, hG13, hG14, hG15, hG16, hG17, hG18, hG19, hG20, hG21, hG22, hG23⟩, ⟨tbl, hT1, hTt⟩, ⟨tA, tB, tD, hL1, hL2, hL3, hLt⟩⟩ := hC
  refine am_E.go (t2 := (1, [vR y, vI sa, vI w, vI t, vI u, vU, vU, vU, vU, vU, vU, vU, vU, vU, vU, vU, vU], [vI sa], aq_h m s F c)) rfl rfl ?_
  refine am_E.call rfl rfl rfl (Nat.le_of_ble_eq_true rfl) (qm_isSum) ?_
  rintro r5 h5 ⟨rfl, v_1, rfl, hv_1⟩
  show am_E _ (4, [vR y, vI sa, vI w, vI t, vI u, vU, vU, vU, vU, vU, vU, vU, vU, vU, vU, vU, vU], [vI v_1], aq_h m s F c) _
  refine ae_if0 rfl (fun (q_2 : v_1 = 0) => ?_) (fun (q_2 : v_1 ≠ 0) => ?_)
  · refine am_E.go (t2 := (35, [vR y, vI sa, vI w, vI t, vI u, vU, vU, vU, vU, vU, vU, vU, vU, vU, vU, vU, vU], [vI (-1)], aq_h m s F c)) rfl rfl ?_
    refine am_E.ret rfl rfl ?_
    refine ⟨_, rfl, aq_sm0, ?_, hI, fun _ _ => ⟨rfl, rfl⟩, fun _ _ => ⟨rfl, rfl, rfl⟩, fun v q => absurd q.1 (by unfold wk_k; omega), fun _ _ _ _ => rfl⟩
    unfold wk_a
    rw [if_neg (by unfold wk_k; omega)]
  · refine am_E.go (t2 := (8, [vR y, vI sa, vI w, vI t, vI u, vU, vU, vU, vU, vU, vU, vU, vU, vU, vU, vU, vU], [vI w], aq_h m s F c)) rfl rfl ?_
    refine am_E.go (t2 := (9, [vR y, vI sa, vI w, vI t, vI u, vU, vU, vU, vU, vU, vU, vU, vU, vU, vU, vU, vU], [vL w], aq_h m s F c)) rfl rfl ?_
    refine am_E.go (t2 := (10, [vR y, vI sa, vI w, vI t, vI u, vU, vU, vU, vU, vU, vU, vU, vU, vU, vU, vU, vU], [vL 0, vL w], aq_h m s F c)) rfl rfl ?_
    refine am_E.go (t2 := (13, [vR y, vI sa, vI w, vI t, vI u, vU, vU, vU, vU, vU, vU, vU, vU, vU, vU, vU, vU], [vL 2, vL 0, vL w], aq_h m s F c)) rfl rfl ?_
    refine am_E.call rfl rfl rfl (Nat.le_of_ble_eq_true rfl) (qm_in) ?_
    rintro r5 h5 ⟨rfl, v_3, rfl, hv_3⟩
    show am_E _ (16, [vR y, vI sa, vI w, vI t, vI u, vU, vU, vU, vU, vU, vU, vU, vU, vU, vU, vU, vU], [vI v_3], aq_h m s F c) _
    refine ae_if0 rfl (fun (q_4 : v_3 = 0) => ?_) (fun (q_4 : v_3 ≠ 0) => ?_)
    · refine am_E.go (t2 := (35, [vR y, vI sa, vI w, vI t, vI u, vU, vU, vU, vU, vU, vU, vU, vU, vU, vU, vU, vU], [vI (-1)], aq_h m s F c)) rfl rfl ?_
      refine am_E.ret rfl rfl ?_
      refine ⟨_, rfl, aq_sm0, ?_, hI, fun _ _ => ⟨rfl, rfl⟩, fun _ _ => ⟨rfl, rfl, rfl⟩, fun v q => absurd q.1 (by unfold wk_k; omega), fun _ _ _ _ => rfl⟩
      unfold wk_a
      rw [if_neg (by unfold wk_k; omega)]
    · refine am_E.go (t2 := (20, [vR y, vI sa, vI w, vI t, vI u, vU, vU, vU, vU, vU, vU, vU, vU, vU, vU, vU, vU], [vI t], aq_h m s F c)) rfl rfl ?_
      refine am_E.call rfl rfl rfl (Nat.le_of_ble_eq_true rfl) (qm_isSum) ?_
      rintro r5 h5 ⟨rfl, v_5, rfl, hv_5⟩
      show am_E _ (23, [vR y, vI sa, vI w, vI t, vI u, vU, vU, vU, vU, vU, vU, vU, vU, vU, vU, vU, vU], [vI v_5], aq_h m s F c) _
      refine ae_if0 rfl (fun (q_6 : v_5 = 0) => ?_) (fun (q_6 : v_5 ≠ 0) => ?_)
      · refine am_E.go (t2 := (35, [vR y, vI sa, vI w, vI t, vI u, vU, vU, vU, vU, vU, vU, vU, vU, vU, vU, vU, vU], [vI (-1)], aq_h m s F c)) rfl rfl ?_
        refine am_E.ret rfl rfl ?_
        refine ⟨_, rfl, aq_sm0, ?_, hI, fun _ _ => ⟨rfl, rfl⟩, fun _ _ => ⟨rfl, rfl, rfl⟩, fun v q => absurd q.1 (by unfold wk_k; omega), fun _ _ _ _ => rfl⟩
        unfold wk_a
        rw [if_neg (by unfold wk_k; omega)]
      · refine am_E.go (t2 := (28, [vR y, vI sa, vI w, vI t, vI u, vU, vU, vU, vU, vU, vU, vU, vU, vU, vU, vU, vU], [vI u], aq_h m s F c)) rfl rfl ?_
        refine am_E.call rfl rfl rfl (Nat.le_of_ble_eq_true rfl) (qm_isSum) ?_
        rintro r5 h5 ⟨rfl, v_7, rfl, hv_7⟩
        show am_E _ (31, [vR y, vI sa, vI w, vI t, vI u, vU, vU, vU, vU, vU, vU, vU, vU, vU, vU, vU, vU], [vI v_7], aq_h m s F c) _
        refine ae_if0 rfl (fun (q_8 : v_7 ≠ 0) => ?_) (fun (q_8 : v_7 = 0) => ?_)
        · refine am_E.go (t2 := (37, [vR y, vI sa, vI w, vI t, vI u, vU, vU, vU, vU, vU, vU, vU, vU, vU, vU, vU, vU], [vR y], aq_h m s F c)) rfl rfl ?_
          refine aq_gf (v := vR (y + 5)) rfl (by omega) hFo (by decide) rfl ?_
          show am_E _ (40, [vR y, vI sa, vI w, vI t, vI u, vU, vU, vU, vU, vU, vU, vU, vU, vU, vU, vU, vU], [vR (y + 5)], aq_h m s F c) _
          refine am_E.go (t2 := (41, [vR y, vI sa, vI w, vI t, vI u, vU, vU, vU, vU, vU, vU, vU, vU, vU, vU, vU, vU], [vI t, vR (y + 5)], aq_h m s F c)) rfl rfl ?_
          refine aq_al (ok := fun k => k == 0) (v := vI (c (y + 5) t)) rfl rfl (by omega) hG5 rfl (by omega) (by omega) rfl ?_
          show am_E _ (42, [vR y, vI sa, vI w, vI t, vI u, vU, vU, vU, vU, vU, vU, vU, vU, vU, vU, vU, vU], [vI (c (y + 5) t)], aq_h m s F c) _
          obtain ⟨hu1t, hu2t, hu3t, hu4t, hu5t⟩ := hI.2 t (by omega) (by omega)
          refine am_E.go (t2 := (43, [vR y, vI sa, vI w, vI t, vI u, vU, vU, vU, vU, vU, vU, vU, vU, vU, vU, vU, vU], [vR y, vI (c (y + 5) t)], aq_h m s F c)) rfl rfl ?_
          refine aq_gf (v := vR (y + 5)) rfl (by omega) hFo (by decide) rfl ?_
          show am_E _ (46, [vR y, vI sa, vI w, vI t, vI u, vU, vU, vU, vU, vU, vU, vU, vU, vU, vU, vU, vU], [vR (y + 5), vI (c (y + 5) t)], aq_h m s F c) _
          refine am_E.go (t2 := (48, [vR y, vI sa, vI w, vI t, vI u, vU, vU, vU, vU, vU, vU, vU, vU, vU, vU, vU, vU], [vI u, vR (y + 5), vI (c (y + 5) t)], aq_h m s F c)) rfl rfl ?_
          refine aq_al (ok := fun k => k == 0) (v := vI (c (y + 5) u)) rfl rfl (by omega) hG5 rfl (by omega) (by omega) rfl ?_
          show am_E _ (49, [vR y, vI sa, vI w, vI t, vI u, vU, vU, vU, vU, vU, vU, vU, vU, vU, vU, vU, vU], [vI (c (y + 5) u), vI (c (y + 5) t)], aq_h m s F c) _
          obtain ⟨hu1u, hu2u, hu3u, hu4u, hu5u⟩ := hI.2 u (by omega) (by omega)
          refine ae_icmp rfl (fun (q_11 : (c (y + 5) t) = (c (y + 5) u)) => ?_) (fun (q_11 : (c (y + 5) t) ≠ (c (y + 5) u)) => ?_)
          · have h_eq : c (y + 5) t = c (y + 5) u := by omega
            have hWt := hWs t (by omega) (by omega)
            have hWu : sm_w (bx_K (c (y + 5) t)) (rf_v y u c) := by rw [h_eq]; exact hWs u (by omega) (by omega)
            refine am_E.go (t2 := (56, [vR y, vI sa, vI w, vI t, vI u, vU, vU, vU, vU, vU, vU, vU, vU, vU, vU, vU, vU], [vR y], aq_h m s F c)) rfl rfl ?_
            refine aq_gf (v := vR (y + 5)) rfl (by omega) hFo (by decide) rfl ?_
            show am_E _ (59, [vR y, vI sa, vI w, vI t, vI u, vU, vU, vU, vU, vU, vU, vU, vU, vU, vU, vU, vU], [vR (y + 5)], aq_h m s F c) _
            refine am_E.go (t2 := (60, [vR y, vI sa, vI w, vI t, vI u, vU, vU, vU, vU, vU, vU, vU, vU, vU, vU, vU, vU], [vI t, vR (y + 5)], aq_h m s F c)) rfl rfl ?_
            refine aq_al (ok := fun k => k == 0) (v := vI (c (y + 5) t)) rfl rfl (by omega) hG5 rfl (by omega) (by omega) rfl ?_
            show am_E _ (61, [vR y, vI sa, vI w, vI t, vI u, vU, vU, vU, vU, vU, vU, vU, vU, vU, vU, vU, vU], [vI (c (y + 5) t)], aq_h m s F c) _
            obtain ⟨hu1t, hu2t, hu3t, hu4t, hu5t⟩ := hI.2 t (by omega) (by omega)
            refine am_E.go (t2 := (63, [vR y, vI sa, vI w, vI t, vI u, vI (c (y + 5) t), vU, vU, vU, vU, vU, vU, vU, vU, vU, vU, vU], [], aq_h m s F c)) rfl rfl ?_
            refine am_E.go (t2 := (64, [vR y, vI sa, vI w, vI t, vI u, vI (c (y + 5) t), vU, vU, vU, vU, vU, vU, vU, vU, vU, vU, vU], [vI 1], aq_h m s F c)) rfl rfl ?_
            refine am_E.go (t2 := (66, [vR y, vI sa, vI w, vI t, vI u, vI (c (y + 5) t), vI 1, vU, vU, vU, vU, vU, vU, vU, vU, vU, vU], [], aq_h m s F c)) rfl rfl ?_
            refine am_E.go (t2 := (67, [vR y, vI sa, vI w, vI t, vI u, vI (c (y + 5) t), vI 1, vU, vU, vU, vU, vU, vU, vU, vU, vU, vU], [vI w], aq_h m s F c)) rfl rfl ?_
            refine am_E.go (t2 := (68, [vR y, vI sa, vI w, vI t, vI u, vI (c (y + 5) t), vI 1, vU, vU, vU, vU, vU, vU, vU, vU, vU, vU], [vI 2, vI w], aq_h m s F c)) rfl rfl ?_
            refine ae_icmp rfl (fun (q_13 : 2 ≤ w) => ?_) (fun (q_13 : w < 2) => ?_)
            · refine am_E.go (t2 := (180, [vR y, vI sa, vI w, vI t, vI u, vI (c (y + 5) t), vI 1, vU, vU, vU, vU, vU, vU, vU, vU, vU, vU], [vR y], aq_h m s F c)) rfl rfl ?_
              refine am_E.go (t2 := (181, [vR y, vI sa, vI w, vI t, vI u, vI (c (y + 5) t), vI 1, vU, vU, vU, vU, vU, vU, vU, vU, vU, vU], [vI 0, vR y], aq_h m s F c)) rfl rfl ?_
              refine aq_pf rfl (by omega) hFo (by decide) rfl rfl ?_
              show am_E _ (184, [vR y, vI sa, vI w, vI t, vI u, vI (c (y + 5) t), vI 1, vU, vU, vU, vU, vU, vU, vU, vU, vU, vU], [], aq_h m s F (aq_u c y 17 0)) _
              generalize hdc_14 : aq_u c y 17 0 = c_14
              have sc_14 := aq_smu (aq_sm0 (c := c) (S := mo_S y)) hdc_14 mo_S0
              have q_z : mo_q y c c_14 := mo_qu mo_q0 hdc_14 (Or.inr (by decide))
              have e_z : c_14 y 17 = 0 := by rw [← hdc_14, aq_us]
              refine am_E.go (t2 := (185, [vR y, vI sa, vI w, vI t, vI u, vI (c (y + 5) t), vI 1, vU, vU, vU, vU, vU, vU, vU, vU, vU, vU], [vI 0], aq_h m s F c_14)) rfl rfl ?_
              refine am_E.go (t2 := (187, [vR y, vI sa, vI w, vI t, vI u, vI (c (y + 5) t), vI 1, vI 0, vU, vU, vU, vU, vU, vU, vU, vU, vU], [], aq_h m s F c_14)) rfl rfl ?_
              have ew : wk_o (c (y + 5) t) w (rf_v y t c) (rf_v y u c) = sp_o (c (y + 5) t) (rf_v y t c) (rf_v y u c) 41 0 sm_0 := by unfold wk_o; rw [if_pos (by omega)]
              have sc := sp_oc (n := c (y + 5) t) (by omega) (by omega) hWt sm_er hWu sm_er 41 0 sm_0 (mr_v y c_14) (by omega) (sm_w0 rfl) (sm_e0 rfl e_z)
              refine am_E.imp (qx_work_o ⟨hm, hFo, hG5, hG6, hG7, hG8, hG9, hG10, hG11, hG12, hG13, hG14, hG15, hG16, hG17, hG18, hG19, hG20, hG21, hG22, hG23⟩ ⟨hT1, hTt⟩ hI (by omega) (by omega) (by omega) (by omega) (by omega) (by omega) (by omega) (by omega) hWt hWu 41 1 0 (vU) (vU) (vU) (vU) (vU) (vU) (vU) (vU) (vU) c_14 sc_14 (by omega) (by omega) q_z (Or.inr ⟨rfl, mr_v y c_14, sm_w0 e_z, sm_er, rfl⟩) (by omega)) ?_
              rintro r5 h5 ⟨d5, e5, s5, a1, a2, a3, a4, a5, a6⟩
              rw [← ew] at sc
              have ewa : wk_a (c (y + 5) t) (c (y + 5) u) (rf_v y t c) (rf_v y u c) sa w t u = wk_z (wk_o (c (y + 5) t) w (rf_v y t c) (rf_v y u c)) := by unfold wk_a; rw [if_pos (by unfold wk_k; omega), if_pos h_eq]
              refine ⟨d5, e5, s5, by rw [ewa, rox_z sc.1]; exact a1, a2, a3, a4, fun v q q2 => ?_, fun q => ?_⟩
              · rcases sc.1 with ⟨h1, h2⟩ | ⟨x1, x2, h1, h2, h3⟩
                · rw [h1] at q2
                  exact absurd q2 (by simp)
                · rw [h1] at q2
                  obtain rfl := Option.some.inj q2
                  have k := a5 x2 h2
                  exact ⟨k.1, sm_et h3 k.2⟩
              · have q9 := q ⟨by unfold wk_k; omega, h_eq⟩
                rcases sc.1 with ⟨h1, h2⟩ | ⟨x1, x2, h1, h2, h3⟩
                · exact a6 h2
                · rw [h1] at q9
                  exact absurd q9 (by simp)
            · refine am_E.go (t2 := (72, [vR y, vI sa, vI w, vI t, vI u, vI (c (y + 5) t), vI 1, vU, vU, vU, vU, vU, vU, vU, vU, vU, vU], [vR y], aq_h m s F c)) rfl rfl ?_
              refine am_E.go (t2 := (73, [vR y, vI sa, vI w, vI t, vI u, vI (c (y + 5) t), vI 1, vU, vU, vU, vU, vU, vU, vU, vU, vU, vU], [vI t, vR y], aq_h m s F c)) rfl rfl ?_
              refine aq_callv (y := 2) (as2 := [vI t]) (rest := []) rfl rfl (by decide) (Nat.le_of_ble_eq_true rfl) rfl rfl (Nat.le_of_ble_eq_true rfl) (by omega) hFo rfl (Nat.le_of_ble_eq_true rfl) (qx_load ⟨hm, hFo, hG5, hG6, hG7, hG8, hG9, hG10, hG11, hG12, hG13, hG14, hG15, hG16, hG17, hG18, hG19, hG20, hG21, hG22, hG23⟩ (by omega) (by omega) (by omega) (by omega)) ?_
              rintro r5 h5 ⟨c_l, rfl, s_l, rfl, q_l, L_l⟩
              show am_E _ (76, [vR y, vI sa, vI w, vI t, vI u, vI (c (y + 5) t), vI 1, vU, vU, vU, vU, vU, vU, vU, vU, vU, vU], [], aq_h m s F c_l) _
              refine am_E.go (t2 := (77, [vR y, vI sa, vI w, vI t, vI u, vI (c (y + 5) t), vI 1, vU, vU, vU, vU, vU, vU, vU, vU, vU, vU], [vI 0], aq_h m s F c_l)) rfl rfl ?_
              refine am_E.go (t2 := (79, [vR y, vI sa, vI w, vI t, vI u, vI (c (y + 5) t), vI 1, vI 0, vU, vU, vU, vU, vU, vU, vU, vU, vU], [], aq_h m s F c_l)) rfl rfl ?_
              have ew : wk_o (c (y + 5) t) w (rf_v y t c) (rf_v y u c) = sj_ (rf_v y u c) (if w = 0 then 1 else -1) 41 0 (rf_v y t c) := by unfold wk_o; rw [if_neg (by omega)]
              refine am_E.imp (qx_work_a ⟨hm, hFo, hG5, hG6, hG7, hG8, hG9, hG10, hG11, hG12, hG13, hG14, hG15, hG16, hG17, hG18, hG19, hG20, hG21, hG22, hG23⟩ ⟨hT1, hTt⟩ hI (by omega) (by omega) (by omega) (by omega) (by omega) (by omega) (by omega) (by omega) hWt hWu (g := if w = 0 then 1 else -1) (by split <;> omega) 41 1 0 (vU) (vU) (vU) (vU) (vU) (vU) (vU) (vU) (vU) c_l (aq_smt (aq_sm0 (c := c) (S := mo_S y)) (aq_smi s_l (fun a h => mo_S3 h))) (by omega) (by omega) q_l (Or.inr ⟨rfl, rf_v y t c, hWt, L_l, ew.symm⟩) (by omega)) ?_
              rintro r5 h5 ⟨d5, e5, s5, a1, a2, a3, a4, a5, a6⟩
              have ewa : wk_a (c (y + 5) t) (c (y + 5) u) (rf_v y t c) (rf_v y u c) sa w t u = wk_z (wk_o (c (y + 5) t) w (rf_v y t c) (rf_v y u c)) := by unfold wk_a; rw [if_pos (by unfold wk_k; omega), if_pos h_eq]
              exact ⟨d5, e5, s5, by rw [ewa]; exact a1, a2, a3, a4, fun v q q2 => a5 v q2, fun q => a6 (q ⟨by unfold wk_k; omega, h_eq⟩)⟩
          · refine am_E.go (t2 := (54, [vR y, vI sa, vI w, vI t, vI u, vU, vU, vU, vU, vU, vU, vU, vU, vU, vU, vU, vU], [vI (-2)], aq_h m s F c)) rfl rfl ?_
            refine am_E.ret rfl rfl ?_
            refine ⟨_, rfl, aq_sm0, ?_, hI, fun _ _ => ⟨rfl, rfl⟩, fun _ _ => ⟨rfl, rfl, rfl⟩, fun v q => absurd q.2 (by omega), fun _ _ _ _ => rfl⟩
            unfold wk_a
            rw [if_pos (by unfold wk_k; omega), if_neg (by omega)]
        · refine am_E.go (t2 := (35, [vR y, vI sa, vI w, vI t, vI u, vU, vU, vU, vU, vU, vU, vU, vU, vU, vU, vU, vU], [vI (-1)], aq_h m s F c)) rfl rfl ?_
          refine am_E.ret rfl rfl ?_
          refine ⟨_, rfl, aq_sm0, ?_, hI, fun _ _ => ⟨rfl, rfl⟩, fun _ _ => ⟨rfl, rfl, rfl⟩, fun v q => absurd q.1 (by unfold wk_k; omega), fun _ _ _ _ => rfl⟩
          unfold wk_a
          rw [if_neg (by unfold wk_k; omega)]
