/-! The reference: findWords. Printed by wip/p20/sx/gFW.py. -/

theorem qm_fw_l {m s : Nat} {F : aq_F} {c0 : aq_C} {y : Nat} (hO : mo_0 m F y) {tbl : Int → Int} (hT : mo_T F y tbl) (hG2 : F (y + 2) = (0, 124, fun _ => .inl 0)) (hG3 : F (y + 3) = (0, 124, fun _ => .inl 0)) (hG4 : F (y + 4) = (0, 124, fun _ => .inl 0)) {n fr : Int} (hn1 : 1 ≤ n) (hn4 : n ≤ 4) (hfr : fr = mo_f n) : ∀ (d : Nat) (v3 : Int) (mn : Int) (k : Int) (bb : Int) (l : Int) (v8 : am_V) (v9 : am_V) (c : aq_C) (hs : aq_sm (fun a => a = y ∨ a = y + 2 ∨ a = y + 3 ∨ a = y + 4 ∨ a = y + 12 ∨ a = y + 13 ∨ a = y + 14) c0 c) (h0 : 1 ≤ l) (h1 : l ≤ 10 + n) (h2 : 0 ≤ bb) (h3 : bb < bx_K n) (h4 : 0 ≤ k) (h5 : k < mn) (h6 : mn ≤ bx_K n) (h7 : c (y + 4) (fr + bb) ≠ -4 ∨ True) (hob : mo_k y c0 c) (hfw : fw_ y fr (bx_K n) mn c0 c) (hd : 10 + n - l < (d : Int)) (K0 : ∀ (mn2 : Int) (l2 : Int) (v82 : am_V) (v92 : am_V) (c2 : aq_C) (hs2 : aq_sm (fun a => a = y ∨ a = y + 2 ∨ a = y + 3 ∨ a = y + 4 ∨ a = y + 12 ∨ a = y + 13 ∨ a = y + 14) c0 c2) (f1 : k < mn2) (f2 : mn2 ≤ bx_K n) (hob2 : mo_k y c0 c2) (hfw2 : fw_ y fr (bx_K n) mn2 c0 c2), am_E ac_X5_findWords (198, [vR y, vI n, vI fr, vI v3, vI mn2, vI k, vI bb, vI l2, v82, v92], [], aq_h m s F c2) (aq_Z m s F (fun a => a = y ∨ a = y + 2 ∨ a = y + 3 ∨ a = y + 4 ∨ a = y + 12 ∨ a = y + 13 ∨ a = y + 14) c0 (fun r d => r = none ∧ mo_k y c0 d ∧ (∀ b, 0 ≤ b → b < bx_K n → -4 ≤ d (y + 4) (mo_f n + b) ∧ d (y + 4) (mo_f n + b) ≤ 105 ∧ 0 ≤ d (y + 3) (mo_f n + b) ∧ d (y + 3) (mo_f n + b) < bx_K n) ∧ ∀ j, (j < mo_f n ∨ mo_f n + bx_K n ≤ j) → d (y + 3) j = c0 (y + 3) j ∧ d (y + 4) j = c0 (y + 4) j))), am_E ac_X5_findWords (79, [vR y, vI n, vI fr, vI v3, vI mn, vI k, vI bb, vI l, v8, v9], [], aq_h m s F c) (aq_Z m s F (fun a => a = y ∨ a = y + 2 ∨ a = y + 3 ∨ a = y + 4 ∨ a = y + 12 ∨ a = y + 13 ∨ a = y + 14) c0 (fun r d => r = none ∧ mo_k y c0 d ∧ (∀ b, 0 ≤ b → b < bx_K n → -4 ≤ d (y + 4) (mo_f n + b) ∧ d (y + 4) (mo_f n + b) ≤ 105 ∧ 0 ≤ d (y + 3) (mo_f n + b) ∧ d (y + 3) (mo_f n + b) < bx_K n) ∧ ∀ j, (j < mo_f n ∨ mo_f n + bx_K n ≤ j) → d (y + 3) j = c0 (y + 3) j ∧ d (y + 4) j = c0 (y + 4) j))
  | 0, v3, mn, k, bb, l, v8, v9, c, hs, h0, h1, h2, h3, h4, h5, h6, h7, hob, hfw, hd, K0 => by exfalso; omega
  | d + 1, v3, mn, k, bb, l, v8, v9, c, hs, h0, h1, h2, h3, h4, h5, h6, h7, hob, hfw, hd, K0 => by
    obtain ⟨hm, hFo, hG5, hG6, hG7, hG8, hG9, hG10, hG11, hG12, hG13, hG14, hG15, hG16, hG17, hG18, hG19, hG20, hG21, hG22, hG23⟩ := hO
    obtain ⟨hT1, hTt⟩ := hT
    have hfs := mo_fs n
    refine am_E.go (t2 := (81, [vR y, vI n, vI fr, vI v3, vI mn, vI k, vI bb, vI l, v8, v9], [vI l], aq_h m s F c)) rfl rfl ?_
    refine am_E.go (t2 := (83, [vR y, vI n, vI fr, vI v3, vI mn, vI k, vI bb, vI l, v8, v9], [vI 10, vI l], aq_h m s F c)) rfl rfl ?_
    refine am_E.go (t2 := (84, [vR y, vI n, vI fr, vI v3, vI mn, vI k, vI bb, vI l, v8, v9], [vI n, vI 10, vI l], aq_h m s F c)) rfl rfl ?_
    refine ae_add rfl (am_ri (by omega) (by omega)) ?_
    show am_E _ (85, [vR y, vI n, vI fr, vI v3, vI mn, vI k, vI bb, vI l, v8, v9], [vI (10 + n), vI l], aq_h m s F c) _
    refine ae_icmp rfl (fun (q_1 : (10 + n) ≤ l) => ?_) (fun (q_1 : l < (10 + n)) => ?_)
    · exact K0 mn l (v8) (v9) c hs (by omega) (by omega) hob hfw
    · refine am_E.go (t2 := (89, [vR y, vI n, vI fr, vI v3, vI mn, vI k, vI bb, vI l, v8, v9], [vI n], aq_h m s F c)) rfl rfl ?_
      refine am_E.go (t2 := (91, [vR y, vI n, vI fr, vI v3, vI mn, vI k, vI bb, vI l, v8, v9], [vI l, vI n], aq_h m s F c)) rfl rfl ?_
      refine am_E.call rfl rfl rfl (Nat.le_of_ble_eq_true rfl) (qm_isLetter (by omega) (by omega)) ?_
      rintro r5 h5 ⟨rfl, v_2, rfl, hv_2⟩
      show am_E _ (94, [vR y, vI n, vI fr, vI v3, vI mn, vI k, vI bb, vI l, v8, v9], [vI v_2], aq_h m s F c) _
      refine ae_if0 rfl (fun (q_3 : v_2 = 0) => ?_) (fun (q_3 : v_2 ≠ 0) => ?_)
      · refine ae_iinc rfl rfl (am_ri (by omega) (by omega)) ?_
        show am_E _ (195, [vR y, vI n, vI fr, vI v3, vI mn, vI k, vI bb, vI (l + 1), v8, v9], [], aq_h m s F c) _
        refine am_E.go (t2 := (79, [vR y, vI n, vI fr, vI v3, vI mn, vI k, vI bb, vI (l + 1), v8, v9], [], aq_h m s F c)) rfl rfl ?_
        exact qm_fw_l ⟨hm, hFo, hG5, hG6, hG7, hG8, hG9, hG10, hG11, hG12, hG13, hG14, hG15, hG16, hG17, hG18, hG19, hG20, hG21, hG22, hG23⟩ ⟨hT1, hTt⟩ hG2 hG3 hG4 hn1 hn4 hfr d v3 mn k bb (l + 1) (v8) (v9) c hs (by omega) (by omega) (by omega) (by omega) (by omega) (by omega) (by omega) (Or.inr trivial) hob hfw (by omega) K0
      · refine am_E.go (t2 := (98, [vR y, vI n, vI fr, vI v3, vI mn, vI k, vI bb, vI l, v8, v9], [vR y], aq_h m s F c)) rfl rfl ?_
        refine am_E.go (t2 := (99, [vR y, vI n, vI fr, vI v3, vI mn, vI k, vI bb, vI l, v8, v9], [vI n, vR y], aq_h m s F c)) rfl rfl ?_
        refine am_E.go (t2 := (101, [vR y, vI n, vI fr, vI v3, vI mn, vI k, vI bb, vI l, v8, v9], [vI l, vI n, vR y], aq_h m s F c)) rfl rfl ?_
        refine aq_callv (y := 3) (as2 := [vI n, vI l]) (rest := []) rfl rfl (by decide) (Nat.le_of_ble_eq_true rfl) rfl rfl (Nat.le_of_ble_eq_true rfl) (by omega) hFo rfl (Nat.le_of_ble_eq_true rfl) (qm_plainBox (S := fun a => a = y + 12) ⟨hm, hFo, hG5, hG6, hG7, hG8, hG9, hG10, hG11, hG12, hG13, hG14, hG15, hG16, hG17, hG18, hG19, hG20, hG21, hG22, hG23⟩ rfl ⟨hT1, hTt⟩ (by omega) (by omega) (by omega)) ?_
        rintro r5 h5 ⟨c_4, rfl, sc_4, vc_4, rfl, hv1c_4, hv2c_4, _⟩
        show am_E _ (104, [vR y, vI n, vI fr, vI v3, vI mn, vI k, vI bb, vI l, v8, v9], [vI vc_4], aq_h m s F c_4) _
        refine am_E.go (t2 := (106, [vR y, vI n, vI fr, vI v3, vI mn, vI k, vI bb, vI l, vI vc_4, v9], [], aq_h m s F c_4)) rfl rfl ?_
        refine am_E.go (t2 := (107, [vR y, vI n, vI fr, vI v3, vI mn, vI k, vI bb, vI l, vI vc_4, v9], [vR y], aq_h m s F c_4)) rfl rfl ?_
        refine am_E.go (t2 := (108, [vR y, vI n, vI fr, vI v3, vI mn, vI k, vI bb, vI l, vI vc_4, v9], [vI n, vR y], aq_h m s F c_4)) rfl rfl ?_
        refine am_E.go (t2 := (110, [vR y, vI n, vI fr, vI v3, vI mn, vI k, vI bb, vI l, vI vc_4, v9], [vI bb, vI n, vR y], aq_h m s F c_4)) rfl rfl ?_
        refine am_E.go (t2 := (112, [vR y, vI n, vI fr, vI v3, vI mn, vI k, vI bb, vI l, vI vc_4, v9], [vI vc_4, vI bb, vI n, vR y], aq_h m s F c_4)) rfl rfl ?_
        refine aq_callv (y := 4) (as2 := [vI n, vI bb, vI vc_4]) (rest := []) rfl rfl (by decide) (Nat.le_of_ble_eq_true rfl) rfl rfl (Nat.le_of_ble_eq_true rfl) (by omega) hFo rfl (Nat.le_of_ble_eq_true rfl) (qm_stacked (S := fun a => a = y ∨ a = y + 12 ∨ a = y + 13) ⟨hm, hFo, hG5, hG6, hG7, hG8, hG9, hG10, hG11, hG12, hG13, hG14, hG15, hG16, hG17, hG18, hG19, hG20, hG21, hG22, hG23⟩ (Or.inl rfl) (Or.inr (Or.inl rfl)) (Or.inr (Or.inr rfl)) ⟨hT1, hTt⟩ (by omega) (by omega) (by omega) (by omega) (by omega) (by omega)) ?_
        rintro r5 h5 ⟨c_5, rfl, sc_5, vc_5, rfl, hv1c_5, hv2c_5, hr1c_5, hr2c_5, hkc_5, _⟩
        show am_E _ (115, [vR y, vI n, vI fr, vI v3, vI mn, vI k, vI bb, vI l, vI vc_4, v9], [vI vc_5], aq_h m s F c_5) _
        refine am_E.go (t2 := (117, [vR y, vI n, vI fr, vI v3, vI mn, vI k, vI bb, vI l, vI vc_4, vI vc_5], [], aq_h m s F c_5)) rfl rfl ?_
        refine am_E.go (t2 := (118, [vR y, vI n, vI fr, vI v3, vI mn, vI k, vI bb, vI l, vI vc_4, vI vc_5], [vR y], aq_h m s F c_5)) rfl rfl ?_
        refine aq_gf (v := vI (c_5 y 15)) rfl (by omega) hFo (by decide) rfl ?_
        show am_E _ (121, [vR y, vI n, vI fr, vI v3, vI mn, vI k, vI bb, vI l, vI vc_4, vI vc_5], [vI (c_5 y 15)], aq_h m s F c_5) _
        skip
        refine ae_if0 rfl (fun (q_7 : (c_5 y 15) ≠ 0) => ?_) (fun (q_7 : (c_5 y 15) = 0) => ?_)
        · refine ae_iinc rfl rfl (am_ri (by omega) (by omega)) ?_
          show am_E _ (195, [vR y, vI n, vI fr, vI v3, vI mn, vI k, vI bb, vI (l + 1), vI vc_4, vI vc_5], [], aq_h m s F c_5) _
          refine am_E.go (t2 := (79, [vR y, vI n, vI fr, vI v3, vI mn, vI k, vI bb, vI (l + 1), vI vc_4, vI vc_5], [], aq_h m s F c_5)) rfl rfl ?_
          exact qm_fw_l ⟨hm, hFo, hG5, hG6, hG7, hG8, hG9, hG10, hG11, hG12, hG13, hG14, hG15, hG16, hG17, hG18, hG19, hG20, hG21, hG22, hG23⟩ ⟨hT1, hTt⟩ hG2 hG3 hG4 hn1 hn4 hfr d v3 mn k bb (l + 1) (vI vc_4) (vI vc_5) c_5 (aq_smt (aq_smt hs (aq_smi sc_4 (fun a h => by omega))) (aq_smi sc_5 (fun a h => by omega))) (by omega) (by omega) (by omega) (by omega) (by omega) (by omega) (by omega) (Or.inr trivial) (mo_kt (mo_ks hob sc_4 (by omega)) hkc_5) (fw_s (fw_s hfw sc_4 (by omega) (by omega) (by omega)) sc_5 (by omega) (by omega) (by omega)) (by omega) K0
        · refine am_E.go (t2 := (125, [vR y, vI n, vI fr, vI v3, vI mn, vI k, vI bb, vI l, vI vc_4, vI vc_5], [vR y], aq_h m s F c_5)) rfl rfl ?_
          refine aq_gf (v := vR (y + 4)) rfl (by omega) hFo (by decide) rfl ?_
          show am_E _ (128, [vR y, vI n, vI fr, vI v3, vI mn, vI k, vI bb, vI l, vI vc_4, vI vc_5], [vR (y + 4)], aq_h m s F c_5) _
          refine am_E.go (t2 := (129, [vR y, vI n, vI fr, vI v3, vI mn, vI k, vI bb, vI l, vI vc_4, vI vc_5], [vI fr, vR (y + 4)], aq_h m s F c_5)) rfl rfl ?_
          refine am_E.go (t2 := (131, [vR y, vI n, vI fr, vI v3, vI mn, vI k, vI bb, vI l, vI vc_4, vI vc_5], [vI vc_5, vI fr, vR (y + 4)], aq_h m s F c_5)) rfl rfl ?_
          refine ae_add rfl (am_ri (by omega) (by omega)) ?_
          show am_E _ (132, [vR y, vI n, vI fr, vI v3, vI mn, vI k, vI bb, vI l, vI vc_4, vI vc_5], [vI (fr + vc_5), vR (y + 4)], aq_h m s F c_5) _
          refine aq_al (ok := fun k => k == 0) (v := vI (c_5 (y + 4) (fr + vc_5))) rfl rfl (by omega) hG4 rfl (by omega) (by omega) rfl ?_
          show am_E _ (133, [vR y, vI n, vI fr, vI v3, vI mn, vI k, vI bb, vI l, vI vc_4, vI vc_5], [vI (c_5 (y + 4) (fr + vc_5))], aq_h m s F c_5) _
          have f_8 := ((fw_s (fw_s hfw sc_4 (by omega) (by omega) (by omega)) sc_5 (by omega) (by omega) (by omega))).1 vc_5 (by omega) (by omega)
          refine am_E.go (t2 := (135, [vR y, vI n, vI fr, vI v3, vI mn, vI k, vI bb, vI l, vI vc_4, vI vc_5], [vI (-4), vI (c_5 (y + 4) (fr + vc_5))], aq_h m s F c_5)) rfl rfl ?_
          refine ae_icmp rfl (fun (q_9 : (c_5 (y + 4) (fr + vc_5)) ≠ (-4)) => ?_) (fun (q_9 : (c_5 (y + 4) (fr + vc_5)) = (-4)) => ?_)
          · refine ae_iinc rfl rfl (am_ri (by omega) (by omega)) ?_
            show am_E _ (195, [vR y, vI n, vI fr, vI v3, vI mn, vI k, vI bb, vI (l + 1), vI vc_4, vI vc_5], [], aq_h m s F c_5) _
            refine am_E.go (t2 := (79, [vR y, vI n, vI fr, vI v3, vI mn, vI k, vI bb, vI (l + 1), vI vc_4, vI vc_5], [], aq_h m s F c_5)) rfl rfl ?_
            exact qm_fw_l ⟨hm, hFo, hG5, hG6, hG7, hG8, hG9, hG10, hG11, hG12, hG13, hG14, hG15, hG16, hG17, hG18, hG19, hG20, hG21, hG22, hG23⟩ ⟨hT1, hTt⟩ hG2 hG3 hG4 hn1 hn4 hfr d v3 mn k bb (l + 1) (vI vc_4) (vI vc_5) c_5 (aq_smt (aq_smt hs (aq_smi sc_4 (fun a h => by omega))) (aq_smi sc_5 (fun a h => by omega))) (by omega) (by omega) (by omega) (by omega) (by omega) (by omega) (by omega) (Or.inr trivial) (mo_kt (mo_ks hob sc_4 (by omega)) hkc_5) (fw_s (fw_s hfw sc_4 (by omega) (by omega) (by omega)) sc_5 (by omega) (by omega) (by omega)) (by omega) K0
          · have hlt := fw_lt (fw_s (fw_s hfw sc_4 (by omega) (by omega) (by omega)) sc_5 (by omega) (by omega) (by omega)) (by omega) (by omega) q_9
            refine am_E.go (t2 := (139, [vR y, vI n, vI fr, vI v3, vI mn, vI k, vI bb, vI l, vI vc_4, vI vc_5], [vR y], aq_h m s F c_5)) rfl rfl ?_
            refine aq_gf (v := vR (y + 4)) rfl (by omega) hFo (by decide) rfl ?_
            show am_E _ (142, [vR y, vI n, vI fr, vI v3, vI mn, vI k, vI bb, vI l, vI vc_4, vI vc_5], [vR (y + 4)], aq_h m s F c_5) _
            refine am_E.go (t2 := (143, [vR y, vI n, vI fr, vI v3, vI mn, vI k, vI bb, vI l, vI vc_4, vI vc_5], [vI fr, vR (y + 4)], aq_h m s F c_5)) rfl rfl ?_
            refine am_E.go (t2 := (145, [vR y, vI n, vI fr, vI v3, vI mn, vI k, vI bb, vI l, vI vc_4, vI vc_5], [vI vc_5, vI fr, vR (y + 4)], aq_h m s F c_5)) rfl rfl ?_
            refine ae_add rfl (am_ri (by omega) (by omega)) ?_
            show am_E _ (146, [vR y, vI n, vI fr, vI v3, vI mn, vI k, vI bb, vI l, vI vc_4, vI vc_5], [vI (fr + vc_5), vR (y + 4)], aq_h m s F c_5) _
            refine am_E.go (t2 := (147, [vR y, vI n, vI fr, vI v3, vI mn, vI k, vI bb, vI l, vI vc_4, vI vc_5], [vR y, vI (fr + vc_5), vR (y + 4)], aq_h m s F c_5)) rfl rfl ?_
            refine aq_gf (v := vR (y + 4)) rfl (by omega) hFo (by decide) rfl ?_
            show am_E _ (150, [vR y, vI n, vI fr, vI v3, vI mn, vI k, vI bb, vI l, vI vc_4, vI vc_5], [vR (y + 4), vI (fr + vc_5), vR (y + 4)], aq_h m s F c_5) _
            refine am_E.go (t2 := (151, [vR y, vI n, vI fr, vI v3, vI mn, vI k, vI bb, vI l, vI vc_4, vI vc_5], [vI fr, vR (y + 4), vI (fr + vc_5), vR (y + 4)], aq_h m s F c_5)) rfl rfl ?_
            refine am_E.go (t2 := (153, [vR y, vI n, vI fr, vI v3, vI mn, vI k, vI bb, vI l, vI vc_4, vI vc_5], [vI bb, vI fr, vR (y + 4), vI (fr + vc_5), vR (y + 4)], aq_h m s F c_5)) rfl rfl ?_
            refine ae_add rfl (am_ri (by omega) (by omega)) ?_
            show am_E _ (154, [vR y, vI n, vI fr, vI v3, vI mn, vI k, vI bb, vI l, vI vc_4, vI vc_5], [vI (fr + bb), vR (y + 4), vI (fr + vc_5), vR (y + 4)], aq_h m s F c_5) _
            refine aq_al (ok := fun k => k == 0) (v := vI (c_5 (y + 4) (fr + bb))) rfl rfl (by omega) hG4 rfl (by omega) (by omega) rfl ?_
            show am_E _ (155, [vR y, vI n, vI fr, vI v3, vI mn, vI k, vI bb, vI l, vI vc_4, vI vc_5], [vI (c_5 (y + 4) (fr + bb)), vI (fr + vc_5), vR (y + 4)], aq_h m s F c_5) _
            have f_10 := ((fw_s (fw_s hfw sc_4 (by omega) (by omega) (by omega)) sc_5 (by omega) (by omega) (by omega))).1 bb (by omega) (by omega)
            refine am_E.go (t2 := (156, [vR y, vI n, vI fr, vI v3, vI mn, vI k, vI bb, vI l, vI vc_4, vI vc_5], [vI 1, vI (c_5 (y + 4) (fr + bb)), vI (fr + vc_5), vR (y + 4)], aq_h m s F c_5)) rfl rfl ?_
            refine ae_add rfl (am_ri (by omega) (by omega)) ?_
            show am_E _ (157, [vR y, vI n, vI fr, vI v3, vI mn, vI k, vI bb, vI l, vI vc_4, vI vc_5], [vI ((c_5 (y + 4) (fr + bb)) + 1), vI (fr + vc_5), vR (y + 4)], aq_h m s F c_5) _
            refine aq_as (kd := 0) rfl rfl (by omega) hG4 (by omega) (by omega) rfl rfl ?_
            show am_E _ (158, [vR y, vI n, vI fr, vI v3, vI mn, vI k, vI bb, vI l, vI vc_4, vI vc_5], [], aq_h m s F (aq_u c_5 (y + 4) (fr + vc_5) ((c_5 (y + 4) (fr + bb)) + 1))) _
            generalize hdc_11 : aq_u c_5 (y + 4) (fr + vc_5) ((c_5 (y + 4) (fr + bb)) + 1) = c_11
            have sc_11 := aq_smu (aq_smt (aq_smt hs (aq_smi sc_4 (fun a h => by omega))) (aq_smi sc_5 (fun a h => by omega))) hdc_11 (by omega)
            have hobc_11 := mo_ku (mo_kt (mo_ks hob sc_4 (by omega)) hkc_5) hdc_11 (Or.inl (by omega))
            refine am_E.go (t2 := (159, [vR y, vI n, vI fr, vI v3, vI mn, vI k, vI bb, vI l, vI vc_4, vI vc_5], [vR y], aq_h m s F c_11)) rfl rfl ?_
            refine aq_gf (v := vR (y + 2)) rfl (by omega) hFo (by decide) rfl ?_
            show am_E _ (162, [vR y, vI n, vI fr, vI v3, vI mn, vI k, vI bb, vI l, vI vc_4, vI vc_5], [vR (y + 2)], aq_h m s F c_11) _
            refine am_E.go (t2 := (163, [vR y, vI n, vI fr, vI v3, vI mn, vI k, vI bb, vI l, vI vc_4, vI vc_5], [vI fr, vR (y + 2)], aq_h m s F c_11)) rfl rfl ?_
            refine am_E.go (t2 := (165, [vR y, vI n, vI fr, vI v3, vI mn, vI k, vI bb, vI l, vI vc_4, vI vc_5], [vI vc_5, vI fr, vR (y + 2)], aq_h m s F c_11)) rfl rfl ?_
            refine ae_add rfl (am_ri (by omega) (by omega)) ?_
            show am_E _ (166, [vR y, vI n, vI fr, vI v3, vI mn, vI k, vI bb, vI l, vI vc_4, vI vc_5], [vI (fr + vc_5), vR (y + 2)], aq_h m s F c_11) _
            refine am_E.go (t2 := (168, [vR y, vI n, vI fr, vI v3, vI mn, vI k, vI bb, vI l, vI vc_4, vI vc_5], [vI l, vI (fr + vc_5), vR (y + 2)], aq_h m s F c_11)) rfl rfl ?_
            refine aq_as (kd := 0) rfl rfl (by omega) hG2 (by omega) (by omega) rfl rfl ?_
            show am_E _ (169, [vR y, vI n, vI fr, vI v3, vI mn, vI k, vI bb, vI l, vI vc_4, vI vc_5], [], aq_h m s F (aq_u c_11 (y + 2) (fr + vc_5) l)) _
            generalize hdc_12 : aq_u c_11 (y + 2) (fr + vc_5) l = c_12
            have sc_12 := aq_smu sc_11 hdc_12 (by omega)
            have hobc_12 := mo_ku hobc_11 hdc_12 (Or.inl (by omega))
            refine am_E.go (t2 := (170, [vR y, vI n, vI fr, vI v3, vI mn, vI k, vI bb, vI l, vI vc_4, vI vc_5], [vR y], aq_h m s F c_12)) rfl rfl ?_
            refine aq_gf (v := vR (y + 3)) rfl (by omega) hFo (by decide) rfl ?_
            show am_E _ (173, [vR y, vI n, vI fr, vI v3, vI mn, vI k, vI bb, vI l, vI vc_4, vI vc_5], [vR (y + 3)], aq_h m s F c_12) _
            refine am_E.go (t2 := (174, [vR y, vI n, vI fr, vI v3, vI mn, vI k, vI bb, vI l, vI vc_4, vI vc_5], [vI fr, vR (y + 3)], aq_h m s F c_12)) rfl rfl ?_
            refine am_E.go (t2 := (176, [vR y, vI n, vI fr, vI v3, vI mn, vI k, vI bb, vI l, vI vc_4, vI vc_5], [vI vc_5, vI fr, vR (y + 3)], aq_h m s F c_12)) rfl rfl ?_
            refine ae_add rfl (am_ri (by omega) (by omega)) ?_
            show am_E _ (177, [vR y, vI n, vI fr, vI v3, vI mn, vI k, vI bb, vI l, vI vc_4, vI vc_5], [vI (fr + vc_5), vR (y + 3)], aq_h m s F c_12) _
            refine am_E.go (t2 := (179, [vR y, vI n, vI fr, vI v3, vI mn, vI k, vI bb, vI l, vI vc_4, vI vc_5], [vI bb, vI (fr + vc_5), vR (y + 3)], aq_h m s F c_12)) rfl rfl ?_
            refine aq_as (kd := 0) rfl rfl (by omega) hG3 (by omega) (by omega) rfl rfl ?_
            show am_E _ (180, [vR y, vI n, vI fr, vI v3, vI mn, vI k, vI bb, vI l, vI vc_4, vI vc_5], [], aq_h m s F (aq_u c_12 (y + 3) (fr + vc_5) bb)) _
            generalize hdc_13 : aq_u c_12 (y + 3) (fr + vc_5) bb = c_13
            have sc_13 := aq_smu sc_12 hdc_13 (by omega)
            have hobc_13 := mo_ku hobc_12 hdc_13 (Or.inl (by omega))
            refine am_E.go (t2 := (181, [vR y, vI n, vI fr, vI v3, vI mn, vI k, vI bb, vI l, vI vc_4, vI vc_5], [vR y], aq_h m s F c_13)) rfl rfl ?_
            refine aq_gf (v := vR (y + 14)) rfl (by omega) hFo (by decide) rfl ?_
            show am_E _ (184, [vR y, vI n, vI fr, vI v3, vI mn, vI k, vI bb, vI l, vI vc_4, vI vc_5], [vR (y + 14)], aq_h m s F c_13) _
            refine am_E.go (t2 := (186, [vR y, vI n, vI fr, vI v3, vI mn, vI k, vI bb, vI l, vI vc_4, vI vc_5], [vI mn, vR (y + 14)], aq_h m s F c_13)) rfl rfl ?_
            refine am_E.go (t2 := (188, [vR y, vI n, vI fr, vI v3, vI mn, vI k, vI bb, vI l, vI vc_4, vI vc_5], [vI vc_5, vI mn, vR (y + 14)], aq_h m s F c_13)) rfl rfl ?_
            refine aq_as (kd := 0) rfl rfl (by omega) hG14 (by omega) (by omega) rfl rfl ?_
            show am_E _ (189, [vR y, vI n, vI fr, vI v3, vI mn, vI k, vI bb, vI l, vI vc_4, vI vc_5], [], aq_h m s F (aq_u c_13 (y + 14) mn vc_5)) _
            generalize hdc_14 : aq_u c_13 (y + 14) mn vc_5 = c_14
            have sc_14 := aq_smu sc_13 hdc_14 (by omega)
            have hobc_14 := mo_ku hobc_13 hdc_14 (Or.inl (by omega))
            have fwc_14 : fw_ y fr (bx_K n) (mn + 1) c0 c_14 := fw_a (fw_s (fw_s hfw sc_4 (by omega) (by omega) (by omega)) sc_5 (by omega) (by omega) (by omega)) (by omega) (by omega) (by assumption) (by omega) (by omega) (by omega) (by omega) hdc_11 hdc_12 hdc_13 hdc_14
            refine ae_iinc rfl rfl (am_ri (by omega) (by omega)) ?_
            show am_E _ (192, [vR y, vI n, vI fr, vI v3, vI (mn + 1), vI k, vI bb, vI l, vI vc_4, vI vc_5], [], aq_h m s F c_14) _
            refine ae_iinc rfl rfl (am_ri (by omega) (by omega)) ?_
            show am_E _ (195, [vR y, vI n, vI fr, vI v3, vI (mn + 1), vI k, vI bb, vI (l + 1), vI vc_4, vI vc_5], [], aq_h m s F c_14) _
            refine am_E.go (t2 := (79, [vR y, vI n, vI fr, vI v3, vI (mn + 1), vI k, vI bb, vI (l + 1), vI vc_4, vI vc_5], [], aq_h m s F c_14)) rfl rfl ?_
            exact qm_fw_l ⟨hm, hFo, hG5, hG6, hG7, hG8, hG9, hG10, hG11, hG12, hG13, hG14, hG15, hG16, hG17, hG18, hG19, hG20, hG21, hG22, hG23⟩ ⟨hT1, hTt⟩ hG2 hG3 hG4 hn1 hn4 hfr d v3 (mn + 1) k bb (l + 1) (vI vc_4) (vI vc_5) c_14 sc_14 (by omega) (by omega) (by omega) (by omega) (by omega) (by omega) (by omega) (Or.inr trivial) hobc_14 fwc_14 (by omega) K0

theorem qm_fw_k {m s : Nat} {F : aq_F} {c0 : aq_C} {y : Nat} (hO : mo_0 m F y) {tbl : Int → Int} (hT : mo_T F y tbl) (hG2 : F (y + 2) = (0, 124, fun _ => .inl 0)) (hG3 : F (y + 3) = (0, 124, fun _ => .inl 0)) (hG4 : F (y + 4) = (0, 124, fun _ => .inl 0)) {n fr : Int} (hn1 : 1 ≤ n) (hn4 : n ≤ 4) (hfr : fr = mo_f n) : ∀ (d : Nat) (v3 : Int) (mn : Int) (k : Int) (v6 : am_V) (v7 : am_V) (v8 : am_V) (v9 : am_V) (c : aq_C) (hs : aq_sm (fun a => a = y ∨ a = y + 2 ∨ a = y + 3 ∨ a = y + 4 ∨ a = y + 12 ∨ a = y + 13 ∨ a = y + 14) c0 c) (h0 : 0 ≤ k) (h1 : k ≤ mn) (h2 : mn ≤ bx_K n) (hob : mo_k y c0 c) (hfw : fw_ y fr (bx_K n) mn c0 c) (hd : bx_K n - k < (d : Int)), am_E ac_X5_findWords (60, [vR y, vI n, vI fr, vI v3, vI mn, vI k, v6, v7, v8, v9], [], aq_h m s F c) (aq_Z m s F (fun a => a = y ∨ a = y + 2 ∨ a = y + 3 ∨ a = y + 4 ∨ a = y + 12 ∨ a = y + 13 ∨ a = y + 14) c0 (fun r d => r = none ∧ mo_k y c0 d ∧ (∀ b, 0 ≤ b → b < bx_K n → -4 ≤ d (y + 4) (mo_f n + b) ∧ d (y + 4) (mo_f n + b) ≤ 105 ∧ 0 ≤ d (y + 3) (mo_f n + b) ∧ d (y + 3) (mo_f n + b) < bx_K n) ∧ ∀ j, (j < mo_f n ∨ mo_f n + bx_K n ≤ j) → d (y + 3) j = c0 (y + 3) j ∧ d (y + 4) j = c0 (y + 4) j))
  | 0, v3, mn, k, v6, v7, v8, v9, c, hs, h0, h1, h2, hob, hfw, hd => by exfalso; omega
  | d + 1, v3, mn, k, v6, v7, v8, v9, c, hs, h0, h1, h2, hob, hfw, hd => by
    obtain ⟨hm, hFo, hG5, hG6, hG7, hG8, hG9, hG10, hG11, hG12, hG13, hG14, hG15, hG16, hG17, hG18, hG19, hG20, hG21, hG22, hG23⟩ := hO
    obtain ⟨hT1, hTt⟩ := hT
    have hfs := mo_fs n
    refine am_E.go (t2 := (62, [vR y, vI n, vI fr, vI v3, vI mn, vI k, v6, v7, v8, v9], [vI k], aq_h m s F c)) rfl rfl ?_
    refine am_E.go (t2 := (64, [vR y, vI n, vI fr, vI v3, vI mn, vI k, v6, v7, v8, v9], [vI mn, vI k], aq_h m s F c)) rfl rfl ?_
    refine ae_icmp rfl (fun (q_1 : mn ≤ k) => ?_) (fun (q_1 : k < mn) => ?_)
    · refine am_E.ret rfl rfl ?_
      obtain ⟨w1, w2, w3, w4, w5⟩ := hfw
      rw [hfr] at w1 w2 w5
      refine ⟨_, rfl, hs, rfl, hob, fun b k0 k1 => ?_, w5⟩
      have q1 := w1 b k0 k1
      have q2 := w2 b k0 k1
      exact ⟨by omega, by omega, q2.1, q2.2⟩
    · refine am_E.go (t2 := (68, [vR y, vI n, vI fr, vI v3, vI mn, vI k, v6, v7, v8, v9], [vR y], aq_h m s F c)) rfl rfl ?_
      refine aq_gf (v := vR (y + 14)) rfl (by omega) hFo (by decide) rfl ?_
      show am_E _ (71, [vR y, vI n, vI fr, vI v3, vI mn, vI k, v6, v7, v8, v9], [vR (y + 14)], aq_h m s F c) _
      refine am_E.go (t2 := (73, [vR y, vI n, vI fr, vI v3, vI mn, vI k, v6, v7, v8, v9], [vI k, vR (y + 14)], aq_h m s F c)) rfl rfl ?_
      refine aq_al (ok := fun k => k == 0) (v := vI (c (y + 14) k)) rfl rfl (by omega) hG14 rfl (by omega) (by omega) rfl ?_
      show am_E _ (74, [vR y, vI n, vI fr, vI v3, vI mn, vI k, v6, v7, v8, v9], [vI (c (y + 14) k)], aq_h m s F c) _
      have f_2 := (hfw).2.2.1 k (by omega) (by omega)
      refine am_E.go (t2 := (76, [vR y, vI n, vI fr, vI v3, vI mn, vI k, vI (c (y + 14) k), v7, v8, v9], [], aq_h m s F c)) rfl rfl ?_
      refine am_E.go (t2 := (77, [vR y, vI n, vI fr, vI v3, vI mn, vI k, vI (c (y + 14) k), v7, v8, v9], [vI 1], aq_h m s F c)) rfl rfl ?_
      refine am_E.go (t2 := (79, [vR y, vI n, vI fr, vI v3, vI mn, vI k, vI (c (y + 14) k), vI 1, v8, v9], [], aq_h m s F c)) rfl rfl ?_
      refine qm_fw_l ⟨hm, hFo, hG5, hG6, hG7, hG8, hG9, hG10, hG11, hG12, hG13, hG14, hG15, hG16, hG17, hG18, hG19, hG20, hG21, hG22, hG23⟩ ⟨hT1, hTt⟩ hG2 hG3 hG4 hn1 hn4 hfr 15 v3 mn k (c (y + 14) k) 1 (v8) (v9) c hs (by omega) (by omega) (by omega) (by omega) (by omega) (by omega) (by omega) (Or.inr trivial) hob hfw (by omega) ?_
      · intro mn2_79 l2_79 v82_79 v92_79 c_3 sc_3 f1_79 f2_79 hob2_79 hfw2_79
        refine ae_iinc rfl rfl (am_ri (by omega) (by omega)) ?_
        show am_E _ (201, [vR y, vI n, vI fr, vI v3, vI mn2_79, vI (k + 1), vI (c (y + 14) k), vI l2_79, v82_79, v92_79], [], aq_h m s F c_3) _
        refine am_E.go (t2 := (60, [vR y, vI n, vI fr, vI v3, vI mn2_79, vI (k + 1), vI (c (y + 14) k), vI l2_79, v82_79, v92_79], [], aq_h m s F c_3)) rfl rfl ?_
        exact qm_fw_k ⟨hm, hFo, hG5, hG6, hG7, hG8, hG9, hG10, hG11, hG12, hG13, hG14, hG15, hG16, hG17, hG18, hG19, hG20, hG21, hG22, hG23⟩ ⟨hT1, hTt⟩ hG2 hG3 hG4 hn1 hn4 hfr d v3 mn2_79 (k + 1) (vI (c (y + 14) k)) (vI l2_79) (v82_79) (v92_79) c_3 sc_3 (by omega) (by omega) (by omega) hob2_79 hfw2_79 (by omega)

theorem qm_fw_z {m s : Nat} {F : aq_F} {c0 : aq_C} {y : Nat} (hO : mo_0 m F y) {tbl : Int → Int} (hT : mo_T F y tbl) (hG2 : F (y + 2) = (0, 124, fun _ => .inl 0)) (hG3 : F (y + 3) = (0, 124, fun _ => .inl 0)) (hG4 : F (y + 4) = (0, 124, fun _ => .inl 0)) {n fr : Int} (hn1 : 1 ≤ n) (hn4 : n ≤ 4) (hfr : fr = mo_f n) (hA0 : ∀ b, 0 ≤ b → b < bx_K n → 0 ≤ c0 (y + 3) (fr + b) ∧ c0 (y + 3) (fr + b) < bx_K n) : ∀ (d : Nat) (b : Int) (v4 : am_V) (v5 : am_V) (v6 : am_V) (v7 : am_V) (v8 : am_V) (v9 : am_V) (c : aq_C) (hs : aq_sm (fun a => a = y ∨ a = y + 2 ∨ a = y + 3 ∨ a = y + 4 ∨ a = y + 12 ∨ a = y + 13 ∨ a = y + 14) c0 c) (h0 : 0 ≤ b) (h1 : b ≤ bx_K n) (hz : ∀ i, 0 ≤ i → i < b → c (y + 4) (fr + i) = -4) (h3 : ∀ j, c (y + 3) j = c0 (y + 3) j) (h4 : ∀ j, (j < fr ∨ fr + bx_K n ≤ j) → c (y + 4) j = c0 (y + 4) j) (hob : mo_k y c0 c) (hd : bx_K n - b < (d : Int)), am_E ac_X5_findWords (7, [vR y, vI n, vI fr, vI b, v4, v5, v6, v7, v8, v9], [], aq_h m s F c) (aq_Z m s F (fun a => a = y ∨ a = y + 2 ∨ a = y + 3 ∨ a = y + 4 ∨ a = y + 12 ∨ a = y + 13 ∨ a = y + 14) c0 (fun r d => r = none ∧ mo_k y c0 d ∧ (∀ b, 0 ≤ b → b < bx_K n → -4 ≤ d (y + 4) (mo_f n + b) ∧ d (y + 4) (mo_f n + b) ≤ 105 ∧ 0 ≤ d (y + 3) (mo_f n + b) ∧ d (y + 3) (mo_f n + b) < bx_K n) ∧ ∀ j, (j < mo_f n ∨ mo_f n + bx_K n ≤ j) → d (y + 3) j = c0 (y + 3) j ∧ d (y + 4) j = c0 (y + 4) j))
  | 0, b, v4, v5, v6, v7, v8, v9, c, hs, h0, h1, hz, h3, h4, hob, hd => by exfalso; omega
  | d + 1, b, v4, v5, v6, v7, v8, v9, c, hs, h0, h1, hz, h3, h4, hob, hd => by
    obtain ⟨hm, hFo, hG5, hG6, hG7, hG8, hG9, hG10, hG11, hG12, hG13, hG14, hG15, hG16, hG17, hG18, hG19, hG20, hG21, hG22, hG23⟩ := hO
    obtain ⟨hT1, hTt⟩ := hT
    have hfs := mo_fs n
    refine am_E.go (t2 := (8, [vR y, vI n, vI fr, vI b, v4, v5, v6, v7, v8, v9], [vI b], aq_h m s F c)) rfl rfl ?_
    refine am_E.go (t2 := (9, [vR y, vI n, vI fr, vI b, v4, v5, v6, v7, v8, v9], [vI n, vI b], aq_h m s F c)) rfl rfl ?_
    refine am_E.call rfl rfl rfl (Nat.le_of_ble_eq_true rfl) (qm_boxes) ?_
    rintro r5 h5 ⟨rfl, v_1, rfl, hv_1⟩
    show am_E _ (12, [vR y, vI n, vI fr, vI b, v4, v5, v6, v7, v8, v9], [vI v_1, vI b], aq_h m s F c) _
    refine ae_icmp rfl (fun (q_2 : v_1 ≤ b) => ?_) (fun (q_2 : b < v_1) => ?_)
    · refine am_E.go (t2 := (32, [vR y, vI n, vI fr, vI b, v4, v5, v6, v7, v8, v9], [vR y], aq_h m s F c)) rfl rfl ?_
      refine am_E.go (t2 := (33, [vR y, vI n, vI fr, vI b, v4, v5, v6, v7, v8, v9], [vI n, vR y], aq_h m s F c)) rfl rfl ?_
      refine am_E.go (t2 := (34, [vR y, vI n, vI fr, vI b, v4, v5, v6, v7, v8, v9], [vI 0, vI n, vR y], aq_h m s F c)) rfl rfl ?_
      refine aq_callv (y := 3) (as2 := [vI n, vI 0]) (rest := []) rfl rfl (by decide) (Nat.le_of_ble_eq_true rfl) rfl rfl (Nat.le_of_ble_eq_true rfl) (by omega) hFo rfl (Nat.le_of_ble_eq_true rfl) (qm_plainBox (S := fun a => a = y + 12) ⟨hm, hFo, hG5, hG6, hG7, hG8, hG9, hG10, hG11, hG12, hG13, hG14, hG15, hG16, hG17, hG18, hG19, hG20, hG21, hG22, hG23⟩ rfl ⟨hT1, hTt⟩ (by omega) (by omega) (by omega)) ?_
      rintro r5 h5 ⟨c_3, rfl, sc_3, vc_3, rfl, hv1c_3, hv2c_3, _⟩
      show am_E _ (37, [vR y, vI n, vI fr, vI b, v4, v5, v6, v7, v8, v9], [vI vc_3], aq_h m s F c_3) _
      refine am_E.go (t2 := (38, [vR y, vI n, vI fr, vI vc_3, v4, v5, v6, v7, v8, v9], [], aq_h m s F c_3)) rfl rfl ?_
      refine am_E.go (t2 := (39, [vR y, vI n, vI fr, vI vc_3, v4, v5, v6, v7, v8, v9], [vR y], aq_h m s F c_3)) rfl rfl ?_
      refine aq_gf (v := vR (y + 4)) rfl (by omega) hFo (by decide) rfl ?_
      show am_E _ (42, [vR y, vI n, vI fr, vI vc_3, v4, v5, v6, v7, v8, v9], [vR (y + 4)], aq_h m s F c_3) _
      refine am_E.go (t2 := (43, [vR y, vI n, vI fr, vI vc_3, v4, v5, v6, v7, v8, v9], [vI fr, vR (y + 4)], aq_h m s F c_3)) rfl rfl ?_
      refine am_E.go (t2 := (44, [vR y, vI n, vI fr, vI vc_3, v4, v5, v6, v7, v8, v9], [vI vc_3, vI fr, vR (y + 4)], aq_h m s F c_3)) rfl rfl ?_
      refine ae_add rfl (am_ri (by omega) (by omega)) ?_
      show am_E _ (45, [vR y, vI n, vI fr, vI vc_3, v4, v5, v6, v7, v8, v9], [vI (fr + vc_3), vR (y + 4)], aq_h m s F c_3) _
      refine am_E.go (t2 := (46, [vR y, vI n, vI fr, vI vc_3, v4, v5, v6, v7, v8, v9], [vI 0, vI (fr + vc_3), vR (y + 4)], aq_h m s F c_3)) rfl rfl ?_
      refine aq_as (kd := 0) rfl rfl (by omega) hG4 (by omega) (by omega) rfl rfl ?_
      show am_E _ (47, [vR y, vI n, vI fr, vI vc_3, v4, v5, v6, v7, v8, v9], [], aq_h m s F (aq_u c_3 (y + 4) (fr + vc_3) 0)) _
      generalize hdc_4 : aq_u c_3 (y + 4) (fr + vc_3) 0 = c_4
      have sc_4 := aq_smu (aq_smt hs (aq_smi sc_3 (fun a h => by omega))) hdc_4 (by omega)
      have hobc_4 := mo_ku (mo_ks hob sc_3 (by omega)) hdc_4 (Or.inl (by omega))
      refine am_E.go (t2 := (48, [vR y, vI n, vI fr, vI vc_3, v4, v5, v6, v7, v8, v9], [vR y], aq_h m s F c_4)) rfl rfl ?_
      refine aq_gf (v := vR (y + 14)) rfl (by omega) hFo (by decide) rfl ?_
      show am_E _ (51, [vR y, vI n, vI fr, vI vc_3, v4, v5, v6, v7, v8, v9], [vR (y + 14)], aq_h m s F c_4) _
      refine am_E.go (t2 := (52, [vR y, vI n, vI fr, vI vc_3, v4, v5, v6, v7, v8, v9], [vI 0, vR (y + 14)], aq_h m s F c_4)) rfl rfl ?_
      refine am_E.go (t2 := (53, [vR y, vI n, vI fr, vI vc_3, v4, v5, v6, v7, v8, v9], [vI vc_3, vI 0, vR (y + 14)], aq_h m s F c_4)) rfl rfl ?_
      refine aq_as (kd := 0) rfl rfl (by omega) hG14 (by omega) (by omega) rfl rfl ?_
      show am_E _ (54, [vR y, vI n, vI fr, vI vc_3, v4, v5, v6, v7, v8, v9], [], aq_h m s F (aq_u c_4 (y + 14) 0 vc_3)) _
      generalize hdc_5 : aq_u c_4 (y + 14) 0 vc_3 = c_5
      have sc_5 := aq_smu sc_4 hdc_5 (by omega)
      have hobc_5 := mo_ku hobc_4 hdc_5 (Or.inl (by omega))
      refine am_E.go (t2 := (55, [vR y, vI n, vI fr, vI vc_3, v4, v5, v6, v7, v8, v9], [vI 1], aq_h m s F c_5)) rfl rfl ?_
      refine am_E.go (t2 := (57, [vR y, vI n, vI fr, vI vc_3, vI 1, v5, v6, v7, v8, v9], [], aq_h m s F c_5)) rfl rfl ?_
      refine am_E.go (t2 := (58, [vR y, vI n, vI fr, vI vc_3, vI 1, v5, v6, v7, v8, v9], [vI 0], aq_h m s F c_5)) rfl rfl ?_
      refine am_E.go (t2 := (60, [vR y, vI n, vI fr, vI vc_3, vI 1, vI 0, v6, v7, v8, v9], [], aq_h m s F c_5)) rfl rfl ?_
      have e4 : ∀ j, c_5 (y + 4) j = if j = fr + vc_3 then 0 else c (y + 4) j := fun j => by
        rw [← hdc_5, aq_un (Or.inl (by omega)), ← hdc_4]
        by_cases e : j = fr + vc_3
        · rw [e, aq_us, if_pos rfl]
        · rw [aq_un (Or.inr e), if_neg e, sc_3 _ (by omega)]
      have e3 : ∀ j, c_5 (y + 3) j = c0 (y + 3) j := fun j => by rw [← hdc_5, aq_un (Or.inl (by omega)), ← hdc_4, aq_un (Or.inl (by omega)), sc_3 _ (by omega)]; exact h3 j
      have fw1 : fw_ y fr (bx_K n) 1 c0 c_5 := by
        refine ⟨fun b5 k0 k1 => ?_, fun b5 k0 k1 => by rw [e3]; exact hA0 b5 k0 k1, fun i k0 k1 => ?_, ?_, fun j k0 => ⟨e3 j, by rw [e4, if_neg (by omega)]; exact h4 j k0⟩⟩
        · rw [e4]
          split
          · exact Or.inr ⟨by omega, by omega⟩
          · exact Or.inl (hz b5 k0 (by omega))
        · have e5 : i = 0 := by omega
          rw [e5, ← hdc_5, aq_us]
          exact ⟨by omega, by omega⟩
        · simp only [e4]
          rw [fw_ne (g := fun b => c (y + 4) (fr + b)) (b := vc_3) (hz _ (by omega) (by omega)) (by rw [if_pos rfl]; omega) (fun i hi => by rw [if_neg (by omega)]) (bx_K n).toNat, fw_z _ (fun i k0 k1 => hz i k0 (by omega)), if_pos (by omega)]
          rfl
      exact qm_fw_k ⟨hm, hFo, hG5, hG6, hG7, hG8, hG9, hG10, hG11, hG12, hG13, hG14, hG15, hG16, hG17, hG18, hG19, hG20, hG21, hG22, hG23⟩ ⟨hT1, hTt⟩ hG2 hG3 hG4 hn1 hn4 hfr 106 vc_3 1 0 (v6) (v7) (v8) (v9) c_5 sc_5 (by omega) (by omega) (by omega) hobc_5 fw1 (by omega)
    · refine am_E.go (t2 := (16, [vR y, vI n, vI fr, vI b, v4, v5, v6, v7, v8, v9], [vR y], aq_h m s F c)) rfl rfl ?_
      refine aq_gf (v := vR (y + 4)) rfl (by omega) hFo (by decide) rfl ?_
      show am_E _ (19, [vR y, vI n, vI fr, vI b, v4, v5, v6, v7, v8, v9], [vR (y + 4)], aq_h m s F c) _
      refine am_E.go (t2 := (20, [vR y, vI n, vI fr, vI b, v4, v5, v6, v7, v8, v9], [vI fr, vR (y + 4)], aq_h m s F c)) rfl rfl ?_
      refine am_E.go (t2 := (21, [vR y, vI n, vI fr, vI b, v4, v5, v6, v7, v8, v9], [vI b, vI fr, vR (y + 4)], aq_h m s F c)) rfl rfl ?_
      refine ae_add rfl (am_ri (by omega) (by omega)) ?_
      show am_E _ (22, [vR y, vI n, vI fr, vI b, v4, v5, v6, v7, v8, v9], [vI (fr + b), vR (y + 4)], aq_h m s F c) _
      refine am_E.go (t2 := (24, [vR y, vI n, vI fr, vI b, v4, v5, v6, v7, v8, v9], [vI (-4), vI (fr + b), vR (y + 4)], aq_h m s F c)) rfl rfl ?_
      refine aq_as (kd := 0) rfl rfl (by omega) hG4 (by omega) (by omega) rfl rfl ?_
      show am_E _ (25, [vR y, vI n, vI fr, vI b, v4, v5, v6, v7, v8, v9], [], aq_h m s F (aq_u c (y + 4) (fr + b) (-4))) _
      generalize hdc_6 : aq_u c (y + 4) (fr + b) (-4) = c_6
      have sc_6 := aq_smu hs hdc_6 (by omega)
      have hobc_6 := mo_ku hob hdc_6 (Or.inl (by omega))
      refine ae_iinc rfl rfl (am_ri (by omega) (by omega)) ?_
      show am_E _ (28, [vR y, vI n, vI fr, vI (b + 1), v4, v5, v6, v7, v8, v9], [], aq_h m s F c_6) _
      refine am_E.go (t2 := (7, [vR y, vI n, vI fr, vI (b + 1), v4, v5, v6, v7, v8, v9], [], aq_h m s F c_6)) rfl rfl ?_
      exact qm_fw_z ⟨hm, hFo, hG5, hG6, hG7, hG8, hG9, hG10, hG11, hG12, hG13, hG14, hG15, hG16, hG17, hG18, hG19, hG20, hG21, hG22, hG23⟩ ⟨hT1, hTt⟩ hG2 hG3 hG4 hn1 hn4 hfr hA0 d (b + 1) (v4) (v5) (v6) (v7) (v8) (v9) c_6 sc_6 (by omega) (by omega) (fun i h5 h6 => by rw [← hdc_6]; by_cases e : i = b; (rw [e, aq_us]); rw [aq_un (Or.inr (by omega))]; exact hz i h5 (by omega)) (fun j => by rw [← hdc_6, aq_un (Or.inl (by omega))]; exact h3 j) (fun j h5 => by rw [← hdc_6, aq_un (Or.inr (by omega))]; exact h4 j h5) hobc_6 (by omega)

theorem qm_findWords {m s : Nat} {F : aq_F} {c : aq_C} {y : Nat} (hO : mo_0 m F y) {tbl : Int → Int} (hT : mo_T F y tbl) (hG2 : F (y + 2) = (0, 124, fun _ => .inl 0)) (hG3 : F (y + 3) = (0, 124, fun _ => .inl 0)) (hG4 : F (y + 4) = (0, 124, fun _ => .inl 0)) {n : Int} (hn1 : 1 ≤ n) (hn4 : n ≤ 4) (hA0 : ∀ b, 0 ≤ b → b < bx_K n → 0 ≤ c (y + 3) (mo_f n + b) ∧ c (y + 3) (mo_f n + b) < bx_K n) : am_E ac_X5_findWords (0, [vR y, vI n, vU, vU, vU, vU, vU, vU, vU, vU], [], aq_h m s F c) (aq_Z m s F (fun a => a = y ∨ a = y + 2 ∨ a = y + 3 ∨ a = y + 4 ∨ a = y + 12 ∨ a = y + 13 ∨ a = y + 14) c (fun r d => r = none ∧ mo_k y c d ∧ (∀ b, 0 ≤ b → b < bx_K n → -4 ≤ d (y + 4) (mo_f n + b) ∧ d (y + 4) (mo_f n + b) ≤ 105 ∧ 0 ≤ d (y + 3) (mo_f n + b) ∧ d (y + 3) (mo_f n + b) < bx_K n) ∧ ∀ j, (j < mo_f n ∨ mo_f n + bx_K n ≤ j) → d (y + 3) j = c (y + 3) j ∧ d (y + 4) j = c (y + 4) j)) := by
  obtain ⟨hm, hFo, hG5, hG6, hG7, hG8, hG9, hG10, hG11, hG12, hG13, hG14, hG15, hG16, hG17, hG18, hG19, hG20, hG21, hG22, hG23⟩ := hO
  obtain ⟨hT1, hTt⟩ := hT
  have hfs := mo_fs n
  refine am_E.go (t2 := (1, [vR y, vI n, vU, vU, vU, vU, vU, vU, vU, vU], [vI n], aq_h m s F c)) rfl rfl ?_
  refine am_E.call rfl rfl rfl (Nat.le_of_ble_eq_true rfl) (qm_first) ?_
  rintro r5 h5 ⟨rfl, fr, rfl, hfr⟩
  show am_E _ (4, [vR y, vI n, vU, vU, vU, vU, vU, vU, vU, vU], [vI fr], aq_h m s F c) _
  refine am_E.go (t2 := (5, [vR y, vI n, vI fr, vU, vU, vU, vU, vU, vU, vU], [], aq_h m s F c)) rfl rfl ?_
  refine am_E.go (t2 := (6, [vR y, vI n, vI fr, vU, vU, vU, vU, vU, vU, vU], [vI 0], aq_h m s F c)) rfl rfl ?_
  refine am_E.go (t2 := (7, [vR y, vI n, vI fr, vI 0, vU, vU, vU, vU, vU, vU], [], aq_h m s F c)) rfl rfl ?_
  exact qm_fw_z ⟨hm, hFo, hG5, hG6, hG7, hG8, hG9, hG10, hG11, hG12, hG13, hG14, hG15, hG16, hG17, hG18, hG19, hG20, hG21, hG22, hG23⟩ ⟨hT1, hTt⟩ hG2 hG3 hG4 hn1 hn4 hfr (by rw [hfr]; exact hA0) 107 0 (vU) (vU) (vU) (vU) (vU) (vU) c (aq_sm0 (c := c) (S := (fun a => a = y ∨ a = y + 2 ∨ a = y + 3 ∨ a = y + 4 ∨ a = y + 12 ∨ a = y + 13 ∨ a = y + 14))) (by omega) (by omega) (fun i h5 h6 => absurd h6 (by omega)) (fun _ => rfl) (fun _ _ => rfl) (mo_k0 (y := y) (c := c)) (by omega)
