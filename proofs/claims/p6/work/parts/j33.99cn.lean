
theorem bo_v {A : Nat} {N p q : Int} {m : Int → Int} {c c1 c2 : aq_C} (hM : ∀ i, 0 ≤ i → i < N → c A i = m i) (e1 : aq_u c A p q = c1) (e2 : aq_u c1 A q p = c2) : ∀ i, 0 ≤ i → i < N → c2 A i = up1 (up1 m p q) q p i := by
  intro i i0 i1
  unfold up1
  by_cases h1 : i = q
  · rw [if_pos h1, ← e2, h1, aq_us]
  · rw [if_neg h1, ← e2, aq_un (Or.inr h1)]
    by_cases h2 : i = p
    · rw [if_pos h2, ← e1, h2, aq_us]
    · rw [if_neg h2, ← e1, aq_un (Or.inr h2)]
      exact hM i i0 i1

theorem qy_mbox_2 {m s : Nat} {F : aq_F} {c0 : aq_C} {y : Nat} (hO : mo_0 m F y) {tbl : Int → Int} (hT : mo_T F y tbl) (hI : mo_I y c0) {n w : Int} (hw : am_r64 w) (hn1 : 1 ≤ n) (hn4 : n ≤ 4) {T : Int} : ∀ (d : Nat) (mm : Int → Int) (k : Int) (v5 : am_V) (v6 : am_V) (c : aq_C) (hs : aq_sm (fun a => a = y + 12) c0 c) (h0 : 0 ≤ k) (h1 : k ≤ n) (hM : ∀ i, 0 ≤ i → i < 8 → c (y + 12) i = mm i) (hbi : bi_ n k mm) (hq : bm_ n w d k mm = T) (hd : n - k < (d : Int)), am_E ac_X5_box (54, [vR y, vI n, vL w, vU, vI k, v5, v6], [], aq_h m s F c) (aq_Z m s F (fun a => y ≤ a ∧ a < y + 24) c0 (fun r d => r = some (vI (T)) ∧ mo_I y d))
  | 0, mm, k, v5, v6, c, hs, h0, h1, hM, hbi, hq, hd => by exfalso; omega
  | d + 1, mm, k, v5, v6, c, hs, h0, h1, hM, hbi, hq, hd => by
    obtain ⟨hm, hFo, hG5, hG6, hG7, hG8, hG9, hG10, hG11, hG12, hG13, hG14, hG15, hG16, hG17, hG18, hG19, hG20, hG21, hG22, hG23⟩ := hO
    obtain ⟨hT1, hTt⟩ := hT
    refine am_E.go (t2 := (56, [vR y, vI n, vL w, vU, vI k, v5, v6], [vI k], aq_h m s F c)) rfl rfl ?_
    refine am_E.go (t2 := (57, [vR y, vI n, vL w, vU, vI k, v5, v6], [vI n, vI k], aq_h m s F c)) rfl rfl ?_
    refine ae_icmp rfl (fun (q_1 : n ≤ k) => ?_) (fun (q_1 : k < n) => ?_)
    · refine am_E.go (t2 := (164, [vR y, vI n, vL w, vU, vI k, v5, v6], [vR y], aq_h m s F c)) rfl rfl ?_
      refine am_E.go (t2 := (165, [vR y, vI n, vL w, vU, vI k, v5, v6], [vI n, vR y], aq_h m s F c)) rfl rfl ?_
      refine aq_callv (y := 2) (as2 := [vI n]) (rest := []) rfl rfl (by decide) (Nat.le_of_ble_eq_true rfl) rfl rfl (Nat.le_of_ble_eq_true rfl) (by omega) hFo rfl (Nat.le_of_ble_eq_true rfl) (qm_numberOf ⟨hm, hFo, hG5, hG6, hG7, hG8, hG9, hG10, hG11, hG12, hG13, hG14, hG15, hG16, hG17, hG18, hG19, hG20, hG21, hG22, hG23⟩ ⟨hT1, hTt⟩ hn1 hn4) ?_
      rintro r5 h5 ⟨rfl, v_fin, rfl, hv_fin⟩
      show am_E _ (168, [vR y, vI n, vL w, vU, vI k, v5, v6], [vI v_fin], aq_h m s F c) _
      refine am_E.ret rfl rfl ?_
      have ek : k = n := by omega
      rw [ek] at hbi
      have hfi := bi_e (by omega) hbi
      refine ⟨_, rfl, aq_smi hs (fun a h => by omega), ?_, mo_Is hI hs (mo_ks mo_k0 hs (by omega)) (by omega) (by omega) (by omega) (by omega) (by omega)⟩
      rw [← hq, bm_, if_neg (by omega)]
      rcases hv_fin with ⟨h5, h6, h7⟩ | ⟨_, h7⟩
      · rw [nu_v (f := mm) hn1 hn4 h5 h6 (fun i k0 k1 => by rw [h7 i k0 k1, hM i k0 (by omega)])]
      · exfalso
        obtain ⟨b5, h8, h9, hA⟩ := pr_c hn1 hn4 hfi
        obtain ⟨i, hB, hC, hD⟩ := h7 b5 h8 h9
        exact hD (by rw [hA i hB hC, hM i hB (by omega)])
    · refine am_E.go (t2 := (61, [vR y, vI n, vL w, vU, vI k, v5, v6], [vL w], aq_h m s F c)) rfl rfl ?_
      refine am_E.go (t2 := (63, [vR y, vI n, vL w, vU, vI k, v5, v6], [vI 8, vL w], aq_h m s F c)) rfl rfl ?_
      refine am_E.go (t2 := (65, [vR y, vI n, vL w, vU, vI k, v5, v6], [vI k, vI 8, vL w], aq_h m s F c)) rfl rfl ?_
      refine ae_mul rfl (am_ri (by omega) (by omega)) ?_
      show am_E _ (66, [vR y, vI n, vL w, vU, vI k, v5, v6], [vI (8 * k), vL w], aq_h m s F c) _
      refine am_E.go (t2 := (67, [vR y, vI n, vL w, vU, vI k, v5, v6], [vL (am_shrL w (8 * k))], aq_h m s F c)) rfl rfl ?_
      refine am_E.go (t2 := (70, [vR y, vI n, vL w, vU, vI k, v5, v6], [vL 15, vL (am_shrL w (8 * k))], aq_h m s F c)) rfl rfl ?_
      refine am_E.go (t2 := (71, [vR y, vI n, vL w, vU, vI k, v5, v6], [vL (am_andl (am_shrL w (8 * k)) 15)], aq_h m s F c)) rfl rfl ?_
      refine am_E.go (t2 := (72, [vR y, vI n, vL w, vU, vI k, v5, v6], [vI (am_w (am_andl (am_shrL w (8 * k)) 15))], aq_h m s F c)) rfl rfl ?_
      rw [nb_m0 (w := w) (k := k) hw h0 (by omega)]
      have bnb_m0 := nb_b w (2 * k)
      refine am_E.go (t2 := (74, [vR y, vI n, vL w, vU, vI k, vI (nb_ w (2 * k)), v6], [], aq_h m s F c)) rfl rfl ?_
      refine am_E.go (t2 := (75, [vR y, vI n, vL w, vU, vI k, vI (nb_ w (2 * k)), v6], [vL w], aq_h m s F c)) rfl rfl ?_
      refine am_E.go (t2 := (77, [vR y, vI n, vL w, vU, vI k, vI (nb_ w (2 * k)), v6], [vI 8, vL w], aq_h m s F c)) rfl rfl ?_
      refine am_E.go (t2 := (79, [vR y, vI n, vL w, vU, vI k, vI (nb_ w (2 * k)), v6], [vI k, vI 8, vL w], aq_h m s F c)) rfl rfl ?_
      refine ae_mul rfl (am_ri (by omega) (by omega)) ?_
      show am_E _ (80, [vR y, vI n, vL w, vU, vI k, vI (nb_ w (2 * k)), v6], [vI (8 * k), vL w], aq_h m s F c) _
      refine am_E.go (t2 := (81, [vR y, vI n, vL w, vU, vI k, vI (nb_ w (2 * k)), v6], [vI 4, vI (8 * k), vL w], aq_h m s F c)) rfl rfl ?_
      refine ae_add rfl (am_ri (by omega) (by omega)) ?_
      show am_E _ (82, [vR y, vI n, vL w, vU, vI k, vI (nb_ w (2 * k)), v6], [vI ((8 * k) + 4), vL w], aq_h m s F c) _
      refine am_E.go (t2 := (83, [vR y, vI n, vL w, vU, vI k, vI (nb_ w (2 * k)), v6], [vL (am_shrL w ((8 * k) + 4))], aq_h m s F c)) rfl rfl ?_
      refine am_E.go (t2 := (86, [vR y, vI n, vL w, vU, vI k, vI (nb_ w (2 * k)), v6], [vL 15, vL (am_shrL w ((8 * k) + 4))], aq_h m s F c)) rfl rfl ?_
      refine am_E.go (t2 := (87, [vR y, vI n, vL w, vU, vI k, vI (nb_ w (2 * k)), v6], [vL (am_andl (am_shrL w ((8 * k) + 4)) 15)], aq_h m s F c)) rfl rfl ?_
      refine am_E.go (t2 := (88, [vR y, vI n, vL w, vU, vI k, vI (nb_ w (2 * k)), v6], [vI (am_w (am_andl (am_shrL w ((8 * k) + 4)) 15))], aq_h m s F c)) rfl rfl ?_
      rw [nb_m1 (w := w) (k := k) hw h0 (by omega)]
      have bnb_m1 := nb_b w (2 * k + 1)
      refine am_E.go (t2 := (90, [vR y, vI n, vL w, vU, vI k, vI (nb_ w (2 * k)), vI (nb_ w (2 * k + 1))], [], aq_h m s F c)) rfl rfl ?_
      refine am_E.go (t2 := (92, [vR y, vI n, vL w, vU, vI k, vI (nb_ w (2 * k)), vI (nb_ w (2 * k + 1))], [vI (nb_ w (2 * k))], aq_h m s F c)) rfl rfl ?_
      refine am_E.go (t2 := (93, [vR y, vI n, vL w, vU, vI k, vI (nb_ w (2 * k)), vI (nb_ w (2 * k + 1))], [vI 2, vI (nb_ w (2 * k))], aq_h m s F c)) rfl rfl ?_
      refine am_E.go (t2 := (94, [vR y, vI n, vL w, vU, vI k, vI (nb_ w (2 * k)), vI (nb_ w (2 * k + 1))], [vI n, vI 2, vI (nb_ w (2 * k))], aq_h m s F c)) rfl rfl ?_
      refine ae_mul rfl (am_ri (by omega) (by omega)) ?_
      show am_E _ (95, [vR y, vI n, vL w, vU, vI k, vI (nb_ w (2 * k)), vI (nb_ w (2 * k + 1))], [vI (2 * n), vI (nb_ w (2 * k))], aq_h m s F c) _
      refine ae_icmp rfl (fun (q_2 : (2 * n) ≤ (nb_ w (2 * k))) => ?_) (fun (q_2 : (nb_ w (2 * k)) < (2 * n)) => ?_)
      · refine am_E.go (t2 := (138, [vR y, vI n, vL w, vU, vI k, vI (nb_ w (2 * k)), vI (nb_ w (2 * k + 1))], [vI (-1)], aq_h m s F c)) rfl rfl ?_
        refine am_E.ret rfl rfl ?_
        exact ⟨_, rfl, aq_smi hs (fun a h => by omega), by rw [← hq, bm_, if_pos (by omega), if_neg (by omega)], mo_Is hI hs (mo_ks mo_k0 hs (by omega)) (by omega) (by omega) (by omega) (by omega) (by omega)⟩
      · refine am_E.go (t2 := (100, [vR y, vI n, vL w, vU, vI k, vI (nb_ w (2 * k)), vI (nb_ w (2 * k + 1))], [vI (nb_ w (2 * k + 1))], aq_h m s F c)) rfl rfl ?_
        refine am_E.go (t2 := (101, [vR y, vI n, vL w, vU, vI k, vI (nb_ w (2 * k)), vI (nb_ w (2 * k + 1))], [vI 2, vI (nb_ w (2 * k + 1))], aq_h m s F c)) rfl rfl ?_
        refine am_E.go (t2 := (102, [vR y, vI n, vL w, vU, vI k, vI (nb_ w (2 * k)), vI (nb_ w (2 * k + 1))], [vI n, vI 2, vI (nb_ w (2 * k + 1))], aq_h m s F c)) rfl rfl ?_
        refine ae_mul rfl (am_ri (by omega) (by omega)) ?_
        show am_E _ (103, [vR y, vI n, vL w, vU, vI k, vI (nb_ w (2 * k)), vI (nb_ w (2 * k + 1))], [vI (2 * n), vI (nb_ w (2 * k + 1))], aq_h m s F c) _
        refine ae_icmp rfl (fun (q_3 : (2 * n) ≤ (nb_ w (2 * k + 1))) => ?_) (fun (q_3 : (nb_ w (2 * k + 1)) < (2 * n)) => ?_)
        · refine am_E.go (t2 := (138, [vR y, vI n, vL w, vU, vI k, vI (nb_ w (2 * k)), vI (nb_ w (2 * k + 1))], [vI (-1)], aq_h m s F c)) rfl rfl ?_
          refine am_E.ret rfl rfl ?_
          exact ⟨_, rfl, aq_smi hs (fun a h => by omega), by rw [← hq, bm_, if_pos (by omega), if_neg (by omega)], mo_Is hI hs (mo_ks mo_k0 hs (by omega)) (by omega) (by omega) (by omega) (by omega) (by omega)⟩
        · refine am_E.go (t2 := (108, [vR y, vI n, vL w, vU, vI k, vI (nb_ w (2 * k)), vI (nb_ w (2 * k + 1))], [vI (nb_ w (2 * k))], aq_h m s F c)) rfl rfl ?_
          refine am_E.go (t2 := (110, [vR y, vI n, vL w, vU, vI k, vI (nb_ w (2 * k)), vI (nb_ w (2 * k + 1))], [vI (nb_ w (2 * k + 1)), vI (nb_ w (2 * k))], aq_h m s F c)) rfl rfl ?_
          refine ae_icmp rfl (fun (q_4 : (nb_ w (2 * k)) = (nb_ w (2 * k + 1))) => ?_) (fun (q_4 : (nb_ w (2 * k)) ≠ (nb_ w (2 * k + 1))) => ?_)
          · refine am_E.go (t2 := (138, [vR y, vI n, vL w, vU, vI k, vI (nb_ w (2 * k)), vI (nb_ w (2 * k + 1))], [vI (-1)], aq_h m s F c)) rfl rfl ?_
            refine am_E.ret rfl rfl ?_
            exact ⟨_, rfl, aq_smi hs (fun a h => by omega), by rw [← hq, bm_, if_pos (by omega), if_neg (by omega)], mo_Is hI hs (mo_ks mo_k0 hs (by omega)) (by omega) (by omega) (by omega) (by omega) (by omega)⟩
          · refine am_E.go (t2 := (114, [vR y, vI n, vL w, vU, vI k, vI (nb_ w (2 * k)), vI (nb_ w (2 * k + 1))], [vR y], aq_h m s F c)) rfl rfl ?_
            refine aq_gf (v := vR (y + 12)) rfl (by omega) hFo (by decide) rfl ?_
            show am_E _ (117, [vR y, vI n, vL w, vU, vI k, vI (nb_ w (2 * k)), vI (nb_ w (2 * k + 1))], [vR (y + 12)], aq_h m s F c) _
            refine am_E.go (t2 := (119, [vR y, vI n, vL w, vU, vI k, vI (nb_ w (2 * k)), vI (nb_ w (2 * k + 1))], [vI (nb_ w (2 * k)), vR (y + 12)], aq_h m s F c)) rfl rfl ?_
            refine aq_al (ok := fun k => k == 0) (v := vI (c (y + 12) (nb_ w (2 * k)))) rfl rfl (by omega) hG12 rfl (by omega) (by omega) rfl ?_
            show am_E _ (120, [vR y, vI n, vL w, vU, vI k, vI (nb_ w (2 * k)), vI (nb_ w (2 * k + 1))], [vI (c (y + 12) (nb_ w (2 * k)))], aq_h m s F c) _
            have f_5 := hM (nb_ w (2 * k)) (by omega) (by omega)
            refine am_E.go (t2 := (122, [vR y, vI n, vL w, vU, vI k, vI (nb_ w (2 * k)), vI (nb_ w (2 * k + 1))], [vI (-4), vI (c (y + 12) (nb_ w (2 * k)))], aq_h m s F c)) rfl rfl ?_
            refine ae_icmp rfl (fun (q_6 : (c (y + 12) (nb_ w (2 * k))) ≠ (-4)) => ?_) (fun (q_6 : (c (y + 12) (nb_ w (2 * k))) = (-4)) => ?_)
            · refine am_E.go (t2 := (138, [vR y, vI n, vL w, vU, vI k, vI (nb_ w (2 * k)), vI (nb_ w (2 * k + 1))], [vI (-1)], aq_h m s F c)) rfl rfl ?_
              refine am_E.ret rfl rfl ?_
              exact ⟨_, rfl, aq_smi hs (fun a h => by omega), by rw [← hq, bm_, if_pos (by omega), if_neg (by omega)], mo_Is hI hs (mo_ks mo_k0 hs (by omega)) (by omega) (by omega) (by omega) (by omega) (by omega)⟩
            · refine am_E.go (t2 := (126, [vR y, vI n, vL w, vU, vI k, vI (nb_ w (2 * k)), vI (nb_ w (2 * k + 1))], [vR y], aq_h m s F c)) rfl rfl ?_
              refine aq_gf (v := vR (y + 12)) rfl (by omega) hFo (by decide) rfl ?_
              show am_E _ (129, [vR y, vI n, vL w, vU, vI k, vI (nb_ w (2 * k)), vI (nb_ w (2 * k + 1))], [vR (y + 12)], aq_h m s F c) _
              refine am_E.go (t2 := (131, [vR y, vI n, vL w, vU, vI k, vI (nb_ w (2 * k)), vI (nb_ w (2 * k + 1))], [vI (nb_ w (2 * k + 1)), vR (y + 12)], aq_h m s F c)) rfl rfl ?_
              refine aq_al (ok := fun k => k == 0) (v := vI (c (y + 12) (nb_ w (2 * k + 1)))) rfl rfl (by omega) hG12 rfl (by omega) (by omega) rfl ?_
              show am_E _ (132, [vR y, vI n, vL w, vU, vI k, vI (nb_ w (2 * k)), vI (nb_ w (2 * k + 1))], [vI (c (y + 12) (nb_ w (2 * k + 1)))], aq_h m s F c) _
              have f_7 := hM (nb_ w (2 * k + 1)) (by omega) (by omega)
              refine am_E.go (t2 := (134, [vR y, vI n, vL w, vU, vI k, vI (nb_ w (2 * k)), vI (nb_ w (2 * k + 1))], [vI (-4), vI (c (y + 12) (nb_ w (2 * k + 1)))], aq_h m s F c)) rfl rfl ?_
              refine ae_icmp rfl (fun (q_8 : (c (y + 12) (nb_ w (2 * k + 1))) = (-4)) => ?_) (fun (q_8 : (c (y + 12) (nb_ w (2 * k + 1))) ≠ (-4)) => ?_)
              · refine am_E.go (t2 := (140, [vR y, vI n, vL w, vU, vI k, vI (nb_ w (2 * k)), vI (nb_ w (2 * k + 1))], [vR y], aq_h m s F c)) rfl rfl ?_
                refine aq_gf (v := vR (y + 12)) rfl (by omega) hFo (by decide) rfl ?_
                show am_E _ (143, [vR y, vI n, vL w, vU, vI k, vI (nb_ w (2 * k)), vI (nb_ w (2 * k + 1))], [vR (y + 12)], aq_h m s F c) _
                refine am_E.go (t2 := (145, [vR y, vI n, vL w, vU, vI k, vI (nb_ w (2 * k)), vI (nb_ w (2 * k + 1))], [vI (nb_ w (2 * k)), vR (y + 12)], aq_h m s F c)) rfl rfl ?_
                refine am_E.go (t2 := (147, [vR y, vI n, vL w, vU, vI k, vI (nb_ w (2 * k)), vI (nb_ w (2 * k + 1))], [vI (nb_ w (2 * k + 1)), vI (nb_ w (2 * k)), vR (y + 12)], aq_h m s F c)) rfl rfl ?_
                refine aq_as (kd := 0) rfl rfl (by omega) hG12 (by omega) (by omega) rfl rfl ?_
                show am_E _ (148, [vR y, vI n, vL w, vU, vI k, vI (nb_ w (2 * k)), vI (nb_ w (2 * k + 1))], [], aq_h m s F (aq_u c (y + 12) (nb_ w (2 * k)) (nb_ w (2 * k + 1)))) _
                generalize hdc_9 : aq_u c (y + 12) (nb_ w (2 * k)) (nb_ w (2 * k + 1)) = c_9
                have sc_9 := aq_smu hs hdc_9 rfl
                refine am_E.go (t2 := (149, [vR y, vI n, vL w, vU, vI k, vI (nb_ w (2 * k)), vI (nb_ w (2 * k + 1))], [vR y], aq_h m s F c_9)) rfl rfl ?_
                refine aq_gf (v := vR (y + 12)) rfl (by omega) hFo (by decide) rfl ?_
                show am_E _ (152, [vR y, vI n, vL w, vU, vI k, vI (nb_ w (2 * k)), vI (nb_ w (2 * k + 1))], [vR (y + 12)], aq_h m s F c_9) _
                refine am_E.go (t2 := (154, [vR y, vI n, vL w, vU, vI k, vI (nb_ w (2 * k)), vI (nb_ w (2 * k + 1))], [vI (nb_ w (2 * k + 1)), vR (y + 12)], aq_h m s F c_9)) rfl rfl ?_
                refine am_E.go (t2 := (156, [vR y, vI n, vL w, vU, vI k, vI (nb_ w (2 * k)), vI (nb_ w (2 * k + 1))], [vI (nb_ w (2 * k)), vI (nb_ w (2 * k + 1)), vR (y + 12)], aq_h m s F c_9)) rfl rfl ?_
                refine aq_as (kd := 0) rfl rfl (by omega) hG12 (by omega) (by omega) rfl rfl ?_
                show am_E _ (157, [vR y, vI n, vL w, vU, vI k, vI (nb_ w (2 * k)), vI (nb_ w (2 * k + 1))], [], aq_h m s F (aq_u c_9 (y + 12) (nb_ w (2 * k + 1)) (nb_ w (2 * k)))) _
                generalize hdc_10 : aq_u c_9 (y + 12) (nb_ w (2 * k + 1)) (nb_ w (2 * k)) = c_10
                have sc_10 := aq_smu sc_9 hdc_10 rfl
                refine ae_iinc rfl rfl (am_ri (by omega) (by omega)) ?_
                show am_E _ (160, [vR y, vI n, vL w, vU, vI (k + 1), vI (nb_ w (2 * k)), vI (nb_ w (2 * k + 1))], [], aq_h m s F c_10) _
                refine am_E.go (t2 := (54, [vR y, vI n, vL w, vU, vI (k + 1), vI (nb_ w (2 * k)), vI (nb_ w (2 * k + 1))], [], aq_h m s F c_10)) rfl rfl ?_
                exact qy_mbox_2 ⟨hm, hFo, hG5, hG6, hG7, hG8, hG9, hG10, hG11, hG12, hG13, hG14, hG15, hG16, hG17, hG18, hG19, hG20, hG21, hG22, hG23⟩ ⟨hT1, hTt⟩ hI hw hn1 hn4 d (up1 (up1 mm (nb_ w (2 * k)) (nb_ w (2 * k + 1))) (nb_ w (2 * k + 1)) (nb_ w (2 * k))) (k + 1) (vI (nb_ w (2 * k))) (vI (nb_ w (2 * k + 1))) c_10 sc_10 (by omega) (by omega) (bo_v hM hdc_9 hdc_10) (bi_u hbi (by omega) (by omega) (by omega) (by omega) (by omega) (by omega) (by omega)) (by rw [← hq, bm_, if_pos (by omega), if_pos ⟨⟨by omega, by omega, by omega⟩, by omega, by omega⟩]) (by omega)
              · refine am_E.go (t2 := (138, [vR y, vI n, vL w, vU, vI k, vI (nb_ w (2 * k)), vI (nb_ w (2 * k + 1))], [vI (-1)], aq_h m s F c)) rfl rfl ?_
                refine am_E.ret rfl rfl ?_
                exact ⟨_, rfl, aq_smi hs (fun a h => by omega), by rw [← hq, bm_, if_pos (by omega), if_neg (by omega)], mo_Is hI hs (mo_ks mo_k0 hs (by omega)) (by omega) (by omega) (by omega) (by omega) (by omega)⟩

theorem qy_mbox_1 {m s : Nat} {F : aq_F} {c0 : aq_C} {y : Nat} (hO : mo_0 m F y) {tbl : Int → Int} (hT : mo_T F y tbl) (hI : mo_I y c0) {n w : Int} (hw : am_r64 w) (hn1 : 1 ≤ n) (hn4 : n ≤ 4) {T : Int} (hTq : bm_ n w 6 0 (fun _ => -4) = T) : ∀ (d : Nat) (k : Int) (v5 : am_V) (v6 : am_V) (c : aq_C) (hs : aq_sm (fun a => a = y + 12) c0 c) (h0 : 0 ≤ k) (h1 : k ≤ 8) (hz : ∀ i, 0 ≤ i → i < k → c (y + 12) i = (fun _ => -4) i) (hd : 8 - k < (d : Int)), am_E ac_X5_box (29, [vR y, vI n, vL w, vU, vI k, v5, v6], [], aq_h m s F c) (aq_Z m s F (fun a => y ≤ a ∧ a < y + 24) c0 (fun r d => r = some (vI (T)) ∧ mo_I y d))
  | 0, k, v5, v6, c, hs, h0, h1, hz, hd => by exfalso; omega
  | d + 1, k, v5, v6, c, hs, h0, h1, hz, hd => by
    obtain ⟨hm, hFo, hG5, hG6, hG7, hG8, hG9, hG10, hG11, hG12, hG13, hG14, hG15, hG16, hG17, hG18, hG19, hG20, hG21, hG22, hG23⟩ := hO
    obtain ⟨hT1, hTt⟩ := hT
    refine am_E.go (t2 := (31, [vR y, vI n, vL w, vU, vI k, v5, v6], [vI k], aq_h m s F c)) rfl rfl ?_
    refine am_E.go (t2 := (33, [vR y, vI n, vL w, vU, vI k, v5, v6], [vI 8, vI k], aq_h m s F c)) rfl rfl ?_
    refine ae_icmp rfl (fun (q_1 : 8 ≤ k) => ?_) (fun (q_1 : k < 8) => ?_)
    · refine am_E.go (t2 := (52, [vR y, vI n, vL w, vU, vI k, v5, v6], [vI 0], aq_h m s F c)) rfl rfl ?_
      refine am_E.go (t2 := (54, [vR y, vI n, vL w, vU, vI 0, v5, v6], [], aq_h m s F c)) rfl rfl ?_
      exact qy_mbox_2 ⟨hm, hFo, hG5, hG6, hG7, hG8, hG9, hG10, hG11, hG12, hG13, hG14, hG15, hG16, hG17, hG18, hG19, hG20, hG21, hG22, hG23⟩ ⟨hT1, hTt⟩ hI hw hn1 hn4 6 (fun _ => -4) 0 (v5) (v6) c hs (by omega) (by omega) (fun i i0 i1 => hz i i0 (by omega)) (bi_0 (by omega)) hTq (by omega)
    · refine am_E.go (t2 := (37, [vR y, vI n, vL w, vU, vI k, v5, v6], [vR y], aq_h m s F c)) rfl rfl ?_
      refine aq_gf (v := vR (y + 12)) rfl (by omega) hFo (by decide) rfl ?_
      show am_E _ (40, [vR y, vI n, vL w, vU, vI k, v5, v6], [vR (y + 12)], aq_h m s F c) _
      refine am_E.go (t2 := (42, [vR y, vI n, vL w, vU, vI k, v5, v6], [vI k, vR (y + 12)], aq_h m s F c)) rfl rfl ?_
      refine am_E.go (t2 := (44, [vR y, vI n, vL w, vU, vI k, v5, v6], [vI (-4), vI k, vR (y + 12)], aq_h m s F c)) rfl rfl ?_
      refine aq_as (kd := 0) rfl rfl (by omega) hG12 (by omega) (by omega) rfl rfl ?_
      show am_E _ (45, [vR y, vI n, vL w, vU, vI k, v5, v6], [], aq_h m s F (aq_u c (y + 12) k (-4))) _
      generalize hdc_2 : aq_u c (y + 12) k (-4) = c_2
      have sc_2 := aq_smu hs hdc_2 rfl
      refine ae_iinc rfl rfl (am_ri (by omega) (by omega)) ?_
      show am_E _ (48, [vR y, vI n, vL w, vU, vI (k + 1), v5, v6], [], aq_h m s F c_2) _
      refine am_E.go (t2 := (29, [vR y, vI n, vL w, vU, vI (k + 1), v5, v6], [], aq_h m s F c_2)) rfl rfl ?_
      exact qy_mbox_1 ⟨hm, hFo, hG5, hG6, hG7, hG8, hG9, hG10, hG11, hG12, hG13, hG14, hG15, hG16, hG17, hG18, hG19, hG20, hG21, hG22, hG23⟩ ⟨hT1, hTt⟩ hI hw hn1 hn4 hTq d (k + 1) (v5) (v6) c_2 sc_2 (by omega) (by omega) (aq_fl hz hdc_2 rfl) (by omega)

theorem qe_X5_box {m s : Nat} {F : aq_F} {c : aq_C} {y : Nat} (hC : mo_C m F y) (hI : mo_I y c) {n w : Int} (hw : am_r64 w) : am_E ac_X5_box (0, [vR y, vI n, vL w, vU, vU, vU, vU], [], aq_h m s F c) (aq_Z m s F (fun a => y ≤ a ∧ a < y + 24) c (fun r d => r = some (vI (bo_x n w)) ∧ mo_I y d)) := by
  obtain ⟨⟨hm, hFo, hG5, hG6, hG7, hG8, hG9, hG10, hG11, hG12, hG13, hG14, hG15, hG16, hG17, hG18, hG19, hG20, hG21, hG22, hG23⟩, ⟨tbl, hT1, hTt⟩, ⟨tA, tB, tD, hL1, hL2, hL3, hLt⟩⟩ := hC
  refine am_E.go (t2 := (1, [vR y, vI n, vL w, vU, vU, vU, vU], [vI n], aq_h m s F c)) rfl rfl ?_
  refine am_E.call rfl rfl rfl (Nat.le_of_ble_eq_true rfl) (qm_isWide) ?_
  rintro r5 h5 ⟨rfl, v_1, rfl, hv_1⟩
  show am_E _ (4, [vR y, vI n, vL w, vU, vU, vU, vU], [vI v_1], aq_h m s F c) _
  refine ae_if0 rfl (fun (q_2 : v_1 = 0) => ?_) (fun (q_2 : v_1 ≠ 0) => ?_)
  · refine am_E.go (t2 := (25, [vR y, vI n, vL w, vU, vU, vU, vU], [vI (-1)], aq_h m s F c)) rfl rfl ?_
    refine am_E.ret rfl rfl ?_
    refine ⟨_, rfl, aq_sm0, ?_, hI⟩
    unfold bo_x
    rw [if_neg (fun q5 => by first | omega | (have h9 := (bo_m (n := n) hw (by omega) (by omega)).mpr q5.2; omega))]
  · refine am_E.go (t2 := (8, [vR y, vI n, vL w, vU, vU, vU, vU], [vI n], aq_h m s F c)) rfl rfl ?_
    refine am_E.go (t2 := (10, [vR y, vI n, vL w, vU, vU, vU, vU], [vI 8, vI n], aq_h m s F c)) rfl rfl ?_
    refine ae_icmp rfl (fun (q_3 : 8 ≤ n) => ?_) (fun (q_3 : n < 8) => ?_)
    · refine am_E.go (t2 := (27, [vR y, vI n, vL w, vU, vU, vU, vU], [vI 0], aq_h m s F c)) rfl rfl ?_
      refine am_E.go (t2 := (29, [vR y, vI n, vL w, vU, vI 0, vU, vU], [], aq_h m s F c)) rfl rfl ?_
      exact qy_mbox_1 ⟨hm, hFo, hG5, hG6, hG7, hG8, hG9, hG10, hG11, hG12, hG13, hG14, hG15, hG16, hG17, hG18, hG19, hG20, hG21, hG22, hG23⟩ ⟨hT1, hTt⟩ hI hw (by omega) (by omega) (by unfold bo_x; rw [if_pos ⟨by omega, (bo_m hw (by omega) (by omega)).mp (by omega)⟩]) 10 0 (vU) (vU) c (aq_sm0 (c := c) (S := (fun a => a = y + 12))) (by omega) (by omega) (fun i h1 h2 => absurd h2 (by omega)) (by omega)
    · refine am_E.go (t2 := (14, [vR y, vI n, vL w, vU, vU, vU, vU], [vL w], aq_h m s F c)) rfl rfl ?_
      refine am_E.go (t2 := (16, [vR y, vI n, vL w, vU, vU, vU, vU], [vI 8, vL w], aq_h m s F c)) rfl rfl ?_
      refine am_E.go (t2 := (17, [vR y, vI n, vL w, vU, vU, vU, vU], [vI n, vI 8, vL w], aq_h m s F c)) rfl rfl ?_
      refine ae_mul rfl (am_ri (by omega) (by omega)) ?_
      show am_E _ (18, [vR y, vI n, vL w, vU, vU, vU, vU], [vI (8 * n), vL w], aq_h m s F c) _
      refine am_E.go (t2 := (19, [vR y, vI n, vL w, vU, vU, vU, vU], [vL (am_shrL w (8 * n))], aq_h m s F c)) rfl rfl ?_
      refine am_E.go (t2 := (20, [vR y, vI n, vL w, vU, vU, vU, vU], [vL 0, vL (am_shrL w (8 * n))], aq_h m s F c)) rfl rfl ?_
      have ez_4 := am_lcf (am_shrL w (8 * n)) 0
      refine am_E.go (t2 := (21, [vR y, vI n, vL w, vU, vU, vU, vU], [vI (if (am_shrL w (8 * n)) < 0 then -1 else if (am_shrL w (8 * n)) = 0 then 0 else 1)], aq_h m s F c)) rfl rfl ?_
      generalize (if (am_shrL w (8 * n)) < 0 then -1 else if (am_shrL w (8 * n)) = 0 then 0 else 1) = z_4 at ez_4 ⊢
      refine ae_if0 rfl (fun (q_5 : z_4 = 0) => ?_) (fun (q_5 : z_4 ≠ 0) => ?_)
      · refine am_E.go (t2 := (27, [vR y, vI n, vL w, vU, vU, vU, vU], [vI 0], aq_h m s F c)) rfl rfl ?_
        refine am_E.go (t2 := (29, [vR y, vI n, vL w, vU, vI 0, vU, vU], [], aq_h m s F c)) rfl rfl ?_
        exact qy_mbox_1 ⟨hm, hFo, hG5, hG6, hG7, hG8, hG9, hG10, hG11, hG12, hG13, hG14, hG15, hG16, hG17, hG18, hG19, hG20, hG21, hG22, hG23⟩ ⟨hT1, hTt⟩ hI hw (by omega) (by omega) (by unfold bo_x; rw [if_pos ⟨by omega, (bo_m hw (by omega) (by omega)).mp (by omega)⟩]) 10 0 (vU) (vU) c (aq_sm0 (c := c) (S := (fun a => a = y + 12))) (by omega) (by omega) (fun i h1 h2 => absurd h2 (by omega)) (by omega)
      · refine am_E.go (t2 := (25, [vR y, vI n, vL w, vU, vU, vU, vU], [vI (-1)], aq_h m s F c)) rfl rfl ?_
        refine am_E.ret rfl rfl ?_
        refine ⟨_, rfl, aq_sm0, ?_, hI⟩
        unfold bo_x
        rw [if_neg (fun q5 => by first | omega | (have h9 := (bo_m (n := n) hw (by omega) (by omega)).mpr q5.2; omega))]
