
theorem qn_X4_make {m s : Nat} {F : aq_F} {c : aq_C} (hC : sb_C m F) {t u : Nat} {w : Int} (hAt : su_0 m F t) (hAu : su_0 m F u) (ht : 8 ≤ t) (hu : 8 ≤ u) (h1 : 1 ≤ c t 0) (h4 : c t 0 ≤ 4) (hkt : su_k t (bx_K (c t 0)) c) (hku : su_k u (bx_K (c t 0)) c) : am_E ac_X4_make (0, [vR 0, vI w, vR t, vR u], [], aq_h m s F c) (aq_Z m s F (fun b => b = 4 ∨ b = 4 + 1 ∨ b = 4 + 2 ∨ b = 4 + 3) c (fun r d => ∃ v, r = some (vI v) ∧ (v = 0 ∨ v = 1) ∧ d 4 0 = c t 0 ∧ su_k 4 (bx_K (c t 0)) d)) := by
  obtain ⟨hCm, hC0, hC1, hC2, hC3, ⟨hma4, hFa4, hFn4, hFp4, hFf4⟩, ⟨hmx, hFx, hFl, hFw⟩, hCs, hCb, hCh⟩ := id hC
  obtain ⟨hmat, hFat, hFnt, hFpt, hFft⟩ := hAt
  obtain ⟨hmau, hFau, hFnu, hFpu, hFfu⟩ := hAu
  refine am_E.go (t2 := (1, [vR 0, vI w, vR t, vR u], [vR 0], aq_h m s F c)) rfl rfl ?_
  refine aq_gf (v := vR 4) rfl (by omega) hC0 (by decide) rfl ?_
  show am_E _ (4, [vR 0, vI w, vR t, vR u], [vR 4], aq_h m s F c) _
  refine am_E.go (t2 := (5, [vR 0, vI w, vR t, vR u], [vR t, vR 4], aq_h m s F c)) rfl rfl ?_
  refine aq_gf (v := vI (c t 0)) rfl (by omega) hFat (by decide) rfl ?_
  show am_E _ (8, [vR 0, vI w, vR t, vR u], [vI (c t 0), vR 4], aq_h m s F c) _
  have f_1 := (aq_sm0 (c := c) (S := (fun b => b = 4 ∨ b = 4 + 1 ∨ b = 4 + 2 ∨ b = 4 + 3))) t (by omega) 0
  refine aq_callv (y := 2) (as2 := [vI (c t 0)]) (rest := []) rfl rfl (by decide) (Nat.le_of_ble_eq_true rfl) rfl rfl (Nat.le_of_ble_eq_true rfl) (by omega) hFa4 rfl (Nat.le_of_ble_eq_true rfl) (qn_X3_begin (a := 4) ⟨hma4, hFa4, hFn4, hFp4, hFf4⟩) ?_
  rintro r5 h5 ⟨c_g, rfl, s_g, rfl, hb0, hb1⟩
  show am_E _ (11, [vR 0, vI w, vR t, vR u], [], aq_h m s F c_g) _
  have hk_g : su_k 4 (bx_K (c t 0)) c_g := ⟨by omega, by omega, fun i h1 h2 => absurd h2 (by omega)⟩
  refine am_E.go (t2 := (12, [vR 0, vI w, vR t, vR u], [vI w], aq_h m s F c_g)) rfl rfl ?_
  refine am_E.go (t2 := (13, [vR 0, vI w, vR t, vR u], [vI 2, vI w], aq_h m s F c_g)) rfl rfl ?_
  refine ae_icmp rfl (fun (q_2 : w ≠ 2) => ?_) (fun (q_2 : w = 2) => ?_)
  · refine am_E.go (t2 := (38, [vR 0, vI w, vR t, vR u], [vR 0], aq_h m s F c_g)) rfl rfl ?_
    refine aq_gf (v := vR 4) rfl (by omega) hC0 (by decide) rfl ?_
    show am_E _ (41, [vR 0, vI w, vR t, vR u], [vR 4], aq_h m s F c_g) _
    refine am_E.go (t2 := (42, [vR 0, vI w, vR t, vR u], [vR t, vR 4], aq_h m s F c_g)) rfl rfl ?_
    refine am_E.go (t2 := (43, [vR 0, vI w, vR t, vR u], [vI 1, vR t, vR 4], aq_h m s F c_g)) rfl rfl ?_
    refine aq_callv (y := 3) (as2 := [vR t, vI 1]) (rest := []) rfl rfl (by decide) (Nat.le_of_ble_eq_true rfl) rfl rfl (Nat.le_of_ble_eq_true rfl) (by omega) hFa4 rfl (Nat.le_of_ble_eq_true rfl) (qn_X3_joinAll (a := 4) (k := bx_K (c t 0)) ⟨hma4, hFa4, hFn4, hFp4, hFf4⟩ (t := t) ⟨hmat, hFat, hFnt, hFpt, hFft⟩ (su_kc (s_g t (by omega)) (s_g (t + 1) (by omega)) (s_g (t + 3) (by omega)) hkt) (by omega) hk_g) ?_
    rintro r5 h5 ⟨c_a, rfl, s_a, v_a, rfl, hv_a, e_a, hk_a⟩
    show am_E _ (46, [vR 0, vI w, vR t, vR u], [vI v_a], aq_h m s F c_a) _
    refine ae_if0 rfl (fun (q_3 : v_a = 0) => ?_) (fun (q_3 : v_a ≠ 0) => ?_)
    · refine am_E.go (t2 := (74, [vR 0, vI w, vR t, vR u], [vI 0], aq_h m s F c_a)) rfl rfl ?_
      refine am_E.ret rfl rfl ?_
      exact ⟨_, rfl, (aq_smt s_g s_a), _, rfl, by omega, by rw [e_a]; exact hb0, hk_a⟩
    · refine am_E.go (t2 := (50, [vR 0, vI w, vR t, vR u], [vR 0], aq_h m s F c_a)) rfl rfl ?_
      refine aq_gf (v := vR 4) rfl (by omega) hC0 (by decide) rfl ?_
      show am_E _ (53, [vR 0, vI w, vR t, vR u], [vR 4], aq_h m s F c_a) _
      refine am_E.go (t2 := (54, [vR 0, vI w, vR t, vR u], [vR u, vR 4], aq_h m s F c_a)) rfl rfl ?_
      refine am_E.go (t2 := (55, [vR 0, vI w, vR t, vR u], [vI w, vR u, vR 4], aq_h m s F c_a)) rfl rfl ?_
      refine ae_if0 rfl (fun (q_4 : w ≠ 0) => ?_) (fun (q_4 : w = 0) => ?_)
      · refine am_E.go (t2 := (63, [vR 0, vI w, vR t, vR u], [vI (-1), vR u, vR 4], aq_h m s F c_a)) rfl rfl ?_
        refine aq_callv (y := 3) (as2 := [vR u, vI (-1)]) (rest := []) rfl rfl (by decide) (Nat.le_of_ble_eq_true rfl) rfl rfl (Nat.le_of_ble_eq_true rfl) (by omega) hFa4 rfl (Nat.le_of_ble_eq_true rfl) (qn_X3_joinAll (a := 4) (k := bx_K (c t 0)) ⟨hma4, hFa4, hFn4, hFp4, hFf4⟩ (t := u) ⟨hmau, hFau, hFnu, hFpu, hFfu⟩ (su_kc ((aq_smt s_g s_a) u (by omega)) ((aq_smt s_g s_a) (u + 1) (by omega)) ((aq_smt s_g s_a) (u + 3) (by omega)) hku) (by omega) hk_a) ?_
        rintro r5 h5 ⟨c_b, rfl, s_b, v_b, rfl, hv_b, e_b, hk_b⟩
        show am_E _ (66, [vR 0, vI w, vR t, vR u], [vI v_b], aq_h m s F c_b) _
        refine ae_if0 rfl (fun (q_5 : v_b = 0) => ?_) (fun (q_5 : v_b ≠ 0) => ?_)
        · refine am_E.go (t2 := (74, [vR 0, vI w, vR t, vR u], [vI 0], aq_h m s F c_b)) rfl rfl ?_
          refine am_E.ret rfl rfl ?_
          exact ⟨_, rfl, (aq_smt (aq_smt s_g s_a) s_b), _, rfl, by omega, by rw [e_b, e_a]; exact hb0, hk_b⟩
        · refine am_E.go (t2 := (70, [vR 0, vI w, vR t, vR u], [vI 1], aq_h m s F c_b)) rfl rfl ?_
          refine am_E.go (t2 := (74, [vR 0, vI w, vR t, vR u], [vI 1], aq_h m s F c_b)) rfl rfl ?_
          refine am_E.ret rfl rfl ?_
          exact ⟨_, rfl, (aq_smt (aq_smt s_g s_a) s_b), _, rfl, by omega, by rw [e_b, e_a]; exact hb0, hk_b⟩
      · refine am_E.go (t2 := (59, [vR 0, vI w, vR t, vR u], [vI 1, vR u, vR 4], aq_h m s F c_a)) rfl rfl ?_
        refine am_E.go (t2 := (63, [vR 0, vI w, vR t, vR u], [vI 1, vR u, vR 4], aq_h m s F c_a)) rfl rfl ?_
        refine aq_callv (y := 3) (as2 := [vR u, vI 1]) (rest := []) rfl rfl (by decide) (Nat.le_of_ble_eq_true rfl) rfl rfl (Nat.le_of_ble_eq_true rfl) (by omega) hFa4 rfl (Nat.le_of_ble_eq_true rfl) (qn_X3_joinAll (a := 4) (k := bx_K (c t 0)) ⟨hma4, hFa4, hFn4, hFp4, hFf4⟩ (t := u) ⟨hmau, hFau, hFnu, hFpu, hFfu⟩ (su_kc ((aq_smt s_g s_a) u (by omega)) ((aq_smt s_g s_a) (u + 1) (by omega)) ((aq_smt s_g s_a) (u + 3) (by omega)) hku) (by omega) hk_a) ?_
        rintro r5 h5 ⟨c_b, rfl, s_b, v_b, rfl, hv_b, e_b, hk_b⟩
        show am_E _ (66, [vR 0, vI w, vR t, vR u], [vI v_b], aq_h m s F c_b) _
        refine ae_if0 rfl (fun (q_6 : v_b = 0) => ?_) (fun (q_6 : v_b ≠ 0) => ?_)
        · refine am_E.go (t2 := (74, [vR 0, vI w, vR t, vR u], [vI 0], aq_h m s F c_b)) rfl rfl ?_
          refine am_E.ret rfl rfl ?_
          exact ⟨_, rfl, (aq_smt (aq_smt s_g s_a) s_b), _, rfl, by omega, by rw [e_b, e_a]; exact hb0, hk_b⟩
        · refine am_E.go (t2 := (70, [vR 0, vI w, vR t, vR u], [vI 1], aq_h m s F c_b)) rfl rfl ?_
          refine am_E.go (t2 := (74, [vR 0, vI w, vR t, vR u], [vI 1], aq_h m s F c_b)) rfl rfl ?_
          refine am_E.ret rfl rfl ?_
          exact ⟨_, rfl, (aq_smt (aq_smt s_g s_a) s_b), _, rfl, by omega, by rw [e_b, e_a]; exact hb0, hk_b⟩
  · refine am_E.go (t2 := (17, [vR 0, vI w, vR t, vR u], [vR 0], aq_h m s F c_g)) rfl rfl ?_
    refine aq_gf (v := vR 4) rfl (by omega) hC0 (by decide) rfl ?_
    show am_E _ (20, [vR 0, vI w, vR t, vR u], [vR 4], aq_h m s F c_g) _
    refine am_E.go (t2 := (21, [vR 0, vI w, vR t, vR u], [vR t, vR 4], aq_h m s F c_g)) rfl rfl ?_
    refine am_E.go (t2 := (22, [vR 0, vI w, vR t, vR u], [vR u, vR t, vR 4], aq_h m s F c_g)) rfl rfl ?_
    refine am_E.go (t2 := (23, [vR 0, vI w, vR t, vR u], [vR 0, vR u, vR t, vR 4], aq_h m s F c_g)) rfl rfl ?_
    refine aq_gf (v := vR 1) rfl (by omega) hC0 (by decide) rfl ?_
    show am_E _ (26, [vR 0, vI w, vR t, vR u], [vR 1, vR u, vR t, vR 4], aq_h m s F c_g) _
    refine am_E.go (t2 := (27, [vR 0, vI w, vR t, vR u], [vR t, vR 1, vR u, vR t, vR 4], aq_h m s F c_g)) rfl rfl ?_
    refine aq_gf (v := vI (c_g t 0)) rfl (by omega) hFat (by decide) rfl ?_
    show am_E _ (30, [vR 0, vI w, vR t, vR u], [vI (c_g t 0), vR 1, vR u, vR t, vR 4], aq_h m s F c_g) _
    have f_7 := s_g t (by omega) 0
    refine am_E.go (t2 := (31, [vR 0, vI w, vR t, vR u], [vI 1, vI (c_g t 0), vR 1, vR u, vR t, vR 4], aq_h m s F c_g)) rfl rfl ?_
    refine ae_sub rfl (am_ri (by omega) (by omega)) ?_
    show am_E _ (32, [vR 0, vI w, vR t, vR u], [vI ((c_g t 0) - 1), vR 1, vR u, vR t, vR 4], aq_h m s F c_g) _
    obtain ⟨o, n, K, e_o, e_n, e_K, e_j, e_k, tP, tG, tN, tR, tL, ⟨hm, hn1, hn4, hK, hFo, hFd, hFs⟩, ⟨hPg, hPr, hPt⟩, ⟨hL, hGg, hGr, hNg, hNr, hLt, hGt, hNt⟩, ⟨hR, hRt⟩, hst, hex⟩ := sb_box hC (i := ((c_g t 0) - 1)) (by omega) (by omega)
    have hb := sb_bnd (((c_g t 0) - 1)).toNat (by omega)
    rw [e_o, e_k] at hb
    have hbK : (K : Int) = bx_K (c t 0) := by rw [e_K]; congr 1; omega
    refine aq_al (ok := fun k => decide (3 ≤ k) && decide (k < 7)) (v := vR o) rfl rfl (by omega) hC1 rfl (by omega) (by omega) (aq_gi2 (by omega) e_o) ?_
    show am_E _ (33, [vR 0, vI w, vR t, vR u], [vR o, vR u, vR t, vR 4], aq_h m s F c_g) _
    refine aq_callv (y := 4) (as2 := [vR t, vR u, vR o]) (rest := []) rfl rfl (by decide) (Nat.le_of_ble_eq_true rfl) rfl rfl (Nat.le_of_ble_eq_true rfl) (by omega) hFa4 rfl (Nat.le_of_ble_eq_true rfl) (qn_X3_joinProducts (a := 4) (k := bx_K (c t 0)) ⟨hma4, hFa4, hFn4, hFp4, hFf4⟩ (t := t) ⟨hmat, hFat, hFnt, hFpt, hFft⟩ (su_kc (s_g t (by omega)) (s_g (t + 1) (by omega)) (s_g (t + 3) (by omega)) hkt) (by omega) (u := u) ⟨hmau, hFau, hFnu, hFpu, hFfu⟩ (su_kc (s_g u (by omega)) (s_g (u + 1) (by omega)) (s_g (u + 3) (by omega)) hku) (by omega) ⟨hm, hn1, hn4, hK, hFo, hFd, hFs⟩ ⟨hL, hGg, hGr, hNg, hNr, hLt, hGt, hNt⟩ hbK.symm hk_g) ?_
    rintro r5 h5 ⟨c_a, rfl, s_a, v_a, rfl, hv_a, e_a, hk_a⟩
    show am_E _ (36, [vR 0, vI w, vR t, vR u], [vI v_a], aq_h m s F c_a) _
    refine ae_retb rfl (by omega) ?_
    exact ⟨_, rfl, (aq_smt s_g s_a), _, rfl, by omega, by rw [e_a]; exact hb0, hk_a⟩

theorem qn_X4_work {m s : Nat} {F : aq_F} {c : aq_C} (hC : sb_C m F) (hI : cl_I c) {sa w sb sd : Int} : am_E ac_X4_work (0, [vR 0, vI sa, vI w, vI sb, vI sd], [], aq_h m s F c) (aq_Z m s F (fun a => a < 527) c (fun r d => aq_vi r ∧ cl_I d)) := by
  obtain ⟨hCm, hC0, hC1, hC2, hC3, ⟨hma4, hFa4, hFn4, hFp4, hFf4⟩, ⟨hmx, hFx, hFl, hFw⟩, hCs, hCb, hCh⟩ := id hC
  refine am_E.go (t2 := (1, [vR 0, vI sa, vI w, vI sb, vI sd], [vI sa], aq_h m s F c)) rfl rfl ?_
  refine am_E.call rfl rfl rfl (Nat.le_of_ble_eq_true rfl) (qn_X4_isSum) ?_
  rintro r5 h5 ⟨rfl, v_1, rfl, hv_1⟩
  show am_E _ (4, [vR 0, vI sa, vI w, vI sb, vI sd], [vI v_1], aq_h m s F c) _
  refine ae_if0 rfl (fun (q_2 : v_1 = 0) => ?_) (fun (q_2 : v_1 ≠ 0) => ?_)
  · refine am_E.go (t2 := (32, [vR 0, vI sa, vI w, vI sb, vI sd], [vI (-1)], aq_h m s F c)) rfl rfl ?_
    refine am_E.ret rfl rfl ?_
    exact ⟨_, rfl, (aq_sm0 (S := fun a => a < 527)), ⟨_, rfl⟩, hI⟩
  · refine am_E.go (t2 := (8, [vR 0, vI sa, vI w, vI sb, vI sd], [vI w], aq_h m s F c)) rfl rfl ?_
    refine ae_if0 rfl (fun (q_3 : w < 0) => ?_) (fun (q_3 : 0 ≤ w) => ?_)
    · refine am_E.go (t2 := (32, [vR 0, vI sa, vI w, vI sb, vI sd], [vI (-1)], aq_h m s F c)) rfl rfl ?_
      refine am_E.ret rfl rfl ?_
      exact ⟨_, rfl, (aq_sm0 (S := fun a => a < 527)), ⟨_, rfl⟩, hI⟩
    · refine am_E.go (t2 := (12, [vR 0, vI sa, vI w, vI sb, vI sd], [vI w], aq_h m s F c)) rfl rfl ?_
      refine am_E.go (t2 := (13, [vR 0, vI sa, vI w, vI sb, vI sd], [vI 2, vI w], aq_h m s F c)) rfl rfl ?_
      refine ae_icmp rfl (fun (q_4 : 2 < w) => ?_) (fun (q_4 : w ≤ 2) => ?_)
      · refine am_E.go (t2 := (32, [vR 0, vI sa, vI w, vI sb, vI sd], [vI (-1)], aq_h m s F c)) rfl rfl ?_
        refine am_E.ret rfl rfl ?_
        exact ⟨_, rfl, (aq_sm0 (S := fun a => a < 527)), ⟨_, rfl⟩, hI⟩
      · refine am_E.go (t2 := (17, [vR 0, vI sa, vI w, vI sb, vI sd], [vI sb], aq_h m s F c)) rfl rfl ?_
        refine am_E.call rfl rfl rfl (Nat.le_of_ble_eq_true rfl) (qn_X4_isSum) ?_
        rintro r5 h5 ⟨rfl, v_5, rfl, hv_5⟩
        show am_E _ (20, [vR 0, vI sa, vI w, vI sb, vI sd], [vI v_5], aq_h m s F c) _
        refine ae_if0 rfl (fun (q_6 : v_5 = 0) => ?_) (fun (q_6 : v_5 ≠ 0) => ?_)
        · refine am_E.go (t2 := (32, [vR 0, vI sa, vI w, vI sb, vI sd], [vI (-1)], aq_h m s F c)) rfl rfl ?_
          refine am_E.ret rfl rfl ?_
          exact ⟨_, rfl, (aq_sm0 (S := fun a => a < 527)), ⟨_, rfl⟩, hI⟩
        · refine am_E.go (t2 := (25, [vR 0, vI sa, vI w, vI sb, vI sd], [vI sd], aq_h m s F c)) rfl rfl ?_
          refine am_E.call rfl rfl rfl (Nat.le_of_ble_eq_true rfl) (qn_X4_isSum) ?_
          rintro r5 h5 ⟨rfl, v_7, rfl, hv_7⟩
          show am_E _ (28, [vR 0, vI sa, vI w, vI sb, vI sd], [vI v_7], aq_h m s F c) _
          refine ae_if0 rfl (fun (q_8 : v_7 ≠ 0) => ?_) (fun (q_8 : v_7 = 0) => ?_)
          · refine am_E.go (t2 := (34, [vR 0, vI sa, vI w, vI sb, vI sd], [vR 0], aq_h m s F c)) rfl rfl ?_
            refine aq_gf (v := vR 3) rfl (by omega) hC0 (by decide) rfl ?_
            show am_E _ (37, [vR 0, vI sa, vI w, vI sb, vI sd], [vR 3], aq_h m s F c) _
            refine am_E.go (t2 := (38, [vR 0, vI sa, vI w, vI sb, vI sd], [vI sb, vR 3], aq_h m s F c)) rfl rfl ?_
            obtain ⟨t, e_t⟩ : ∃ x, x = 495 + 4 * (sb).toNat := ⟨_, rfl⟩
            obtain ⟨hmat, hFat, hFnt, hFpt, hFft⟩ : su_0 m F t := by rw [e_t]; exact hCs _ (by omega)
            obtain ⟨hu0t, hu4t, hkt⟩ : sb_u t c := by rw [e_t]; exact hI.2.2 _ (by omega)
            have hk1t := hkt.1
            have hk2t := hkt.2.1
            refine aq_al (ok := fun k => decide (3 ≤ k) && decide (k < 7)) (v := vR t) rfl rfl (by omega) hC3 rfl (by omega) (by omega) (aq_gi2 (by omega) e_t.symm) ?_
            show am_E _ (39, [vR 0, vI sa, vI w, vI sb, vI sd], [vR t], aq_h m s F c) _
            refine aq_gf (v := vI (c t 0)) rfl (by omega) hFat (by decide) rfl ?_
            show am_E _ (42, [vR 0, vI sa, vI w, vI sb, vI sd], [vI (c t 0)], aq_h m s F c) _
            refine am_E.go (t2 := (43, [vR 0, vI sa, vI w, vI sb, vI sd], [vR 0, vI (c t 0)], aq_h m s F c)) rfl rfl ?_
            refine aq_gf (v := vR 3) rfl (by omega) hC0 (by decide) rfl ?_
            show am_E _ (46, [vR 0, vI sa, vI w, vI sb, vI sd], [vR 3, vI (c t 0)], aq_h m s F c) _
            refine am_E.go (t2 := (48, [vR 0, vI sa, vI w, vI sb, vI sd], [vI sd, vR 3, vI (c t 0)], aq_h m s F c)) rfl rfl ?_
            obtain ⟨u, e_u⟩ : ∃ x, x = 495 + 4 * (sd).toNat := ⟨_, rfl⟩
            obtain ⟨hmau, hFau, hFnu, hFpu, hFfu⟩ : su_0 m F u := by rw [e_u]; exact hCs _ (by omega)
            obtain ⟨hu0u, hu4u, hku⟩ : sb_u u c := by rw [e_u]; exact hI.2.2 _ (by omega)
            have hk1u := hku.1
            have hk2u := hku.2.1
            refine aq_al (ok := fun k => decide (3 ≤ k) && decide (k < 7)) (v := vR u) rfl rfl (by omega) hC3 rfl (by omega) (by omega) (aq_gi2 (by omega) e_u.symm) ?_
            show am_E _ (49, [vR 0, vI sa, vI w, vI sb, vI sd], [vR u, vI (c t 0)], aq_h m s F c) _
            refine aq_gf (v := vI (c u 0)) rfl (by omega) hFau (by decide) rfl ?_
            show am_E _ (52, [vR 0, vI sa, vI w, vI sb, vI sd], [vI (c u 0), vI (c t 0)], aq_h m s F c) _
            refine ae_icmp rfl (fun (q_9 : (c t 0) = (c u 0)) => ?_) (fun (q_9 : (c t 0) ≠ (c u 0)) => ?_)
            · have h_eq : c t 0 = c u 0 := q_9
              refine am_E.go (t2 := (59, [vR 0, vI sa, vI w, vI sb, vI sd], [vR 0], aq_h m s F c)) rfl rfl ?_
              refine am_E.go (t2 := (60, [vR 0, vI sa, vI w, vI sb, vI sd], [vI w, vR 0], aq_h m s F c)) rfl rfl ?_
              refine am_E.go (t2 := (61, [vR 0, vI sa, vI w, vI sb, vI sd], [vR 0, vI w, vR 0], aq_h m s F c)) rfl rfl ?_
              refine aq_gf (v := vR 3) rfl (by omega) hC0 (by decide) rfl ?_
              show am_E _ (64, [vR 0, vI sa, vI w, vI sb, vI sd], [vR 3, vI w, vR 0], aq_h m s F c) _
              refine am_E.go (t2 := (65, [vR 0, vI sa, vI w, vI sb, vI sd], [vI sb, vR 3, vI w, vR 0], aq_h m s F c)) rfl rfl ?_
              refine aq_al (ok := fun k => decide (3 ≤ k) && decide (k < 7)) (v := vR t) rfl rfl (by omega) hC3 rfl (by omega) (by omega) (aq_gi2 (by omega) e_t.symm) ?_
              show am_E _ (66, [vR 0, vI sa, vI w, vI sb, vI sd], [vR t, vI w, vR 0], aq_h m s F c) _
              refine am_E.go (t2 := (67, [vR 0, vI sa, vI w, vI sb, vI sd], [vR 0, vR t, vI w, vR 0], aq_h m s F c)) rfl rfl ?_
              refine aq_gf (v := vR 3) rfl (by omega) hC0 (by decide) rfl ?_
              show am_E _ (70, [vR 0, vI sa, vI w, vI sb, vI sd], [vR 3, vR t, vI w, vR 0], aq_h m s F c) _
              refine am_E.go (t2 := (72, [vR 0, vI sa, vI w, vI sb, vI sd], [vI sd, vR 3, vR t, vI w, vR 0], aq_h m s F c)) rfl rfl ?_
              refine aq_al (ok := fun k => decide (3 ≤ k) && decide (k < 7)) (v := vR u) rfl rfl (by omega) hC3 rfl (by omega) (by omega) (aq_gi2 (by omega) e_u.symm) ?_
              show am_E _ (73, [vR 0, vI sa, vI w, vI sb, vI sd], [vR u, vR t, vI w, vR 0], aq_h m s F c) _
              refine aq_callv (y := 4) (as2 := [vI w, vR t, vR u]) (rest := []) rfl rfl (by decide) (Nat.le_of_ble_eq_true rfl) rfl rfl (Nat.le_of_ble_eq_true rfl) (by omega) hC0 rfl (Nat.le_of_ble_eq_true rfl) (qn_X4_make hC ⟨hmat, hFat, hFnt, hFpt, hFft⟩ ⟨hmau, hFau, hFnu, hFpu, hFfu⟩ (by omega) (by omega) (by omega) (by omega) hkt (by rw [h_eq]; exact hku)) ?_
              rintro r5 h5 ⟨c_b, rfl, s_b, v_b, rfl, hv_b, e_b, hk_b⟩
              show am_E _ (76, [vR 0, vI sa, vI w, vI sb, vI sd], [vI v_b], aq_h m s F c_b) _
              refine ae_if0 rfl (fun (q_10 : v_b ≠ 0) => ?_) (fun (q_10 : v_b = 0) => ?_)
              · refine am_E.go (t2 := (83, [vR 0, vI sa, vI w, vI sb, vI sd], [vR 0], aq_h m s F c_b)) rfl rfl ?_
                refine aq_gf (v := vR 3) rfl (by omega) hC0 (by decide) rfl ?_
                show am_E _ (86, [vR 0, vI sa, vI w, vI sb, vI sd], [vR 3], aq_h m s F c_b) _
                refine am_E.go (t2 := (87, [vR 0, vI sa, vI w, vI sb, vI sd], [vI sa, vR 3], aq_h m s F c_b)) rfl rfl ?_
                obtain ⟨a, e_a⟩ : ∃ x, x = 495 + 4 * (sa).toNat := ⟨_, rfl⟩
                obtain ⟨hmaa, hFaa, hFna, hFpa, hFfa⟩ : su_0 m F a := by rw [e_a]; exact hCs _ (by omega)
                obtain ⟨hu0a, hu4a, hka⟩ : sb_u a c := by rw [e_a]; exact hI.2.2 _ (by omega)
                have hk1a := hka.1
                have hk2a := hka.2.1
                refine aq_al (ok := fun k => decide (3 ≤ k) && decide (k < 7)) (v := vR a) rfl rfl (by omega) hC3 rfl (by omega) (by omega) (aq_gi2 (by omega) e_a.symm) ?_
                show am_E _ (88, [vR 0, vI sa, vI w, vI sb, vI sd], [vR a], aq_h m s F c_b) _
                refine am_E.go (t2 := (89, [vR 0, vI sa, vI w, vI sb, vI sd], [vR 0, vR a], aq_h m s F c_b)) rfl rfl ?_
                refine aq_gf (v := vR 4) rfl (by omega) hC0 (by decide) rfl ?_
                show am_E _ (92, [vR 0, vI sa, vI w, vI sb, vI sd], [vR 4, vR a], aq_h m s F c_b) _
                refine aq_callv (y := 2) (as2 := [vR 4]) (rest := []) rfl rfl (by decide) (Nat.le_of_ble_eq_true rfl) rfl rfl (Nat.le_of_ble_eq_true rfl) (by omega) hFaa rfl (Nat.le_of_ble_eq_true rfl) (qn_X3_take (a := a) (k := bx_K (c t 0)) ⟨hmaa, hFaa, hFna, hFpa, hFfa⟩ (t := 4) ⟨hma4, hFa4, hFn4, hFp4, hFf4⟩ hk_b (by omega)) ?_
                rintro r5 h5 ⟨c_k, rfl, s_k, rfl, e_k, hk_k⟩
                show am_E _ (95, [vR 0, vI sa, vI w, vI sb, vI sd], [], aq_h m s F c_k) _
                refine am_E.go (t2 := (96, [vR 0, vI sa, vI w, vI sb, vI sd], [vR 0], aq_h m s F c_k)) rfl rfl ?_
                refine aq_gf (v := vR 4) rfl (by omega) hC0 (by decide) rfl ?_
                show am_E _ (99, [vR 0, vI sa, vI w, vI sb, vI sd], [vR 4], aq_h m s F c_k) _
                refine aq_gf (v := vI (c_k 4 1)) rfl (by omega) hFa4 (by decide) rfl ?_
                show am_E _ (102, [vR 0, vI sa, vI w, vI sb, vI sd], [vI (c_k 4 1)], aq_h m s F c_k) _
                refine am_E.ret rfl rfl ?_
                exact ⟨_, rfl, (aq_smt (aq_smt (aq_sm0 (S := fun a => a < 527)) (aq_smi s_b (fun b h => by omega))) (aq_smi s_k (fun b h => by omega))), ⟨_, rfl⟩, cl_u (cl_m hI s_b) (j := sa.toNat) (by omega) (by rw [← e_a]; exact s_k) (by rw [← e_a]; exact ⟨by omega, by omega, by rw [e_k, e_b]; exact hk_k⟩)⟩
              · refine am_E.go (t2 := (81, [vR 0, vI sa, vI w, vI sb, vI sd], [vI (-5)], aq_h m s F c_b)) rfl rfl ?_
                refine am_E.ret rfl rfl ?_
                exact ⟨_, rfl, (aq_smt (aq_sm0 (S := fun a => a < 527)) (aq_smi s_b (fun b h => by omega))), ⟨_, rfl⟩, cl_m hI s_b⟩
            · refine am_E.go (t2 := (57, [vR 0, vI sa, vI w, vI sb, vI sd], [vI (-2)], aq_h m s F c)) rfl rfl ?_
              refine am_E.ret rfl rfl ?_
              exact ⟨_, rfl, (aq_sm0 (S := fun a => a < 527)), ⟨_, rfl⟩, hI⟩
          · refine am_E.go (t2 := (32, [vR 0, vI sa, vI w, vI sb, vI sd], [vI (-1)], aq_h m s F c)) rfl rfl ?_
            refine am_E.ret rfl rfl ?_
            exact ⟨_, rfl, (aq_sm0 (S := fun a => a < 527)), ⟨_, rfl⟩, hI⟩
/-! Pairings of 2 n points, and one drawn above another. -/
def fi (n : Int) (f : Int → Int) : Prop := ∀ p, 0 ≤ p → p < 2 * n → 0 ≤ f p ∧ f p < 2 * n ∧ f p ≠ p ∧ f (f p) = p
/-- where the strand from p ends: f above, g beneath; true: f is next -/
def ldr (n : Int) (f g : Int → Int) : Nat → Bool → Int → Int
  | 0, _, p => p
  | d + 1, true, p => if n ≤ f p then ldr n f g d false (f p - n) else f p
  | d + 1, false, p => if g p < n then ldr n f g d true (n + g p) else g p
/-- it ends in so many steps -/
def exd (n : Int) (f g : Int → Int) : Nat → Bool → Int → Prop
  | 0, _, _ => False
  | d + 1, true, p => n ≤ f p → exd n f g d false (f p - n)
  | d + 1, false, p => g p < n → exd n f g d true (n + g p)
/-- the places between, on the way, are met -/
def mkd (n : Int) (f g w : Int → Int) : Nat → Bool → Int → Prop
  | 0, _, _ => True
  | d + 1, true, p => n ≤ f p → w (f p - n) = 1 ∧ mkd n f g w d false (f p - n)
  | d + 1, false, p => g p < n → w (g p) = 1 ∧ mkd n f g w d true (n + g p)
section FI
variable {n : Int} {f g : Int → Int}
theorem ld_exu (hn : n ≤ 4) (hf : fi n f) (hg : fi n g) {p : Int} (h0 : 0 ≤ p) (h1 : p < n) : exd n f g 5 true p := by
  intro k1
  intro k2
  intro k3
  intro k4
  intro k5
  have a1 := hf p h0 (by omega)
  generalize ea : f p = a at *
  have b1 := hg (a - n) (by omega) (by omega)
  generalize eb : g (a - n) = b at *
  have c1 := hf (n + b) (by omega) (by omega)
  generalize ec : f (n + b) = c at *
  have d1 := hg (c - n) (by omega) (by omega)
  generalize ed : g (c - n) = d at *
  have e1 := hf (n + d) (by omega) (by omega)
  generalize ee : f (n + d) = e at *
  obtain ⟨_, _, a3, a4⟩ := a1
  obtain ⟨_, _, b3, b4⟩ := b1
  obtain ⟨_, _, c3, c4⟩ := c1
  obtain ⟨_, _, d3, d4⟩ := d1
  obtain ⟨_, _, e3, e4⟩ := e1
  have x1 : c ≠ a := fun h => by rw [h, a4] at c4; omega
  have x2 : d ≠ b := fun h => by rw [h, b4] at d4; omega
  have x3 : d ≠ a - n := fun h => by rw [h, eb] at d4; omega
  have x4 : e ≠ c := fun h => by rw [h, c4] at e4; omega
  have x5 : e ≠ n + b := fun h => by rw [h, ec] at e4; omega
  have x6 : e ≠ a := fun h => by rw [h, a4] at e4; omega
  omega
theorem ld_exl (hn : n ≤ 4) (hf : fi n f) (hg : fi n g) {p : Int} (h0 : n ≤ p) (h1 : p < 2 * n) : exd n f g 5 false p := by
  intro k1
  intro k2
  intro k3
  intro k4
  intro k5
  have a1 := hg p (by omega) (by omega)
  generalize ea : g p = a at *
  have b1 := hf (n + a) (by omega) (by omega)
  generalize eb : f (n + a) = b at *
  have c1 := hg (b - n) (by omega) (by omega)
  generalize ec : g (b - n) = c at *
  have d1 := hf (n + c) (by omega) (by omega)
  generalize ed : f (n + c) = d at *
  have e1 := hg (d - n) (by omega) (by omega)
  generalize ee : g (d - n) = e at *
  obtain ⟨_, _, a3, a4⟩ := a1
  obtain ⟨_, _, b3, b4⟩ := b1
  obtain ⟨_, _, c3, c4⟩ := c1
  obtain ⟨_, _, d3, d4⟩ := d1
  obtain ⟨_, _, e3, e4⟩ := e1
  have x1 : c ≠ a := fun h => by rw [h, a4] at c4; omega
  have x2 : d ≠ b := fun h => by rw [h, b4] at d4; omega
  have x3 : d ≠ n + a := fun h => by rw [h, eb] at d4; omega
  have x4 : e ≠ c := fun h => by rw [h, c4] at e4; omega
  have x5 : e ≠ b - n := fun h => by rw [h, ec] at e4; omega
  have x6 : e ≠ a := fun h => by rw [h, a4] at e4; omega
  omega
/-- the pairing of the two, one above the other -/
def fst_ (n : Int) (f g : Int → Int) (p : Int) : Int := ldr n f g 5 (decide (p < n)) p
theorem fi_u (hn : n ≤ 4) (hf : fi n f) (hg : fi n g) {p : Int} (h0 : 0 ≤ p) (h1 : p < n) : 0 ≤ fst_ n f g p ∧ fst_ n f g p < 2 * n ∧ fst_ n f g p ≠ p ∧ fst_ n f g (fst_ n f g p) = p := by
  have hx := ld_exu hn hf hg h0 h1
  have e0 : fst_ n f g p = ldr n f g 5 true p := by
    unfold fst_
    rw [decide_eq_true h1]
  rw [e0]
  have a1 := hf p h0 (by omega)
  simp only [ldr, exd] at hx ⊢
  by_cases k1 : n ≤ f p
  · simp only [if_pos k1]
    have hx1 := hx k1
    generalize ea : f p = a at *
    have b1 := hg (a - n) (by omega) (by omega)
    by_cases k2 : g (a - n) < n
    · simp only [if_pos k2]
      have hx2 := hx1 k2
      generalize eb : g (a - n) = b at *
      have c1 := hf (n + b) (by omega) (by omega)
      by_cases k3 : n ≤ f (n + b)
      · simp only [if_pos k3]
        have hx3 := hx2 k3
        generalize ec : f (n + b) = c at *
        have d1 := hg (c - n) (by omega) (by omega)
        by_cases k4 : g (c - n) < n
        · simp only [if_pos k4]
          have hx4 := hx3 k4
          generalize ed : g (c - n) = d at *
          have e1 := hf (n + d) (by omega) (by omega)
          by_cases k5 : n ≤ f (n + d)
          · exact absurd k5 hx4
          · simp only [if_neg k5]
            generalize ee : f (n + d) = e at *
            obtain ⟨_, _, a3, a4⟩ := a1
            obtain ⟨_, _, b3, b4⟩ := b1
            obtain ⟨_, _, c3, c4⟩ := c1
            obtain ⟨_, _, d3, d4⟩ := d1
            obtain ⟨_, _, e3, e4⟩ := e1
            have x3 : d ≠ a - n := fun h => by
              have x1 : c ≠ a := fun h => by rw [h, a4] at c4; omega
              rw [h, eb] at d4
              omega
            refine ⟨by omega, by omega, fun h => ?_, ?_⟩
            · rw [h, ea] at e4
              omega
            · unfold fst_
              rw [decide_eq_true (show e < n by omega)]
              simp only [ldr, e4, if_pos (show n ≤ n + d by omega), show n + d - n = d by omega, d4, if_pos (show c - n < n by omega), show n + (c - n) = c by omega, c4, if_pos (show n ≤ n + b by omega), show n + b - n = b by omega, b4, if_pos (show a - n < n by omega), show n + (a - n) = a by omega, a4, if_neg (show ¬ n ≤ p by omega)]
        · simp only [if_neg k4]
          generalize ed : g (c - n) = d at *
          obtain ⟨_, _, a3, a4⟩ := a1
          obtain ⟨_, _, b3, b4⟩ := b1
          obtain ⟨_, _, c3, c4⟩ := c1
          obtain ⟨_, _, d3, d4⟩ := d1
          refine ⟨by omega, by omega, by omega, ?_⟩
          unfold fst_
          rw [decide_eq_false (show ¬ d < n by omega)]
          simp only [ldr, d4, if_pos (show c - n < n by omega), show n + (c - n) = c by omega, c4, if_pos (show n ≤ n + b by omega), show n + b - n = b by omega, b4, if_pos (show a - n < n by omega), show n + (a - n) = a by omega, a4, if_neg (show ¬ n ≤ p by omega)]
      · simp only [if_neg k3]
        generalize ec : f (n + b) = c at *
        obtain ⟨_, _, a3, a4⟩ := a1
        obtain ⟨_, _, b3, b4⟩ := b1
        obtain ⟨_, _, c3, c4⟩ := c1
        refine ⟨by omega, by omega, fun h => ?_, ?_⟩
        · rw [h, ea] at c4
          omega
        · unfold fst_
          rw [decide_eq_true (show c < n by omega)]
          simp only [ldr, c4, if_pos (show n ≤ n + b by omega), show n + b - n = b by omega, b4, if_pos (show a - n < n by omega), show n + (a - n) = a by omega, a4, if_neg (show ¬ n ≤ p by omega)]
    · simp only [if_neg k2]
      generalize eb : g (a - n) = b at *
      obtain ⟨_, _, a3, a4⟩ := a1
      obtain ⟨_, _, b3, b4⟩ := b1
      refine ⟨by omega, by omega, by omega, ?_⟩
      unfold fst_
      rw [decide_eq_false (show ¬ b < n by omega)]
      simp only [ldr, b4, if_pos (show a - n < n by omega), show n + (a - n) = a by omega, a4, if_neg (show ¬ n ≤ p by omega)]
  · simp only [if_neg k1]
    obtain ⟨a2, _, a3, a4⟩ := a1
    refine ⟨by omega, by omega, a3, ?_⟩
    unfold fst_
    rw [decide_eq_true (show f p < n by omega)]
    simp only [ldr, a4, if_neg (show ¬ n ≤ p by omega)]
end FI
/-! Pairings: from beneath; together they are a pairing. -/
section FI
variable {n : Int} {f g : Int → Int}
theorem fi_l (hn : n ≤ 4) (hf : fi n f) (hg : fi n g) {p : Int} (h0 : n ≤ p) (h1 : p < 2 * n) : 0 ≤ fst_ n f g p ∧ fst_ n f g p < 2 * n ∧ fst_ n f g p ≠ p ∧ fst_ n f g (fst_ n f g p) = p := by
  have hx := ld_exl hn hf hg h0 h1
  have e0 : fst_ n f g p = ldr n f g 5 false p := by
    unfold fst_
    rw [decide_eq_false (show ¬ p < n by omega)]
  rw [e0]
  have a1 := hg p (by omega) (by omega)
  simp only [ldr, exd] at hx ⊢
  by_cases k1 : g p < n
  · simp only [if_pos k1]
    have hx1 := hx k1
    generalize ea : g p = a at *
    have b1 := hf (n + a) (by omega) (by omega)
    by_cases k2 : n ≤ f (n + a)
    · simp only [if_pos k2]
      have hx2 := hx1 k2
      generalize eb : f (n + a) = b at *
      have c1 := hg (b - n) (by omega) (by omega)
      by_cases k3 : g (b - n) < n
      · simp only [if_pos k3]
        have hx3 := hx2 k3
        generalize ec : g (b - n) = c at *
        have d1 := hf (n + c) (by omega) (by omega)
        by_cases k4 : n ≤ f (n + c)
        · simp only [if_pos k4]
          have hx4 := hx3 k4
          generalize ed : f (n + c) = d at *
          have e1 := hg (d - n) (by omega) (by omega)
          by_cases k5 : g (d - n) < n
          · exact absurd k5 hx4
          · simp only [if_neg k5]
            generalize ee : g (d - n) = e at *
            obtain ⟨_, _, a3, a4⟩ := a1
            obtain ⟨_, _, b3, b4⟩ := b1
            obtain ⟨_, _, c3, c4⟩ := c1
            obtain ⟨_, _, d3, d4⟩ := d1
            obtain ⟨_, _, e3, e4⟩ := e1
            have x1 : c ≠ a := fun h => by rw [h, a4] at c4; omega
            have x3 : d - n ≠ a := fun h => by
              have h9 : d = n + a := by omega
              rw [h9, eb] at d4
              omega
            refine ⟨by omega, by omega, fun h => ?_, ?_⟩
            · rw [h, ea] at e4
              omega
            · unfold fst_
              rw [decide_eq_false (show ¬ e < n by omega)]
              simp only [ldr, e4, if_pos (show d - n < n by omega), show n + (d - n) = d by omega, d4, if_pos (show n ≤ n + c by omega), show n + c - n = c by omega, c4, if_pos (show b - n < n by omega), show n + (b - n) = b by omega, b4, if_pos (show n ≤ n + a by omega), show n + a - n = a by omega, a4, if_neg (show ¬ p < n by omega)]
        · simp only [if_neg k4]
          generalize ed : f (n + c) = d at *
          obtain ⟨_, _, a3, a4⟩ := a1
          obtain ⟨_, _, b3, b4⟩ := b1
          obtain ⟨_, _, c3, c4⟩ := c1
          obtain ⟨_, _, d3, d4⟩ := d1
          refine ⟨by omega, by omega, by omega, ?_⟩
          unfold fst_
          rw [decide_eq_true (show d < n by omega)]
          simp only [ldr, d4, if_pos (show n ≤ n + c by omega), show n + c - n = c by omega, c4, if_pos (show b - n < n by omega), show n + (b - n) = b by omega, b4, if_pos (show n ≤ n + a by omega), show n + a - n = a by omega, a4, if_neg (show ¬ p < n by omega)]
      · simp only [if_neg k3]
        generalize ec : g (b - n) = c at *
        obtain ⟨_, _, a3, a4⟩ := a1
        obtain ⟨_, _, b3, b4⟩ := b1
        obtain ⟨_, _, c3, c4⟩ := c1
        refine ⟨by omega, by omega, fun h => ?_, ?_⟩
        · rw [h, ea] at c4
          omega
        · unfold fst_
          rw [decide_eq_false (show ¬ c < n by omega)]
          simp only [ldr, c4, if_pos (show b - n < n by omega), show n + (b - n) = b by omega, b4, if_pos (show n ≤ n + a by omega), show n + a - n = a by omega, a4, if_neg (show ¬ p < n by omega)]
    · simp only [if_neg k2]
      generalize eb : f (n + a) = b at *
      obtain ⟨_, _, a3, a4⟩ := a1
      obtain ⟨_, _, b3, b4⟩ := b1
      refine ⟨by omega, by omega, by omega, ?_⟩
      unfold fst_
      rw [decide_eq_true (show b < n by omega)]
      simp only [ldr, b4, if_pos (show n ≤ n + a by omega), show n + a - n = a by omega, a4, if_neg (show ¬ p < n by omega)]
  · simp only [if_neg k1]
    obtain ⟨a2, _, a3, a4⟩ := a1
    refine ⟨by omega, by omega, a3, ?_⟩
    unfold fst_
    rw [decide_eq_false (show ¬ g p < n by omega)]
    simp only [ldr, a4, if_neg (show ¬ p < n by omega)]
theorem fi_st (hn : n ≤ 4) (hf : fi n f) (hg : fi n g) : fi n (fst_ n f g) := fun p h0 h1 => by
  by_cases h : p < n
  · exact fi_u hn hf hg h0 h
  · exact fi_l hn hf hg (by omega) h1
theorem ld_ex (hn : n ≤ 4) (hf : fi n f) (hg : fi n g) {p : Int} (h0 : 0 ≤ p) (h1 : p < 2 * n) : exd n f g 5 (decide (p < n)) p := by
  by_cases h : p < n
  · rw [decide_eq_true h]
    exact ld_exu hn hf hg h0 h
  · rw [decide_eq_false h]
    exact ld_exl hn hf hg (by omega) h1
/-- a place between that no strand from outside meets lies on a ring of two or of four places -/
theorem mk_ring (hn : n ≤ 4) (hf : fi n f) (hg : fi n g) {w : Int → Int} (hw : ∀ p, 0 ≤ p → p < 2 * n → mkd n f g w 5 (decide (p < n)) p) {m : Int} (h0 : 0 ≤ m) (h1 : m < n) (hm : w m ≠ 1) :
    g m < n ∧ n ≤ f (n + g m) ∧ (f (n + g m) - n = m ∨ (g (f (n + g m) - n) < n ∧ n ≤ f (n + g (f (n + g m) - n)) ∧ f (n + g (f (n + g m) - n)) - n = m)) := by
  have a1 := hg m h0 (by omega)
  have k1 : g m < n := by
    by_cases h : g m < n
    · exact h
    · exfalso
      have h2 := hw (g m) (by omega) (by omega)
      rw [decide_eq_false h] at h2
      simp only [mkd, a1.2.2.2] at h2
      exact hm (h2 h1).1
  generalize ea : g m = a at *
  obtain ⟨_, _, a3, a4⟩ := a1
  have b1 := hf (n + a) (by omega) (by omega)
  have k2 : n ≤ f (n + a) := by
    by_cases h : n ≤ f (n + a)
    · exact h
    · exfalso
      have h2 := hw (f (n + a)) (by omega) (by omega)
      rw [decide_eq_true (show f (n + a) < n by omega)] at h2
      simp only [mkd, b1.2.2.2, show n + a - n = a by omega, a4] at h2
      exact hm ((h2 (by omega)).2 h1).1
  refine ⟨k1, k2, ?_⟩
  generalize eb : f (n + a) = b at *
  obtain ⟨_, _, b3, b4⟩ := b1
  by_cases e : b - n = m
  · exact Or.inl e
  · refine Or.inr ?_
    have c1 := hg (b - n) (by omega) (by omega)
    have k3 : g (b - n) < n := by
      by_cases h : g (b - n) < n
      · exact h
      · exfalso
        have h2 := hw (g (b - n)) (by omega) (by omega)
        rw [decide_eq_false h] at h2
        simp only [mkd, c1.2.2.2, show n + (b - n) = b by omega, b4, show n + a - n = a by omega, a4] at h2
        exact hm (((h2 (by omega)).2 (by omega)).2 h1).1
    generalize ec : g (b - n) = c at *
    obtain ⟨_, _, c3, c4⟩ := c1
    have d1 := hf (n + c) (by omega) (by omega)
    have k4 : n ≤ f (n + c) := by
      by_cases h : n ≤ f (n + c)
      · exact h
      · exfalso
        have h2 := hw (f (n + c)) (by omega) (by omega)
        rw [decide_eq_true (show f (n + c) < n by omega)] at h2
        simp only [mkd, d1.2.2.2, show n + c - n = c by omega, c4, show n + (b - n) = b by omega, b4, show n + a - n = a by omega, a4] at h2
        exact hm ((((h2 (by omega)).2 (by omega)).2 (by omega)).2 h1).1
    refine ⟨k3, k4, ?_⟩
    generalize ed : f (n + c) = d at *
    obtain ⟨_, _, d3, d4⟩ := d1
    have x1 : c ≠ a := fun h => by
      rw [h, a4] at c4
      omega
    have x2 : c ≠ m := fun h => by
      rw [h, ea] at c4
      omega
    have x3 : d ≠ b := fun h => by
      rw [h, b4] at d4
      omega
    have x4 : d ≠ n + a := fun h => by
      rw [h, eb] at d4
      omega
    omega
end FI
