theorem mo_Sc {y a : Nat} (h : mo_S y a) : y ≤ a ∧ a < y + 24 ∧ a ≠ y + 10 := by
  unfold mo_S at h
  omega
theorem qk_many_l {m s : Nat} {F : aq_F} {c : aq_C} {y : Nat} (hI : mo_I y c) (hO : mo_0 m F y) {tbl : Int → Int} (hT : mo_T F y tbl) {n q : Int} (hn1 : 1 ≤ n) (hn4 : n ≤ 4) : ∀ (d : Nat) (x : Int) (bb : Int) (h0 : 0 ≤ bb) (h1 : bb ≤ bx_K n) (hd : bx_K n - bb < (d : Int)), am_E ac_X5_many (24, [vR y, vI n, vI q, vI x, vI bb], [], aq_h m s F c) (aq_Z m s F (fun a => y ≤ a ∧ a < y + 24 ∧ a ≠ y + 10) c (fun r d => aq_vi r ∧ mo_I y d))
  | 0, x, bb, h0, h1, hd => by exfalso; omega
  | d + 1, x, bb, h0, h1, hd => by
    obtain ⟨hm, hFo, hG5, hG6, hG7, hG8, hG9, hG10, hG11, hG12, hG13, hG14, hG15, hG16, hG17, hG18, hG19, hG20, hG21, hG22, hG23⟩ := hO
    obtain ⟨hT1, hTt⟩ := hT
    have hfs := mo_fs n
    refine am_E.go (t2 := (26, [vR y, vI n, vI q, vI x, vI bb], [vI bb], aq_h m s F c)) rfl rfl ?_
    refine am_E.go (t2 := (27, [vR y, vI n, vI q, vI x, vI bb], [vI n, vI bb], aq_h m s F c)) rfl rfl ?_
    refine am_E.call rfl rfl rfl (Nat.le_of_ble_eq_true rfl) (qm_boxes) ?_
    rintro r5 h5 ⟨rfl, v_1, rfl, hv_1⟩
    show am_E _ (30, [vR y, vI n, vI q, vI x, vI bb], [vI v_1, vI bb], aq_h m s F c) _
    refine ae_icmp rfl (fun (q_2 : v_1 ≤ bb) => ?_) (fun (q_2 : bb < v_1) => ?_)
    · refine am_E.go (t2 := (62, [vR y, vI n, vI q, vI x, vI bb], [vI x], aq_h m s F c)) rfl rfl ?_
      refine am_E.ret rfl rfl ?_
      exact ⟨_, rfl, aq_sm0, ⟨_, rfl⟩, hI⟩
    · refine am_E.go (t2 := (34, [vR y, vI n, vI q, vI x, vI bb], [vI x], aq_h m s F c)) rfl rfl ?_
      refine am_E.go (t2 := (35, [vR y, vI n, vI q, vI x, vI bb], [vI q, vI x], aq_h m s F c)) rfl rfl ?_
      refine ae_if0 rfl (fun (q_3 : q = 0) => ?_) (fun (q_3 : q ≠ 0) => ?_)
      · refine am_E.go (t2 := (49, [vR y, vI n, vI q, vI x, vI bb], [vI 1, vI x], aq_h m s F c)) rfl rfl ?_
        refine am_E.go (t2 := (53, [vR y, vI n, vI q, vI x, vI bb], [vI 1, vI x], aq_h m s F c)) rfl rfl ?_
        refine am_E.go (t2 := (54, [vR y, vI n, vI q, vI x, vI bb], [vI (am_w (x + 1))], aq_h m s F c)) rfl rfl ?_
        refine am_E.go (t2 := (55, [vR y, vI n, vI q, vI (am_w (x + 1)), vI bb], [], aq_h m s F c)) rfl rfl ?_
        refine ae_iinc rfl rfl (am_ri (by omega) (by omega)) ?_
        show am_E _ (58, [vR y, vI n, vI q, vI (am_w (x + 1)), vI (bb + 1)], [], aq_h m s F c) _
        refine am_E.go (t2 := (24, [vR y, vI n, vI q, vI (am_w (x + 1)), vI (bb + 1)], [], aq_h m s F c)) rfl rfl ?_
        exact qk_many_l hI ⟨hm, hFo, hG5, hG6, hG7, hG8, hG9, hG10, hG11, hG12, hG13, hG14, hG15, hG16, hG17, hG18, hG19, hG20, hG21, hG22, hG23⟩ ⟨hT1, hTt⟩ (by omega) (by omega) d (am_w (x + 1)) (bb + 1) (by omega) (by omega) (by omega)
      · refine am_E.go (t2 := (39, [vR y, vI n, vI q, vI x, vI bb], [vR y, vI x], aq_h m s F c)) rfl rfl ?_
        refine am_E.go (t2 := (40, [vR y, vI n, vI q, vI x, vI bb], [vI n, vR y, vI x], aq_h m s F c)) rfl rfl ?_
        refine am_E.go (t2 := (42, [vR y, vI n, vI q, vI x, vI bb], [vI bb, vI n, vR y, vI x], aq_h m s F c)) rfl rfl ?_
        refine aq_callv (y := 3) (as2 := [vI n, vI bb]) (rest := [vI x]) rfl rfl (by decide) (Nat.le_of_ble_eq_true rfl) rfl rfl (Nat.le_of_ble_eq_true rfl) (by omega) hFo rfl (Nat.le_of_ble_eq_true rfl) (qm_isPlane ⟨hm, hFo, hG5, hG6, hG7, hG8, hG9, hG10, hG11, hG12, hG13, hG14, hG15, hG16, hG17, hG18, hG19, hG20, hG21, hG22, hG23⟩ ⟨hT1, hTt⟩ (by omega) (by omega) (by omega) (by omega)) ?_
        rintro r5 h5 ⟨rfl, v_4, rfl, hv_4⟩
        show am_E _ (45, [vR y, vI n, vI q, vI x, vI bb], [vI v_4, vI x], aq_h m s F c) _
        refine ae_if0 rfl (fun (q_5 : v_4 = 0) => ?_) (fun (q_5 : v_4 ≠ 0) => ?_)
        · refine am_E.go (t2 := (53, [vR y, vI n, vI q, vI x, vI bb], [vI 0, vI x], aq_h m s F c)) rfl rfl ?_
          refine am_E.go (t2 := (54, [vR y, vI n, vI q, vI x, vI bb], [vI (am_w (x + 0))], aq_h m s F c)) rfl rfl ?_
          refine am_E.go (t2 := (55, [vR y, vI n, vI q, vI (am_w (x + 0)), vI bb], [], aq_h m s F c)) rfl rfl ?_
          refine ae_iinc rfl rfl (am_ri (by omega) (by omega)) ?_
          show am_E _ (58, [vR y, vI n, vI q, vI (am_w (x + 0)), vI (bb + 1)], [], aq_h m s F c) _
          refine am_E.go (t2 := (24, [vR y, vI n, vI q, vI (am_w (x + 0)), vI (bb + 1)], [], aq_h m s F c)) rfl rfl ?_
          exact qk_many_l hI ⟨hm, hFo, hG5, hG6, hG7, hG8, hG9, hG10, hG11, hG12, hG13, hG14, hG15, hG16, hG17, hG18, hG19, hG20, hG21, hG22, hG23⟩ ⟨hT1, hTt⟩ (by omega) (by omega) d (am_w (x + 0)) (bb + 1) (by omega) (by omega) (by omega)
        · refine am_E.go (t2 := (49, [vR y, vI n, vI q, vI x, vI bb], [vI 1, vI x], aq_h m s F c)) rfl rfl ?_
          refine am_E.go (t2 := (53, [vR y, vI n, vI q, vI x, vI bb], [vI 1, vI x], aq_h m s F c)) rfl rfl ?_
          refine am_E.go (t2 := (54, [vR y, vI n, vI q, vI x, vI bb], [vI (am_w (x + 1))], aq_h m s F c)) rfl rfl ?_
          refine am_E.go (t2 := (55, [vR y, vI n, vI q, vI (am_w (x + 1)), vI bb], [], aq_h m s F c)) rfl rfl ?_
          refine ae_iinc rfl rfl (am_ri (by omega) (by omega)) ?_
          show am_E _ (58, [vR y, vI n, vI q, vI (am_w (x + 1)), vI (bb + 1)], [], aq_h m s F c) _
          refine am_E.go (t2 := (24, [vR y, vI n, vI q, vI (am_w (x + 1)), vI (bb + 1)], [], aq_h m s F c)) rfl rfl ?_
          exact qk_many_l hI ⟨hm, hFo, hG5, hG6, hG7, hG8, hG9, hG10, hG11, hG12, hG13, hG14, hG15, hG16, hG17, hG18, hG19, hG20, hG21, hG22, hG23⟩ ⟨hT1, hTt⟩ (by omega) (by omega) d (am_w (x + 1)) (bb + 1) (by omega) (by omega) (by omega)

theorem qk_X5_many {m s : Nat} {F : aq_F} {c : aq_C} {y : Nat} (hC : mo_C m F y) (hI : mo_I y c) {n q : Int} : am_E ac_X5_many (0, [vR y, vI n, vI q, vU, vU], [], aq_h m s F c) (aq_Z m s F (fun a => y ≤ a ∧ a < y + 24 ∧ a ≠ y + 10) c (fun r d => aq_vi r ∧ mo_I y d)) := by
  obtain ⟨⟨hm, hFo, hG5, hG6, hG7, hG8, hG9, hG10, hG11, hG12, hG13, hG14, hG15, hG16, hG17, hG18, hG19, hG20, hG21, hG22, hG23⟩, ⟨tbl, hT1, hTt⟩, ⟨tA, tB, tD, hL1, hL2, hL3, hLt⟩⟩ := hC
  have hfs := mo_fs n
  refine am_E.go (t2 := (1, [vR y, vI n, vI q, vU, vU], [vI n], aq_h m s F c)) rfl rfl ?_
  refine am_E.call rfl rfl rfl (Nat.le_of_ble_eq_true rfl) (qm_isWide) ?_
  rintro r5 h5 ⟨rfl, v_1, rfl, hv_1⟩
  show am_E _ (4, [vR y, vI n, vI q, vU, vU], [vI v_1], aq_h m s F c) _
  refine ae_if0 rfl (fun (q_2 : v_1 = 0) => ?_) (fun (q_2 : v_1 ≠ 0) => ?_)
  · refine am_E.go (t2 := (18, [vR y, vI n, vI q, vU, vU], [vI (-1)], aq_h m s F c)) rfl rfl ?_
    refine am_E.ret rfl rfl ?_
    exact ⟨_, rfl, (aq_sm0 (c := c) (S := fun a => y ≤ a ∧ a < y + 24 ∧ a ≠ y + 10)), ⟨_, rfl⟩, hI⟩
  · refine am_E.go (t2 := (8, [vR y, vI n, vI q, vU, vU], [vI q], aq_h m s F c)) rfl rfl ?_
    refine am_E.go (t2 := (9, [vR y, vI n, vI q, vU, vU], [vL q], aq_h m s F c)) rfl rfl ?_
    refine am_E.go (t2 := (10, [vR y, vI n, vI q, vU, vU], [vL 0, vL q], aq_h m s F c)) rfl rfl ?_
    refine am_E.go (t2 := (11, [vR y, vI n, vI q, vU, vU], [vL 1, vL 0, vL q], aq_h m s F c)) rfl rfl ?_
    refine am_E.call rfl rfl rfl (Nat.le_of_ble_eq_true rfl) (qm_in) ?_
    rintro r5 h5 ⟨rfl, v_3, rfl, hv_3⟩
    show am_E _ (14, [vR y, vI n, vI q, vU, vU], [vI v_3], aq_h m s F c) _
    refine ae_if0 rfl (fun (q_4 : v_3 ≠ 0) => ?_) (fun (q_4 : v_3 = 0) => ?_)
    · refine am_E.go (t2 := (20, [vR y, vI n, vI q, vU, vU], [vI 0], aq_h m s F c)) rfl rfl ?_
      refine am_E.go (t2 := (21, [vR y, vI n, vI q, vI 0, vU], [], aq_h m s F c)) rfl rfl ?_
      refine am_E.go (t2 := (22, [vR y, vI n, vI q, vI 0, vU], [vI 0], aq_h m s F c)) rfl rfl ?_
      refine am_E.go (t2 := (24, [vR y, vI n, vI q, vI 0, vI 0], [], aq_h m s F c)) rfl rfl ?_
      exact qk_many_l hI ⟨hm, hFo, hG5, hG6, hG7, hG8, hG9, hG10, hG11, hG12, hG13, hG14, hG15, hG16, hG17, hG18, hG19, hG20, hG21, hG22, hG23⟩ ⟨hT1, hTt⟩ (by omega) (by omega) 106 0 0 (by omega) (by omega) (by omega)
    · refine am_E.go (t2 := (18, [vR y, vI n, vI q, vU, vU], [vI (-1)], aq_h m s F c)) rfl rfl ?_
      refine am_E.ret rfl rfl ?_
      exact ⟨_, rfl, (aq_sm0 (c := c) (S := fun a => y ≤ a ∧ a < y + 24 ∧ a ≠ y + 10)), ⟨_, rfl⟩, hI⟩

theorem qk_X5_partner {m s : Nat} {F : aq_F} {c : aq_C} {y : Nat} (hC : mo_C m F y) (hI : mo_I y c) {n bb p : Int} : am_E ac_X5_partner (0, [vR y, vI n, vI bb, vI p], [], aq_h m s F c) (aq_Z m s F (fun a => y ≤ a ∧ a < y + 24 ∧ a ≠ y + 10) c (fun r d => aq_vi r ∧ mo_I y d)) := by
  obtain ⟨⟨hm, hFo, hG5, hG6, hG7, hG8, hG9, hG10, hG11, hG12, hG13, hG14, hG15, hG16, hG17, hG18, hG19, hG20, hG21, hG22, hG23⟩, ⟨tbl, hT1, hTt⟩, ⟨tA, tB, tD, hL1, hL2, hL3, hLt⟩⟩ := hC
  have hfs := mo_fs n
  refine am_E.go (t2 := (1, [vR y, vI n, vI bb, vI p], [vI n], aq_h m s F c)) rfl rfl ?_
  refine am_E.go (t2 := (2, [vR y, vI n, vI bb, vI p], [vI bb, vI n], aq_h m s F c)) rfl rfl ?_
  refine am_E.call rfl rfl rfl (Nat.le_of_ble_eq_true rfl) (qm_isBox) ?_
  rintro r5 h5 ⟨rfl, v_1, rfl, hv_1⟩
  show am_E _ (5, [vR y, vI n, vI bb, vI p], [vI v_1], aq_h m s F c) _
  refine ae_if0 rfl (fun (q_2 : v_1 = 0) => ?_) (fun (q_2 : v_1 ≠ 0) => ?_)
  · refine am_E.go (t2 := (39, [vR y, vI n, vI bb, vI p], [vI (-1)], aq_h m s F c)) rfl rfl ?_
    refine am_E.ret rfl rfl ?_
    exact ⟨_, rfl, (aq_sm0 (c := c) (S := fun a => y ≤ a ∧ a < y + 24 ∧ a ≠ y + 10)), ⟨_, rfl⟩, hI⟩
  · refine am_E.go (t2 := (9, [vR y, vI n, vI bb, vI p], [vI p], aq_h m s F c)) rfl rfl ?_
    refine am_E.go (t2 := (10, [vR y, vI n, vI bb, vI p], [vL p], aq_h m s F c)) rfl rfl ?_
    refine am_E.go (t2 := (11, [vR y, vI n, vI bb, vI p], [vL 0, vL p], aq_h m s F c)) rfl rfl ?_
    refine am_E.go (t2 := (12, [vR y, vI n, vI bb, vI p], [vI 2, vL 0, vL p], aq_h m s F c)) rfl rfl ?_
    refine am_E.go (t2 := (13, [vR y, vI n, vI bb, vI p], [vI n, vI 2, vL 0, vL p], aq_h m s F c)) rfl rfl ?_
    refine ae_mul rfl (am_ri (by omega) (by omega)) ?_
    show am_E _ (14, [vR y, vI n, vI bb, vI p], [vI (2 * n), vL 0, vL p], aq_h m s F c) _
    refine am_E.go (t2 := (15, [vR y, vI n, vI bb, vI p], [vI 1, vI (2 * n), vL 0, vL p], aq_h m s F c)) rfl rfl ?_
    refine ae_sub rfl (am_ri (by omega) (by omega)) ?_
    show am_E _ (16, [vR y, vI n, vI bb, vI p], [vI ((2 * n) - 1), vL 0, vL p], aq_h m s F c) _
    refine am_E.go (t2 := (17, [vR y, vI n, vI bb, vI p], [vL ((2 * n) - 1), vL 0, vL p], aq_h m s F c)) rfl rfl ?_
    refine am_E.call rfl rfl rfl (Nat.le_of_ble_eq_true rfl) (qm_in) ?_
    rintro r5 h5 ⟨rfl, v_3, rfl, hv_3⟩
    show am_E _ (20, [vR y, vI n, vI bb, vI p], [vI v_3], aq_h m s F c) _
    refine ae_if0 rfl (fun (q_4 : v_3 = 0) => ?_) (fun (q_4 : v_3 ≠ 0) => ?_)
    · refine am_E.go (t2 := (39, [vR y, vI n, vI bb, vI p], [vI (-1)], aq_h m s F c)) rfl rfl ?_
      refine am_E.ret rfl rfl ?_
      exact ⟨_, rfl, (aq_sm0 (c := c) (S := fun a => y ≤ a ∧ a < y + 24 ∧ a ≠ y + 10)), ⟨_, rfl⟩, hI⟩
    · refine am_E.go (t2 := (24, [vR y, vI n, vI bb, vI p], [vR y], aq_h m s F c)) rfl rfl ?_
      refine aq_gf (v := vR (y + 1)) rfl (by omega) hFo (by decide) rfl ?_
      show am_E _ (27, [vR y, vI n, vI bb, vI p], [vR (y + 1)], aq_h m s F c) _
      refine am_E.go (t2 := (28, [vR y, vI n, vI bb, vI p], [vI n, vR (y + 1)], aq_h m s F c)) rfl rfl ?_
      refine am_E.go (t2 := (29, [vR y, vI n, vI bb, vI p], [vI bb, vI n, vR (y + 1)], aq_h m s F c)) rfl rfl ?_
      refine am_E.call rfl rfl rfl (Nat.le_of_ble_eq_true rfl) (qm_at (by omega) (by omega)) ?_
      rintro r5 h5 ⟨rfl, xa, rfl, hxa⟩
      show am_E _ (32, [vR y, vI n, vI bb, vI p], [vI xa, vR (y + 1)], aq_h m s F c) _
      refine am_E.go (t2 := (33, [vR y, vI n, vI bb, vI p], [vI p, vI xa, vR (y + 1)], aq_h m s F c)) rfl rfl ?_
      refine ae_add rfl (am_ri (by omega) (by omega)) ?_
      show am_E _ (34, [vR y, vI n, vI bb, vI p], [vI (xa + p), vR (y + 1)], aq_h m s F c) _
      refine aq_alt (ok := fun k => k == 0) rfl rfl (by omega) hT1 rfl (by omega) (by omega) ?_
      show am_E _ (35, [vR y, vI n, vI bb, vI p], [vI (tbl (xa + p))], aq_h m s F c) _
      refine am_E.go (t2 := (39, [vR y, vI n, vI bb, vI p], [vI (tbl (xa + p))], aq_h m s F c)) rfl rfl ?_
      refine am_E.ret rfl rfl ?_
      exact ⟨_, rfl, (aq_sm0 (c := c) (S := fun a => y ≤ a ∧ a < y + 24 ∧ a ≠ y + 10)), ⟨_, rfl⟩, hI⟩

theorem qk_X5_about {m s : Nat} {F : aq_F} {c : aq_C} {y : Nat} (hC : mo_C m F y) (hI : mo_I y c) {n bb w : Int} : am_E ac_X5_about (0, [vR y, vI n, vI bb, vI w], [], aq_h m s F c) (aq_Z m s F (fun a => y ≤ a ∧ a < y + 24 ∧ a ≠ y + 10) c (fun r d => aq_vi r ∧ mo_I y d)) := by
  obtain ⟨⟨hm, hFo, hG5, hG6, hG7, hG8, hG9, hG10, hG11, hG12, hG13, hG14, hG15, hG16, hG17, hG18, hG19, hG20, hG21, hG22, hG23⟩, ⟨tbl, hT1, hTt⟩, ⟨tA, tB, tD, hL1, hL2, hL3, hLt⟩⟩ := hC
  have hfs := mo_fs n
  refine am_E.go (t2 := (1, [vR y, vI n, vI bb, vI w], [vI n], aq_h m s F c)) rfl rfl ?_
  refine am_E.go (t2 := (2, [vR y, vI n, vI bb, vI w], [vI bb, vI n], aq_h m s F c)) rfl rfl ?_
  refine am_E.call rfl rfl rfl (Nat.le_of_ble_eq_true rfl) (qm_isBox) ?_
  rintro r5 h5 ⟨rfl, v_1, rfl, hv_1⟩
  show am_E _ (5, [vR y, vI n, vI bb, vI w], [vI v_1], aq_h m s F c) _
  refine ae_if0 rfl (fun (q_2 : v_1 = 0) => ?_) (fun (q_2 : v_1 ≠ 0) => ?_)
  · refine am_E.go (t2 := (21, [vR y, vI n, vI bb, vI w], [vI (-1)], aq_h m s F c)) rfl rfl ?_
    refine am_E.ret rfl rfl ?_
    exact ⟨_, rfl, (aq_sm0 (c := c) (S := fun a => y ≤ a ∧ a < y + 24 ∧ a ≠ y + 10)), ⟨_, rfl⟩, hI⟩
  · refine am_E.go (t2 := (9, [vR y, vI n, vI bb, vI w], [vI w], aq_h m s F c)) rfl rfl ?_
    refine am_E.go (t2 := (10, [vR y, vI n, vI bb, vI w], [vL w], aq_h m s F c)) rfl rfl ?_
    refine am_E.go (t2 := (11, [vR y, vI n, vI bb, vI w], [vL 0, vL w], aq_h m s F c)) rfl rfl ?_
    refine am_E.go (t2 := (14, [vR y, vI n, vI bb, vI w], [vL 4, vL 0, vL w], aq_h m s F c)) rfl rfl ?_
    refine am_E.call rfl rfl rfl (Nat.le_of_ble_eq_true rfl) (qm_in) ?_
    rintro r5 h5 ⟨rfl, v_3, rfl, hv_3⟩
    show am_E _ (17, [vR y, vI n, vI bb, vI w], [vI v_3], aq_h m s F c) _
    refine ae_if0 rfl (fun (q_4 : v_3 ≠ 0) => ?_) (fun (q_4 : v_3 = 0) => ?_)
    · refine am_E.go (t2 := (23, [vR y, vI n, vI bb, vI w], [vI w], aq_h m s F c)) rfl rfl ?_
      have hsw : w = 0 ∨ w = 1 ∨ w = 2 ∨ w = 3 ∨ (w < 0 ∨ 3 < w) := by omega
      rcases hsw with h | h | h | h | h
      · subst h
        refine am_E.go (t2 := (52, [vR y, vI n, vI bb, vI 0], [], aq_h m s F c)) rfl rfl ?_
        refine am_E.go (t2 := (53, [vR y, vI n, vI bb, vI 0], [vR y], aq_h m s F c)) rfl rfl ?_
        refine am_E.go (t2 := (54, [vR y, vI n, vI bb, vI 0], [vI n, vR y], aq_h m s F c)) rfl rfl ?_
        refine am_E.go (t2 := (55, [vR y, vI n, vI bb, vI 0], [vI bb, vI n, vR y], aq_h m s F c)) rfl rfl ?_
        refine aq_callv (y := 3) (as2 := [vI n, vI bb]) (rest := []) rfl rfl (by decide) (Nat.le_of_ble_eq_true rfl) rfl rfl (Nat.le_of_ble_eq_true rfl) (by omega) hFo rfl (Nat.le_of_ble_eq_true rfl) (qm_isPlane ⟨hm, hFo, hG5, hG6, hG7, hG8, hG9, hG10, hG11, hG12, hG13, hG14, hG15, hG16, hG17, hG18, hG19, hG20, hG21, hG22, hG23⟩ ⟨hT1, hTt⟩ (by omega) (by omega) (by omega) (by omega)) ?_
        rintro r5 h5 ⟨rfl, v_5, rfl, hv_5⟩
        show am_E _ (58, [vR y, vI n, vI bb, vI 0], [vI v_5], aq_h m s F c) _
        refine ae_if0 rfl (fun (q_6 : v_5 = 0) => ?_) (fun (q_6 : v_5 ≠ 0) => ?_)
        · refine am_E.go (t2 := (66, [vR y, vI n, vI bb, vI 0], [vI 0], aq_h m s F c)) rfl rfl ?_
          refine am_E.ret rfl rfl ?_
          exact ⟨_, rfl, (aq_sm0 (c := c) (S := fun a => y ≤ a ∧ a < y + 24 ∧ a ≠ y + 10)), ⟨_, rfl⟩, hI⟩
        · refine am_E.go (t2 := (62, [vR y, vI n, vI bb, vI 0], [vI 1], aq_h m s F c)) rfl rfl ?_
          refine am_E.go (t2 := (66, [vR y, vI n, vI bb, vI 0], [vI 1], aq_h m s F c)) rfl rfl ?_
          refine am_E.ret rfl rfl ?_
          exact ⟨_, rfl, (aq_sm0 (c := c) (S := fun a => y ≤ a ∧ a < y + 24 ∧ a ≠ y + 10)), ⟨_, rfl⟩, hI⟩
      · subst h
        refine am_E.go (t2 := (67, [vR y, vI n, vI bb, vI 1], [], aq_h m s F c)) rfl rfl ?_
        refine am_E.go (t2 := (68, [vR y, vI n, vI bb, vI 1], [vR y], aq_h m s F c)) rfl rfl ?_
        refine am_E.go (t2 := (69, [vR y, vI n, vI bb, vI 1], [vI n, vR y], aq_h m s F c)) rfl rfl ?_
        refine am_E.go (t2 := (70, [vR y, vI n, vI bb, vI 1], [vI bb, vI n, vR y], aq_h m s F c)) rfl rfl ?_
        refine aq_callv (y := 3) (as2 := [vI n, vI bb]) (rest := []) rfl rfl (by decide) (Nat.le_of_ble_eq_true rfl) rfl rfl (Nat.le_of_ble_eq_true rfl) (by omega) hFo rfl (Nat.le_of_ble_eq_true rfl) (qm_through ⟨hm, hFo, hG5, hG6, hG7, hG8, hG9, hG10, hG11, hG12, hG13, hG14, hG15, hG16, hG17, hG18, hG19, hG20, hG21, hG22, hG23⟩ ⟨hT1, hTt⟩ (by omega) (by omega) (by omega) (by omega)) ?_
        rintro r5 h5 ⟨rfl, v_7, rfl⟩
        show am_E _ (73, [vR y, vI n, vI bb, vI 1], [vI v_7], aq_h m s F c) _
        refine am_E.ret rfl rfl ?_
        exact ⟨_, rfl, (aq_sm0 (c := c) (S := fun a => y ≤ a ∧ a < y + 24 ∧ a ≠ y + 10)), ⟨_, rfl⟩, hI⟩
      · subst h
        refine am_E.go (t2 := (74, [vR y, vI n, vI bb, vI 2], [], aq_h m s F c)) rfl rfl ?_
        refine am_E.go (t2 := (75, [vR y, vI n, vI bb, vI 2], [vR y], aq_h m s F c)) rfl rfl ?_
        refine am_E.go (t2 := (76, [vR y, vI n, vI bb, vI 2], [vI n, vR y], aq_h m s F c)) rfl rfl ?_
        refine am_E.go (t2 := (77, [vR y, vI n, vI bb, vI 2], [vI bb, vI n, vR y], aq_h m s F c)) rfl rfl ?_
        refine aq_callv (y := 3) (as2 := [vI n, vI bb]) (rest := []) rfl rfl (by decide) (Nat.le_of_ble_eq_true rfl) rfl rfl (Nat.le_of_ble_eq_true rfl) (by omega) hFo rfl (Nat.le_of_ble_eq_true rfl) (qm_upsideDown (S := fun a => a = y + 12) ⟨hm, hFo, hG5, hG6, hG7, hG8, hG9, hG10, hG11, hG12, hG13, hG14, hG15, hG16, hG17, hG18, hG19, hG20, hG21, hG22, hG23⟩ rfl ⟨hT1, hTt⟩ (by omega) (by omega) (by omega) (by omega)) ?_
        rintro r5 h5 ⟨c_b, rfl, s_b, v_b, rfl⟩
        show am_E _ (80, [vR y, vI n, vI bb, vI 2], [vI v_b], aq_h m s F c_b) _
        refine am_E.ret rfl rfl ?_
        exact ⟨_, rfl, (aq_smt (aq_sm0 (c := c) (S := fun a => y ≤ a ∧ a < y + 24 ∧ a ≠ y + 10)) (aq_smi s_b (fun a h => by omega))), ⟨_, rfl⟩, mo_Is hI s_b (mo_ks mo_k0 s_b (by omega)) (by omega) (by omega) (by omega) (by omega) (by omega)⟩
      · subst h
        refine am_E.go (t2 := (81, [vR y, vI n, vI bb, vI 3], [], aq_h m s F c)) rfl rfl ?_
        refine am_E.go (t2 := (82, [vR y, vI n, vI bb, vI 3], [vR y], aq_h m s F c)) rfl rfl ?_
        refine am_E.go (t2 := (83, [vR y, vI n, vI bb, vI 3], [vI n, vR y], aq_h m s F c)) rfl rfl ?_
        refine am_E.go (t2 := (84, [vR y, vI n, vI bb, vI 3], [vI bb, vI n, vR y], aq_h m s F c)) rfl rfl ?_
        refine aq_callv (y := 3) (as2 := [vI n, vI bb]) (rest := []) rfl rfl (by decide) (Nat.le_of_ble_eq_true rfl) rfl rfl (Nat.le_of_ble_eq_true rfl) (by omega) hFo rfl (Nat.le_of_ble_eq_true rfl) (qm_rings (S := fun a => a = y + 13) ⟨hm, hFo, hG5, hG6, hG7, hG8, hG9, hG10, hG11, hG12, hG13, hG14, hG15, hG16, hG17, hG18, hG19, hG20, hG21, hG22, hG23⟩ rfl ⟨hT1, hTt⟩ (by omega) (by omega) (by omega) (by omega)) ?_
        rintro r5 h5 ⟨c_b, rfl, s_b, v_b, rfl, hv_b⟩
        show am_E _ (87, [vR y, vI n, vI bb, vI 3], [vI v_b], aq_h m s F c_b) _
        refine am_E.ret rfl rfl ?_
        exact ⟨_, rfl, (aq_smt (aq_sm0 (c := c) (S := fun a => y ≤ a ∧ a < y + 24 ∧ a ≠ y + 10)) (aq_smi s_b (fun a h => by omega))), ⟨_, rfl⟩, mo_Is hI s_b (mo_ks mo_k0 s_b (by omega)) (by omega) (by omega) (by omega) (by omega) (by omega)⟩
      · refine ae_swd rfl h ?_
        show am_E _ (88, [vR y, vI n, vI bb, vI w], [], aq_h m s F c) _
        refine am_E.go (t2 := (89, [vR y, vI n, vI bb, vI w], [vR y], aq_h m s F c)) rfl rfl ?_
        refine aq_gf (v := vR (y + 4)) rfl (by omega) hFo (by decide) rfl ?_
        show am_E _ (92, [vR y, vI n, vI bb, vI w], [vR (y + 4)], aq_h m s F c) _
        refine am_E.go (t2 := (93, [vR y, vI n, vI bb, vI w], [vI n, vR (y + 4)], aq_h m s F c)) rfl rfl ?_
        refine am_E.call rfl rfl rfl (Nat.le_of_ble_eq_true rfl) (qm_first) ?_
        rintro r5 h5 ⟨rfl, v_8, rfl, hv_8⟩
        show am_E _ (96, [vR y, vI n, vI bb, vI w], [vI v_8, vR (y + 4)], aq_h m s F c) _
        refine am_E.go (t2 := (97, [vR y, vI n, vI bb, vI w], [vI bb, vI v_8, vR (y + 4)], aq_h m s F c)) rfl rfl ?_
        refine ae_add rfl (am_ri (by omega) (by omega)) ?_
        show am_E _ (98, [vR y, vI n, vI bb, vI w], [vI (v_8 + bb), vR (y + 4)], aq_h m s F c) _
        refine aq_alt (ok := fun k => k == 0) rfl rfl (by omega) hL3 rfl (by omega) (by omega) ?_
        show am_E _ (99, [vR y, vI n, vI bb, vI w], [vI (tD (v_8 + bb))], aq_h m s F c) _
        refine am_E.ret rfl rfl ?_
        exact ⟨_, rfl, (aq_sm0 (c := c) (S := fun a => y ≤ a ∧ a < y + 24 ∧ a ≠ y + 10)), ⟨_, rfl⟩, hI⟩
    · refine am_E.go (t2 := (21, [vR y, vI n, vI bb, vI w], [vI (-1)], aq_h m s F c)) rfl rfl ?_
      refine am_E.ret rfl rfl ?_
      exact ⟨_, rfl, (aq_sm0 (c := c) (S := fun a => y ≤ a ∧ a < y + 24 ∧ a ≠ y + 10)), ⟨_, rfl⟩, hI⟩

theorem qk_X5_stack {m s : Nat} {F : aq_F} {c : aq_C} {y : Nat} (hC : mo_C m F y) (hI : mo_I y c) {n bb cc : Int} : am_E ac_X5_stack (0, [vR y, vI n, vI bb, vI cc, vU], [], aq_h m s F c) (aq_Z m s F (fun a => y ≤ a ∧ a < y + 24 ∧ a ≠ y + 10) c (fun r d => aq_vi r ∧ mo_I y d)) := by
  obtain ⟨⟨hm, hFo, hG5, hG6, hG7, hG8, hG9, hG10, hG11, hG12, hG13, hG14, hG15, hG16, hG17, hG18, hG19, hG20, hG21, hG22, hG23⟩, ⟨tbl, hT1, hTt⟩, ⟨tA, tB, tD, hL1, hL2, hL3, hLt⟩⟩ := hC
  have hfs := mo_fs n
  refine am_E.go (t2 := (1, [vR y, vI n, vI bb, vI cc, vU], [vI n], aq_h m s F c)) rfl rfl ?_
  refine am_E.go (t2 := (2, [vR y, vI n, vI bb, vI cc, vU], [vI bb, vI n], aq_h m s F c)) rfl rfl ?_
  refine am_E.call rfl rfl rfl (Nat.le_of_ble_eq_true rfl) (qm_isBox) ?_
  rintro r5 h5 ⟨rfl, v_1, rfl, hv_1⟩
  show am_E _ (5, [vR y, vI n, vI bb, vI cc, vU], [vI v_1], aq_h m s F c) _
  refine ae_if0 rfl (fun (q_2 : v_1 = 0) => ?_) (fun (q_2 : v_1 ≠ 0) => ?_)
  · refine am_E.go (t2 := (17, [vR y, vI n, vI bb, vI cc, vU], [vI (-1)], aq_h m s F c)) rfl rfl ?_
    refine am_E.ret rfl rfl ?_
    exact ⟨_, rfl, (aq_sm0 (c := c) (S := fun a => y ≤ a ∧ a < y + 24 ∧ a ≠ y + 10)), ⟨_, rfl⟩, hI⟩
  · refine am_E.go (t2 := (9, [vR y, vI n, vI bb, vI cc, vU], [vI n], aq_h m s F c)) rfl rfl ?_
    refine am_E.go (t2 := (10, [vR y, vI n, vI bb, vI cc, vU], [vI cc, vI n], aq_h m s F c)) rfl rfl ?_
    refine am_E.call rfl rfl rfl (Nat.le_of_ble_eq_true rfl) (qm_isBox) ?_
    rintro r5 h5 ⟨rfl, v_3, rfl, hv_3⟩
    show am_E _ (13, [vR y, vI n, vI bb, vI cc, vU], [vI v_3], aq_h m s F c) _
    refine ae_if0 rfl (fun (q_4 : v_3 ≠ 0) => ?_) (fun (q_4 : v_3 = 0) => ?_)
    · refine am_E.go (t2 := (19, [vR y, vI n, vI bb, vI cc, vU], [vR y], aq_h m s F c)) rfl rfl ?_
      refine am_E.go (t2 := (20, [vR y, vI n, vI bb, vI cc, vU], [vI n, vR y], aq_h m s F c)) rfl rfl ?_
      refine am_E.go (t2 := (21, [vR y, vI n, vI bb, vI cc, vU], [vI bb, vI n, vR y], aq_h m s F c)) rfl rfl ?_
      refine am_E.go (t2 := (22, [vR y, vI n, vI bb, vI cc, vU], [vI cc, vI bb, vI n, vR y], aq_h m s F c)) rfl rfl ?_
      refine aq_callv (y := 4) (as2 := [vI n, vI bb, vI cc]) (rest := []) rfl rfl (by decide) (Nat.le_of_ble_eq_true rfl) rfl rfl (Nat.le_of_ble_eq_true rfl) (by omega) hFo rfl (Nat.le_of_ble_eq_true rfl) (qm_stacked (S := mo_S y) ⟨hm, hFo, hG5, hG6, hG7, hG8, hG9, hG10, hG11, hG12, hG13, hG14, hG15, hG16, hG17, hG18, hG19, hG20, hG21, hG22, hG23⟩ mo_S0 (mo_Sk (by decide) (by decide)) (mo_Sk (by decide) (by decide)) ⟨hT1, hTt⟩ (by omega) (by omega) (by omega) (by omega) (by omega) (by omega)) ?_
      rintro r5 h5 ⟨c_b, rfl, s_b, v_b, rfl, hv1_b, hv2_b, hr1_b, hr2_b, hk_b, _⟩
      show am_E _ (25, [vR y, vI n, vI bb, vI cc, vU], [vI v_b], aq_h m s F c_b) _
      refine am_E.go (t2 := (27, [vR y, vI n, vI bb, vI cc, vI v_b], [], aq_h m s F c_b)) rfl rfl ?_
      refine am_E.go (t2 := (29, [vR y, vI n, vI bb, vI cc, vI v_b], [vI v_b], aq_h m s F c_b)) rfl rfl ?_
      refine am_E.go (t2 := (32, [vR y, vI n, vI bb, vI cc, vI v_b], [vI 1000, vI v_b], aq_h m s F c_b)) rfl rfl ?_
      refine am_E.go (t2 := (33, [vR y, vI n, vI bb, vI cc, vI v_b], [vR y, vI 1000, vI v_b], aq_h m s F c_b)) rfl rfl ?_
      refine aq_gf (v := vI (c_b y 15)) rfl (by omega) hFo (by decide) rfl ?_
      show am_E _ (36, [vR y, vI n, vI bb, vI cc, vI v_b], [vI (c_b y 15), vI 1000, vI v_b], aq_h m s F c_b) _
      skip
      refine ae_mul rfl (am_ri (by omega) (by omega)) ?_
      show am_E _ (37, [vR y, vI n, vI bb, vI cc, vI v_b], [vI (1000 * (c_b y 15)), vI v_b], aq_h m s F c_b) _
      refine ae_add rfl (am_ri (by omega) (by omega)) ?_
      show am_E _ (38, [vR y, vI n, vI bb, vI cc, vI v_b], [vI (v_b + (1000 * (c_b y 15)))], aq_h m s F c_b) _
      refine am_E.ret rfl rfl ?_
      exact ⟨_, rfl, (aq_smt (aq_sm0 (c := c) (S := fun a => y ≤ a ∧ a < y + 24 ∧ a ≠ y + 10)) (aq_smi s_b (fun a h => mo_Sc h))), ⟨_, rfl⟩, mo_Ik hI s_b hk_b⟩
    · refine am_E.go (t2 := (17, [vR y, vI n, vI bb, vI cc, vU], [vI (-1)], aq_h m s F c)) rfl rfl ?_
      refine am_E.ret rfl rfl ?_
      exact ⟨_, rfl, (aq_sm0 (c := c) (S := fun a => y ≤ a ∧ a < y + 24 ∧ a ≠ y + 10)), ⟨_, rfl⟩, hI⟩

theorem qk_X5_plain {m s : Nat} {F : aq_F} {c : aq_C} {y : Nat} (hC : mo_C m F y) (hI : mo_I y c) {n l : Int} : am_E ac_X5_plain (0, [vR y, vI n, vI l], [], aq_h m s F c) (aq_Z m s F (fun a => y ≤ a ∧ a < y + 24 ∧ a ≠ y + 10) c (fun r d => aq_vi r ∧ mo_I y d)) := by
  obtain ⟨⟨hm, hFo, hG5, hG6, hG7, hG8, hG9, hG10, hG11, hG12, hG13, hG14, hG15, hG16, hG17, hG18, hG19, hG20, hG21, hG22, hG23⟩, ⟨tbl, hT1, hTt⟩, ⟨tA, tB, tD, hL1, hL2, hL3, hLt⟩⟩ := hC
  refine am_E.go (t2 := (1, [vR y, vI n, vI l], [vI n], aq_h m s F c)) rfl rfl ?_
  refine am_E.call rfl rfl rfl (Nat.le_of_ble_eq_true rfl) (qm_isWide) ?_
  rintro r5 h5 ⟨rfl, v_1, rfl, hv_1⟩
  show am_E _ (4, [vR y, vI n, vI l], [vI v_1], aq_h m s F c) _
  refine ae_if0 rfl (fun (q_2 : v_1 = 0) => ?_) (fun (q_2 : v_1 ≠ 0) => ?_)
  · refine am_E.go (t2 := (20, [vR y, vI n, vI l], [vI (-1)], aq_h m s F c)) rfl rfl ?_
    refine am_E.go (t2 := (29, [vR y, vI n, vI l], [vI (-1)], aq_h m s F c)) rfl rfl ?_
    refine am_E.ret rfl rfl ?_
    exact ⟨_, rfl, (aq_sm0 (c := c) (S := fun a => y ≤ a ∧ a < y + 24 ∧ a ≠ y + 10)), ⟨_, rfl⟩, hI⟩
  · refine am_E.go (t2 := (8, [vR y, vI n, vI l], [vI l], aq_h m s F c)) rfl rfl ?_
    refine ae_if0 rfl (fun (q_3 : l = 0) => ?_) (fun (q_3 : l ≠ 0) => ?_)
    · refine am_E.go (t2 := (24, [vR y, vI n, vI l], [vR y], aq_h m s F c)) rfl rfl ?_
      refine am_E.go (t2 := (25, [vR y, vI n, vI l], [vI n, vR y], aq_h m s F c)) rfl rfl ?_
      refine am_E.go (t2 := (26, [vR y, vI n, vI l], [vI l, vI n, vR y], aq_h m s F c)) rfl rfl ?_
      refine aq_callv (y := 3) (as2 := [vI n, vI l]) (rest := []) rfl rfl (by decide) (Nat.le_of_ble_eq_true rfl) rfl rfl (Nat.le_of_ble_eq_true rfl) (by omega) hFo rfl (Nat.le_of_ble_eq_true rfl) (qm_plainBox (S := fun a => a = y + 12) ⟨hm, hFo, hG5, hG6, hG7, hG8, hG9, hG10, hG11, hG12, hG13, hG14, hG15, hG16, hG17, hG18, hG19, hG20, hG21, hG22, hG23⟩ rfl ⟨hT1, hTt⟩ (by omega) (by omega) (by omega)) ?_
      rintro r5 h5 ⟨c_b, rfl, s_b, v_b, rfl, hv1_b, hv2_b, _⟩
      show am_E _ (29, [vR y, vI n, vI l], [vI v_b], aq_h m s F c_b) _
      refine am_E.ret rfl rfl ?_
      exact ⟨_, rfl, (aq_smt (aq_sm0 (c := c) (S := fun a => y ≤ a ∧ a < y + 24 ∧ a ≠ y + 10)) (aq_smi s_b (fun a h => by omega))), ⟨_, rfl⟩, mo_Is hI s_b (mo_ks mo_k0 s_b (by omega)) (by omega) (by omega) (by omega) (by omega) (by omega)⟩
    · refine am_E.go (t2 := (12, [vR y, vI n, vI l], [vI n], aq_h m s F c)) rfl rfl ?_
      refine am_E.go (t2 := (13, [vR y, vI n, vI l], [vI l, vI n], aq_h m s F c)) rfl rfl ?_
      refine am_E.call rfl rfl rfl (Nat.le_of_ble_eq_true rfl) (qm_isLetter (by omega) (by omega)) ?_
      rintro r5 h5 ⟨rfl, v_4, rfl, hv_4⟩
      show am_E _ (16, [vR y, vI n, vI l], [vI v_4], aq_h m s F c) _
      refine ae_if0 rfl (fun (q_5 : v_4 ≠ 0) => ?_) (fun (q_5 : v_4 = 0) => ?_)
      · refine am_E.go (t2 := (24, [vR y, vI n, vI l], [vR y], aq_h m s F c)) rfl rfl ?_
        refine am_E.go (t2 := (25, [vR y, vI n, vI l], [vI n, vR y], aq_h m s F c)) rfl rfl ?_
        refine am_E.go (t2 := (26, [vR y, vI n, vI l], [vI l, vI n, vR y], aq_h m s F c)) rfl rfl ?_
        refine aq_callv (y := 3) (as2 := [vI n, vI l]) (rest := []) rfl rfl (by decide) (Nat.le_of_ble_eq_true rfl) rfl rfl (Nat.le_of_ble_eq_true rfl) (by omega) hFo rfl (Nat.le_of_ble_eq_true rfl) (qm_plainBox (S := fun a => a = y + 12) ⟨hm, hFo, hG5, hG6, hG7, hG8, hG9, hG10, hG11, hG12, hG13, hG14, hG15, hG16, hG17, hG18, hG19, hG20, hG21, hG22, hG23⟩ rfl ⟨hT1, hTt⟩ (by omega) (by omega) (by omega)) ?_
        rintro r5 h5 ⟨c_b, rfl, s_b, v_b, rfl, hv1_b, hv2_b, _⟩
        show am_E _ (29, [vR y, vI n, vI l], [vI v_b], aq_h m s F c_b) _
        refine am_E.ret rfl rfl ?_
        exact ⟨_, rfl, (aq_smt (aq_sm0 (c := c) (S := fun a => y ≤ a ∧ a < y + 24 ∧ a ≠ y + 10)) (aq_smi s_b (fun a h => by omega))), ⟨_, rfl⟩, mo_Is hI s_b (mo_ks mo_k0 s_b (by omega)) (by omega) (by omega) (by omega) (by omega) (by omega)⟩
      · refine am_E.go (t2 := (20, [vR y, vI n, vI l], [vI (-1)], aq_h m s F c)) rfl rfl ?_
        refine am_E.go (t2 := (29, [vR y, vI n, vI l], [vI (-1)], aq_h m s F c)) rfl rfl ?_
        refine am_E.ret rfl rfl ?_
        exact ⟨_, rfl, (aq_sm0 (c := c) (S := fun a => y ≤ a ∧ a < y + 24 ∧ a ≠ y + 10)), ⟨_, rfl⟩, hI⟩

theorem qk_word_l {m s : Nat} {F : aq_F} {c : aq_C} {y : Nat} (hI : mo_I y c) (hO : mo_0 m F y) {tA tB : Int → Int} {n bb i fr mm : Int} (hn1 : 1 ≤ n) (hn4 : n ≤ 4) (hfr : fr = mo_f n) (hi : 0 ≤ i) (hL1 : F (y + 2) = (0, 124, fun j => .inr (vI (tA (j : Int))))) (hL2 : F (y + 3) = (0, 124, fun j => .inr (vI (tB (j : Int))))) (hLt : ∀ b : Int, 0 ≤ b → b < bx_K n → 0 ≤ tB (fr + b) ∧ tB (fr + b) < bx_K n) : ∀ (d : Nat) (a : Int) (k : Int) (h0 : 0 ≤ a) (h1 : a < bx_K n) (h2 : k ≤ 124) (hd : max 0 (k - i) < (d : Int)), am_E ac_X5_word (49, [vR y, vI n, vI bb, vI i, vI fr, vI mm, vI a, vI k], [], aq_h m s F c) (aq_Z m s F (fun a => y ≤ a ∧ a < y + 24 ∧ a ≠ y + 10) c (fun r d => aq_vi r ∧ mo_I y d))
  | 0, a, k, h0, h1, h2, hd => by exfalso; omega
  | d + 1, a, k, h0, h1, h2, hd => by
    obtain ⟨hm, hFo, hG5, hG6, hG7, hG8, hG9, hG10, hG11, hG12, hG13, hG14, hG15, hG16, hG17, hG18, hG19, hG20, hG21, hG22, hG23⟩ := hO
    have hfs := mo_fs n
    refine am_E.go (t2 := (51, [vR y, vI n, vI bb, vI i, vI fr, vI mm, vI a, vI k], [vI k], aq_h m s F c)) rfl rfl ?_
    refine am_E.go (t2 := (52, [vR y, vI n, vI bb, vI i, vI fr, vI mm, vI a, vI k], [vI i, vI k], aq_h m s F c)) rfl rfl ?_
    refine ae_icmp rfl (fun (q_1 : k ≤ i) => ?_) (fun (q_1 : i < k) => ?_)
    · refine am_E.go (t2 := (74, [vR y, vI n, vI bb, vI i, vI fr, vI mm, vI a, vI k], [vR y], aq_h m s F c)) rfl rfl ?_
      refine aq_gf (v := vR (y + 2)) rfl (by omega) hFo (by decide) rfl ?_
      show am_E _ (77, [vR y, vI n, vI bb, vI i, vI fr, vI mm, vI a, vI k], [vR (y + 2)], aq_h m s F c) _
      refine am_E.go (t2 := (79, [vR y, vI n, vI bb, vI i, vI fr, vI mm, vI a, vI k], [vI fr, vR (y + 2)], aq_h m s F c)) rfl rfl ?_
      refine am_E.go (t2 := (81, [vR y, vI n, vI bb, vI i, vI fr, vI mm, vI a, vI k], [vI a, vI fr, vR (y + 2)], aq_h m s F c)) rfl rfl ?_
      refine ae_add rfl (am_ri (by omega) (by omega)) ?_
      show am_E _ (82, [vR y, vI n, vI bb, vI i, vI fr, vI mm, vI a, vI k], [vI (fr + a), vR (y + 2)], aq_h m s F c) _
      refine aq_alt (ok := fun k => k == 0) rfl rfl (by omega) hL1 rfl (by omega) (by omega) ?_
      show am_E _ (83, [vR y, vI n, vI bb, vI i, vI fr, vI mm, vI a, vI k], [vI (tA (fr + a))], aq_h m s F c) _
      refine am_E.ret rfl rfl ?_
      exact ⟨_, rfl, aq_sm0, ⟨_, rfl⟩, hI⟩
    · refine am_E.go (t2 := (56, [vR y, vI n, vI bb, vI i, vI fr, vI mm, vI a, vI k], [vR y], aq_h m s F c)) rfl rfl ?_
      refine aq_gf (v := vR (y + 3)) rfl (by omega) hFo (by decide) rfl ?_
      show am_E _ (59, [vR y, vI n, vI bb, vI i, vI fr, vI mm, vI a, vI k], [vR (y + 3)], aq_h m s F c) _
      refine am_E.go (t2 := (61, [vR y, vI n, vI bb, vI i, vI fr, vI mm, vI a, vI k], [vI fr, vR (y + 3)], aq_h m s F c)) rfl rfl ?_
      refine am_E.go (t2 := (63, [vR y, vI n, vI bb, vI i, vI fr, vI mm, vI a, vI k], [vI a, vI fr, vR (y + 3)], aq_h m s F c)) rfl rfl ?_
      refine ae_add rfl (am_ri (by omega) (by omega)) ?_
      show am_E _ (64, [vR y, vI n, vI bb, vI i, vI fr, vI mm, vI a, vI k], [vI (fr + a), vR (y + 3)], aq_h m s F c) _
      refine aq_alt (ok := fun k => k == 0) rfl rfl (by omega) hL2 rfl (by omega) (by omega) ?_
      show am_E _ (65, [vR y, vI n, vI bb, vI i, vI fr, vI mm, vI a, vI k], [vI (tB (fr + a))], aq_h m s F c) _
      have f_2 := hLt a (by omega) (by omega)
      refine am_E.go (t2 := (67, [vR y, vI n, vI bb, vI i, vI fr, vI mm, vI (tB (fr + a)), vI k], [], aq_h m s F c)) rfl rfl ?_
      refine ae_iinc rfl rfl (am_ri (by omega) (by omega)) ?_
      show am_E _ (70, [vR y, vI n, vI bb, vI i, vI fr, vI mm, vI (tB (fr + a)), vI (k + (-1))], [], aq_h m s F c) _
      refine am_E.go (t2 := (49, [vR y, vI n, vI bb, vI i, vI fr, vI mm, vI (tB (fr + a)), vI (k + (-1))], [], aq_h m s F c)) rfl rfl ?_
      exact qk_word_l hI ⟨hm, hFo, hG5, hG6, hG7, hG8, hG9, hG10, hG11, hG12, hG13, hG14, hG15, hG16, hG17, hG18, hG19, hG20, hG21, hG22, hG23⟩ hn1 hn4 hfr hi hL1 hL2 hLt d (tB (fr + a)) (k + (-1)) (by omega) (by omega) (by omega) (by omega)

theorem qk_X5_word {m s : Nat} {F : aq_F} {c : aq_C} {y : Nat} (hC : mo_C m F y) (hI : mo_I y c) {n bb i : Int} : am_E ac_X5_word (0, [vR y, vI n, vI bb, vI i, vU, vU, vU, vU], [], aq_h m s F c) (aq_Z m s F (fun a => y ≤ a ∧ a < y + 24 ∧ a ≠ y + 10) c (fun r d => aq_vi r ∧ mo_I y d)) := by
  obtain ⟨⟨hm, hFo, hG5, hG6, hG7, hG8, hG9, hG10, hG11, hG12, hG13, hG14, hG15, hG16, hG17, hG18, hG19, hG20, hG21, hG22, hG23⟩, ⟨tbl, hT1, hTt⟩, ⟨tA, tB, tD, hL1, hL2, hL3, hLt⟩⟩ := hC
  have hfs := mo_fs n
  refine am_E.go (t2 := (1, [vR y, vI n, vI bb, vI i, vU, vU, vU, vU], [vI n], aq_h m s F c)) rfl rfl ?_
  refine am_E.go (t2 := (2, [vR y, vI n, vI bb, vI i, vU, vU, vU, vU], [vI bb, vI n], aq_h m s F c)) rfl rfl ?_
  refine am_E.call rfl rfl rfl (Nat.le_of_ble_eq_true rfl) (qm_isBox) ?_
  rintro r5 h5 ⟨rfl, v_1, rfl, hv_1⟩
  show am_E _ (5, [vR y, vI n, vI bb, vI i, vU, vU, vU, vU], [vI v_1], aq_h m s F c) _
  refine ae_if0 rfl (fun (q_2 : v_1 = 0) => ?_) (fun (q_2 : v_1 ≠ 0) => ?_)
  · refine am_E.go (t2 := (13, [vR y, vI n, vI bb, vI i, vU, vU, vU, vU], [vI (-1)], aq_h m s F c)) rfl rfl ?_
    refine am_E.ret rfl rfl ?_
    exact ⟨_, rfl, (aq_sm0 (c := c) (S := fun a => y ≤ a ∧ a < y + 24 ∧ a ≠ y + 10)), ⟨_, rfl⟩, hI⟩
  · refine am_E.go (t2 := (9, [vR y, vI n, vI bb, vI i, vU, vU, vU, vU], [vI i], aq_h m s F c)) rfl rfl ?_
    refine ae_if0 rfl (fun (q_3 : 0 ≤ i) => ?_) (fun (q_3 : i < 0) => ?_)
    · refine am_E.go (t2 := (15, [vR y, vI n, vI bb, vI i, vU, vU, vU, vU], [vI n], aq_h m s F c)) rfl rfl ?_
      refine am_E.call rfl rfl rfl (Nat.le_of_ble_eq_true rfl) (qm_first) ?_
      rintro r5 h5 ⟨rfl, fr, rfl, hfr⟩
      show am_E _ (18, [vR y, vI n, vI bb, vI i, vU, vU, vU, vU], [vI fr], aq_h m s F c) _
      refine am_E.go (t2 := (20, [vR y, vI n, vI bb, vI i, vI fr, vU, vU, vU], [], aq_h m s F c)) rfl rfl ?_
      refine am_E.go (t2 := (21, [vR y, vI n, vI bb, vI i, vI fr, vU, vU, vU], [vR y], aq_h m s F c)) rfl rfl ?_
      refine aq_gf (v := vR (y + 4)) rfl (by omega) hFo (by decide) rfl ?_
      show am_E _ (24, [vR y, vI n, vI bb, vI i, vI fr, vU, vU, vU], [vR (y + 4)], aq_h m s F c) _
      refine am_E.go (t2 := (26, [vR y, vI n, vI bb, vI i, vI fr, vU, vU, vU], [vI fr, vR (y + 4)], aq_h m s F c)) rfl rfl ?_
      refine am_E.go (t2 := (27, [vR y, vI n, vI bb, vI i, vI fr, vU, vU, vU], [vI bb, vI fr, vR (y + 4)], aq_h m s F c)) rfl rfl ?_
      refine ae_add rfl (am_ri (by omega) (by omega)) ?_
      show am_E _ (28, [vR y, vI n, vI bb, vI i, vI fr, vU, vU, vU], [vI (fr + bb), vR (y + 4)], aq_h m s F c) _
      refine aq_alt (ok := fun k => k == 0) rfl rfl (by omega) hL3 rfl (by omega) (by omega) ?_
      show am_E _ (29, [vR y, vI n, vI bb, vI i, vI fr, vU, vU, vU], [vI (tD (fr + bb))], aq_h m s F c) _
      have f_4 := hLt n bb (by omega) (by omega) (by omega) (by omega)
      rw [← hfr] at f_4
      refine am_E.go (t2 := (31, [vR y, vI n, vI bb, vI i, vI fr, vI (tD (fr + bb)), vU, vU], [], aq_h m s F c)) rfl rfl ?_
      refine am_E.go (t2 := (32, [vR y, vI n, vI bb, vI i, vI fr, vI (tD (fr + bb)), vU, vU], [vI i], aq_h m s F c)) rfl rfl ?_
      refine am_E.go (t2 := (34, [vR y, vI n, vI bb, vI i, vI fr, vI (tD (fr + bb)), vU, vU], [vI (tD (fr + bb)), vI i], aq_h m s F c)) rfl rfl ?_
      refine ae_icmp rfl (fun (q_5 : i < (tD (fr + bb))) => ?_) (fun (q_5 : (tD (fr + bb)) ≤ i) => ?_)
      · refine am_E.go (t2 := (41, [vR y, vI n, vI bb, vI i, vI fr, vI (tD (fr + bb)), vU, vU], [vI bb], aq_h m s F c)) rfl rfl ?_
        refine am_E.go (t2 := (43, [vR y, vI n, vI bb, vI i, vI fr, vI (tD (fr + bb)), vI bb, vU], [], aq_h m s F c)) rfl rfl ?_
        refine am_E.go (t2 := (45, [vR y, vI n, vI bb, vI i, vI fr, vI (tD (fr + bb)), vI bb, vU], [vI (tD (fr + bb))], aq_h m s F c)) rfl rfl ?_
        refine am_E.go (t2 := (46, [vR y, vI n, vI bb, vI i, vI fr, vI (tD (fr + bb)), vI bb, vU], [vI 1, vI (tD (fr + bb))], aq_h m s F c)) rfl rfl ?_
        refine ae_sub rfl (am_ri (by omega) (by omega)) ?_
        show am_E _ (47, [vR y, vI n, vI bb, vI i, vI fr, vI (tD (fr + bb)), vI bb, vU], [vI ((tD (fr + bb)) - 1)], aq_h m s F c) _
        refine am_E.go (t2 := (49, [vR y, vI n, vI bb, vI i, vI fr, vI (tD (fr + bb)), vI bb, vI ((tD (fr + bb)) - 1)], [], aq_h m s F c)) rfl rfl ?_
        exact qk_word_l hI ⟨hm, hFo, hG5, hG6, hG7, hG8, hG9, hG10, hG11, hG12, hG13, hG14, hG15, hG16, hG17, hG18, hG19, hG20, hG21, hG22, hG23⟩ (by omega) (by omega) hfr (by omega) hL1 hL2 (fun b h5 h6 => by have := hLt n b (by omega) (by omega) h5 h6; rw [hfr]; exact ⟨this.1, this.2.1⟩) 126 bb ((tD (fr + bb)) - 1) (by omega) (by omega) (by omega) (by omega)
      · refine am_E.go (t2 := (39, [vR y, vI n, vI bb, vI i, vI fr, vI (tD (fr + bb)), vU, vU], [vI (-4)], aq_h m s F c)) rfl rfl ?_
        refine am_E.ret rfl rfl ?_
        exact ⟨_, rfl, (aq_sm0 (c := c) (S := fun a => y ≤ a ∧ a < y + 24 ∧ a ≠ y + 10)), ⟨_, rfl⟩, hI⟩
    · refine am_E.go (t2 := (13, [vR y, vI n, vI bb, vI i, vU, vU, vU, vU], [vI (-1)], aq_h m s F c)) rfl rfl ?_
      refine am_E.ret rfl rfl ?_
      exact ⟨_, rfl, (aq_sm0 (c := c) (S := fun a => y ≤ a ∧ a < y + 24 ∧ a ≠ y + 10)), ⟨_, rfl⟩, hI⟩

theorem qk_box_2 {m s : Nat} {F : aq_F} {c0 : aq_C} {y : Nat} (hO : mo_0 m F y) {tbl : Int → Int} (hT : mo_T F y tbl) (hI : mo_I y c0) {n w : Int} (hn1 : 1 ≤ n) (hn4 : n ≤ 4) : ∀ (d : Nat) (k : Int) (v5 : am_V) (v6 : am_V) (c : aq_C) (hs : aq_sm (fun a => a = y + 12) c0 c) (h0 : 0 ≤ k) (h1 : k ≤ n) (hd : n - k < (d : Int)), am_E ac_X5_box (54, [vR y, vI n, vL w, vU, vI k, v5, v6], [], aq_h m s F c) (aq_Z m s F (fun a => y ≤ a ∧ a < y + 24 ∧ a ≠ y + 10) c0 (fun r d => aq_vi r ∧ mo_I y d))
  | 0, k, v5, v6, c, hs, h0, h1, hd => by exfalso; omega
  | d + 1, k, v5, v6, c, hs, h0, h1, hd => by
    obtain ⟨hm, hFo, hG5, hG6, hG7, hG8, hG9, hG10, hG11, hG12, hG13, hG14, hG15, hG16, hG17, hG18, hG19, hG20, hG21, hG22, hG23⟩ := hO
    obtain ⟨hT1, hTt⟩ := hT
    refine am_E.go (t2 := (56, [vR y, vI n, vL w, vU, vI k, v5, v6], [vI k], aq_h m s F c)) rfl rfl ?_
    refine am_E.go (t2 := (57, [vR y, vI n, vL w, vU, vI k, v5, v6], [vI n, vI k], aq_h m s F c)) rfl rfl ?_
    refine ae_icmp rfl (fun (q_1 : n ≤ k) => ?_) (fun (q_1 : k < n) => ?_)
    · refine am_E.go (t2 := (164, [vR y, vI n, vL w, vU, vI k, v5, v6], [vR y], aq_h m s F c)) rfl rfl ?_
      refine am_E.go (t2 := (165, [vR y, vI n, vL w, vU, vI k, v5, v6], [vI n, vR y], aq_h m s F c)) rfl rfl ?_
      refine aq_callv (y := 2) (as2 := [vI n]) (rest := []) rfl rfl (by decide) (Nat.le_of_ble_eq_true rfl) rfl rfl (Nat.le_of_ble_eq_true rfl) (by omega) hFo rfl (Nat.le_of_ble_eq_true rfl) (qm_numberOf ⟨hm, hFo, hG5, hG6, hG7, hG8, hG9, hG10, hG11, hG12, hG13, hG14, hG15, hG16, hG17, hG18, hG19, hG20, hG21, hG22, hG23⟩ ⟨hT1, hTt⟩ hn1 hn4) ?_
      rintro r5 h5 ⟨rfl, v_2, rfl, hv_2⟩
      show am_E _ (168, [vR y, vI n, vL w, vU, vI k, v5, v6], [vI v_2], aq_h m s F c) _
      refine am_E.ret rfl rfl ?_
      exact ⟨_, rfl, aq_smi hs (fun a h => by omega), ⟨_, rfl⟩, mo_Is hI hs (mo_ks mo_k0 hs (by omega)) (by omega) (by omega) (by omega) (by omega) (by omega)⟩
    · refine am_E.go (t2 := (61, [vR y, vI n, vL w, vU, vI k, v5, v6], [vL w], aq_h m s F c)) rfl rfl ?_
      refine am_E.go (t2 := (63, [vR y, vI n, vL w, vU, vI k, v5, v6], [vI 8, vL w], aq_h m s F c)) rfl rfl ?_
      refine am_E.go (t2 := (65, [vR y, vI n, vL w, vU, vI k, v5, v6], [vI k, vI 8, vL w], aq_h m s F c)) rfl rfl ?_
      refine ae_mul rfl (am_ri (by omega) (by omega)) ?_
      show am_E _ (66, [vR y, vI n, vL w, vU, vI k, v5, v6], [vI (8 * k), vL w], aq_h m s F c) _
      refine am_E.go (t2 := (67, [vR y, vI n, vL w, vU, vI k, v5, v6], [vL (am_shrL w (8 * k))], aq_h m s F c)) rfl rfl ?_
      refine am_E.go (t2 := (70, [vR y, vI n, vL w, vU, vI k, v5, v6], [vL 15, vL (am_shrL w (8 * k))], aq_h m s F c)) rfl rfl ?_
      have ew1 := am_andl15 (am_shrL w (8 * k))
      refine am_E.go (t2 := (71, [vR y, vI n, vL w, vU, vI k, v5, v6], [vL (am_andl (am_shrL w (8 * k)) 15)], aq_h m s F c)) rfl rfl ?_
      generalize am_andl (am_shrL w (8 * k)) 15 = w1 at ew1 ⊢
      refine am_E.go (t2 := (72, [vR y, vI n, vL w, vU, vI k, v5, v6], [vI (am_w w1)], aq_h m s F c)) rfl rfl ?_
      rw [am_w_id (am_ri (by omega) (by omega))]
      refine am_E.go (t2 := (74, [vR y, vI n, vL w, vU, vI k, vI w1, v6], [], aq_h m s F c)) rfl rfl ?_
      refine am_E.go (t2 := (75, [vR y, vI n, vL w, vU, vI k, vI w1, v6], [vL w], aq_h m s F c)) rfl rfl ?_
      refine am_E.go (t2 := (77, [vR y, vI n, vL w, vU, vI k, vI w1, v6], [vI 8, vL w], aq_h m s F c)) rfl rfl ?_
      refine am_E.go (t2 := (79, [vR y, vI n, vL w, vU, vI k, vI w1, v6], [vI k, vI 8, vL w], aq_h m s F c)) rfl rfl ?_
      refine ae_mul rfl (am_ri (by omega) (by omega)) ?_
      show am_E _ (80, [vR y, vI n, vL w, vU, vI k, vI w1, v6], [vI (8 * k), vL w], aq_h m s F c) _
      refine am_E.go (t2 := (81, [vR y, vI n, vL w, vU, vI k, vI w1, v6], [vI 4, vI (8 * k), vL w], aq_h m s F c)) rfl rfl ?_
      refine ae_add rfl (am_ri (by omega) (by omega)) ?_
      show am_E _ (82, [vR y, vI n, vL w, vU, vI k, vI w1, v6], [vI ((8 * k) + 4), vL w], aq_h m s F c) _
      refine am_E.go (t2 := (83, [vR y, vI n, vL w, vU, vI k, vI w1, v6], [vL (am_shrL w ((8 * k) + 4))], aq_h m s F c)) rfl rfl ?_
      refine am_E.go (t2 := (86, [vR y, vI n, vL w, vU, vI k, vI w1, v6], [vL 15, vL (am_shrL w ((8 * k) + 4))], aq_h m s F c)) rfl rfl ?_
      have ew2 := am_andl15 (am_shrL w ((8 * k) + 4))
      refine am_E.go (t2 := (87, [vR y, vI n, vL w, vU, vI k, vI w1, v6], [vL (am_andl (am_shrL w ((8 * k) + 4)) 15)], aq_h m s F c)) rfl rfl ?_
      generalize am_andl (am_shrL w ((8 * k) + 4)) 15 = w2 at ew2 ⊢
      refine am_E.go (t2 := (88, [vR y, vI n, vL w, vU, vI k, vI w1, v6], [vI (am_w w2)], aq_h m s F c)) rfl rfl ?_
      rw [am_w_id (am_ri (by omega) (by omega))]
      refine am_E.go (t2 := (90, [vR y, vI n, vL w, vU, vI k, vI w1, vI w2], [], aq_h m s F c)) rfl rfl ?_
      refine am_E.go (t2 := (92, [vR y, vI n, vL w, vU, vI k, vI w1, vI w2], [vI w1], aq_h m s F c)) rfl rfl ?_
      refine am_E.go (t2 := (93, [vR y, vI n, vL w, vU, vI k, vI w1, vI w2], [vI 2, vI w1], aq_h m s F c)) rfl rfl ?_
      refine am_E.go (t2 := (94, [vR y, vI n, vL w, vU, vI k, vI w1, vI w2], [vI n, vI 2, vI w1], aq_h m s F c)) rfl rfl ?_
      refine ae_mul rfl (am_ri (by omega) (by omega)) ?_
      show am_E _ (95, [vR y, vI n, vL w, vU, vI k, vI w1, vI w2], [vI (2 * n), vI w1], aq_h m s F c) _
      refine ae_icmp rfl (fun (q_3 : (2 * n) ≤ w1) => ?_) (fun (q_3 : w1 < (2 * n)) => ?_)
      · refine am_E.go (t2 := (138, [vR y, vI n, vL w, vU, vI k, vI w1, vI w2], [vI (-1)], aq_h m s F c)) rfl rfl ?_
        refine am_E.ret rfl rfl ?_
        exact ⟨_, rfl, aq_smi hs (fun a h => by omega), ⟨_, rfl⟩, mo_Is hI hs (mo_ks mo_k0 hs (by omega)) (by omega) (by omega) (by omega) (by omega) (by omega)⟩
      · refine am_E.go (t2 := (100, [vR y, vI n, vL w, vU, vI k, vI w1, vI w2], [vI w2], aq_h m s F c)) rfl rfl ?_
        refine am_E.go (t2 := (101, [vR y, vI n, vL w, vU, vI k, vI w1, vI w2], [vI 2, vI w2], aq_h m s F c)) rfl rfl ?_
        refine am_E.go (t2 := (102, [vR y, vI n, vL w, vU, vI k, vI w1, vI w2], [vI n, vI 2, vI w2], aq_h m s F c)) rfl rfl ?_
        refine ae_mul rfl (am_ri (by omega) (by omega)) ?_
        show am_E _ (103, [vR y, vI n, vL w, vU, vI k, vI w1, vI w2], [vI (2 * n), vI w2], aq_h m s F c) _
        refine ae_icmp rfl (fun (q_4 : (2 * n) ≤ w2) => ?_) (fun (q_4 : w2 < (2 * n)) => ?_)
        · refine am_E.go (t2 := (138, [vR y, vI n, vL w, vU, vI k, vI w1, vI w2], [vI (-1)], aq_h m s F c)) rfl rfl ?_
          refine am_E.ret rfl rfl ?_
          exact ⟨_, rfl, aq_smi hs (fun a h => by omega), ⟨_, rfl⟩, mo_Is hI hs (mo_ks mo_k0 hs (by omega)) (by omega) (by omega) (by omega) (by omega) (by omega)⟩
        · refine am_E.go (t2 := (108, [vR y, vI n, vL w, vU, vI k, vI w1, vI w2], [vI w1], aq_h m s F c)) rfl rfl ?_
          refine am_E.go (t2 := (110, [vR y, vI n, vL w, vU, vI k, vI w1, vI w2], [vI w2, vI w1], aq_h m s F c)) rfl rfl ?_
          refine ae_icmp rfl (fun (q_5 : w1 = w2) => ?_) (fun (q_5 : w1 ≠ w2) => ?_)
          · refine am_E.go (t2 := (138, [vR y, vI n, vL w, vU, vI k, vI w1, vI w2], [vI (-1)], aq_h m s F c)) rfl rfl ?_
            refine am_E.ret rfl rfl ?_
            exact ⟨_, rfl, aq_smi hs (fun a h => by omega), ⟨_, rfl⟩, mo_Is hI hs (mo_ks mo_k0 hs (by omega)) (by omega) (by omega) (by omega) (by omega) (by omega)⟩
          · refine am_E.go (t2 := (114, [vR y, vI n, vL w, vU, vI k, vI w1, vI w2], [vR y], aq_h m s F c)) rfl rfl ?_
            refine aq_gf (v := vR (y + 12)) rfl (by omega) hFo (by decide) rfl ?_
            show am_E _ (117, [vR y, vI n, vL w, vU, vI k, vI w1, vI w2], [vR (y + 12)], aq_h m s F c) _
            refine am_E.go (t2 := (119, [vR y, vI n, vL w, vU, vI k, vI w1, vI w2], [vI w1, vR (y + 12)], aq_h m s F c)) rfl rfl ?_
            refine aq_al (ok := fun k => k == 0) (v := vI (c (y + 12) w1)) rfl rfl (by omega) hG12 rfl (by omega) (by omega) rfl ?_
            show am_E _ (120, [vR y, vI n, vL w, vU, vI k, vI w1, vI w2], [vI (c (y + 12) w1)], aq_h m s F c) _
            refine am_E.go (t2 := (122, [vR y, vI n, vL w, vU, vI k, vI w1, vI w2], [vI (-4), vI (c (y + 12) w1)], aq_h m s F c)) rfl rfl ?_
            refine ae_icmp rfl (fun (q_6 : (c (y + 12) w1) ≠ (-4)) => ?_) (fun (q_6 : (c (y + 12) w1) = (-4)) => ?_)
            · refine am_E.go (t2 := (138, [vR y, vI n, vL w, vU, vI k, vI w1, vI w2], [vI (-1)], aq_h m s F c)) rfl rfl ?_
              refine am_E.ret rfl rfl ?_
              exact ⟨_, rfl, aq_smi hs (fun a h => by omega), ⟨_, rfl⟩, mo_Is hI hs (mo_ks mo_k0 hs (by omega)) (by omega) (by omega) (by omega) (by omega) (by omega)⟩
            · refine am_E.go (t2 := (126, [vR y, vI n, vL w, vU, vI k, vI w1, vI w2], [vR y], aq_h m s F c)) rfl rfl ?_
              refine aq_gf (v := vR (y + 12)) rfl (by omega) hFo (by decide) rfl ?_
              show am_E _ (129, [vR y, vI n, vL w, vU, vI k, vI w1, vI w2], [vR (y + 12)], aq_h m s F c) _
              refine am_E.go (t2 := (131, [vR y, vI n, vL w, vU, vI k, vI w1, vI w2], [vI w2, vR (y + 12)], aq_h m s F c)) rfl rfl ?_
              refine aq_al (ok := fun k => k == 0) (v := vI (c (y + 12) w2)) rfl rfl (by omega) hG12 rfl (by omega) (by omega) rfl ?_
              show am_E _ (132, [vR y, vI n, vL w, vU, vI k, vI w1, vI w2], [vI (c (y + 12) w2)], aq_h m s F c) _
              refine am_E.go (t2 := (134, [vR y, vI n, vL w, vU, vI k, vI w1, vI w2], [vI (-4), vI (c (y + 12) w2)], aq_h m s F c)) rfl rfl ?_
              refine ae_icmp rfl (fun (q_7 : (c (y + 12) w2) = (-4)) => ?_) (fun (q_7 : (c (y + 12) w2) ≠ (-4)) => ?_)
              · refine am_E.go (t2 := (140, [vR y, vI n, vL w, vU, vI k, vI w1, vI w2], [vR y], aq_h m s F c)) rfl rfl ?_
                refine aq_gf (v := vR (y + 12)) rfl (by omega) hFo (by decide) rfl ?_
                show am_E _ (143, [vR y, vI n, vL w, vU, vI k, vI w1, vI w2], [vR (y + 12)], aq_h m s F c) _
                refine am_E.go (t2 := (145, [vR y, vI n, vL w, vU, vI k, vI w1, vI w2], [vI w1, vR (y + 12)], aq_h m s F c)) rfl rfl ?_
                refine am_E.go (t2 := (147, [vR y, vI n, vL w, vU, vI k, vI w1, vI w2], [vI w2, vI w1, vR (y + 12)], aq_h m s F c)) rfl rfl ?_
                refine aq_as (kd := 0) rfl rfl (by omega) hG12 (by omega) (by omega) rfl rfl ?_
                show am_E _ (148, [vR y, vI n, vL w, vU, vI k, vI w1, vI w2], [], aq_h m s F (aq_u c (y + 12) w1 w2)) _
                generalize hdc_8 : aq_u c (y + 12) w1 w2 = c_8
                have sc_8 := aq_smu hs hdc_8 rfl
                refine am_E.go (t2 := (149, [vR y, vI n, vL w, vU, vI k, vI w1, vI w2], [vR y], aq_h m s F c_8)) rfl rfl ?_
                refine aq_gf (v := vR (y + 12)) rfl (by omega) hFo (by decide) rfl ?_
                show am_E _ (152, [vR y, vI n, vL w, vU, vI k, vI w1, vI w2], [vR (y + 12)], aq_h m s F c_8) _
                refine am_E.go (t2 := (154, [vR y, vI n, vL w, vU, vI k, vI w1, vI w2], [vI w2, vR (y + 12)], aq_h m s F c_8)) rfl rfl ?_
                refine am_E.go (t2 := (156, [vR y, vI n, vL w, vU, vI k, vI w1, vI w2], [vI w1, vI w2, vR (y + 12)], aq_h m s F c_8)) rfl rfl ?_
                refine aq_as (kd := 0) rfl rfl (by omega) hG12 (by omega) (by omega) rfl rfl ?_
                show am_E _ (157, [vR y, vI n, vL w, vU, vI k, vI w1, vI w2], [], aq_h m s F (aq_u c_8 (y + 12) w2 w1)) _
                generalize hdc_9 : aq_u c_8 (y + 12) w2 w1 = c_9
                have sc_9 := aq_smu sc_8 hdc_9 rfl
                refine ae_iinc rfl rfl (am_ri (by omega) (by omega)) ?_
                show am_E _ (160, [vR y, vI n, vL w, vU, vI (k + 1), vI w1, vI w2], [], aq_h m s F c_9) _
                refine am_E.go (t2 := (54, [vR y, vI n, vL w, vU, vI (k + 1), vI w1, vI w2], [], aq_h m s F c_9)) rfl rfl ?_
                exact qk_box_2 ⟨hm, hFo, hG5, hG6, hG7, hG8, hG9, hG10, hG11, hG12, hG13, hG14, hG15, hG16, hG17, hG18, hG19, hG20, hG21, hG22, hG23⟩ ⟨hT1, hTt⟩ hI hn1 hn4 d (k + 1) (vI w1) (vI w2) c_9 sc_9 (by omega) (by omega) (by omega)
              · refine am_E.go (t2 := (138, [vR y, vI n, vL w, vU, vI k, vI w1, vI w2], [vI (-1)], aq_h m s F c)) rfl rfl ?_
                refine am_E.ret rfl rfl ?_
                exact ⟨_, rfl, aq_smi hs (fun a h => by omega), ⟨_, rfl⟩, mo_Is hI hs (mo_ks mo_k0 hs (by omega)) (by omega) (by omega) (by omega) (by omega) (by omega)⟩

theorem qk_box_1 {m s : Nat} {F : aq_F} {c0 : aq_C} {y : Nat} (hO : mo_0 m F y) {tbl : Int → Int} (hT : mo_T F y tbl) (hI : mo_I y c0) {n w : Int} (hn1 : 1 ≤ n) (hn4 : n ≤ 4) : ∀ (d : Nat) (k : Int) (v5 : am_V) (v6 : am_V) (c : aq_C) (hs : aq_sm (fun a => a = y + 12) c0 c) (h0 : 0 ≤ k) (h1 : k ≤ 8) (hd : 8 - k < (d : Int)), am_E ac_X5_box (29, [vR y, vI n, vL w, vU, vI k, v5, v6], [], aq_h m s F c) (aq_Z m s F (fun a => y ≤ a ∧ a < y + 24 ∧ a ≠ y + 10) c0 (fun r d => aq_vi r ∧ mo_I y d))
  | 0, k, v5, v6, c, hs, h0, h1, hd => by exfalso; omega
  | d + 1, k, v5, v6, c, hs, h0, h1, hd => by
    obtain ⟨hm, hFo, hG5, hG6, hG7, hG8, hG9, hG10, hG11, hG12, hG13, hG14, hG15, hG16, hG17, hG18, hG19, hG20, hG21, hG22, hG23⟩ := hO
    obtain ⟨hT1, hTt⟩ := hT
    refine am_E.go (t2 := (31, [vR y, vI n, vL w, vU, vI k, v5, v6], [vI k], aq_h m s F c)) rfl rfl ?_
    refine am_E.go (t2 := (33, [vR y, vI n, vL w, vU, vI k, v5, v6], [vI 8, vI k], aq_h m s F c)) rfl rfl ?_
    refine ae_icmp rfl (fun (q_1 : 8 ≤ k) => ?_) (fun (q_1 : k < 8) => ?_)
    · refine am_E.go (t2 := (52, [vR y, vI n, vL w, vU, vI k, v5, v6], [vI 0], aq_h m s F c)) rfl rfl ?_
      refine am_E.go (t2 := (54, [vR y, vI n, vL w, vU, vI 0, v5, v6], [], aq_h m s F c)) rfl rfl ?_
      exact qk_box_2 ⟨hm, hFo, hG5, hG6, hG7, hG8, hG9, hG10, hG11, hG12, hG13, hG14, hG15, hG16, hG17, hG18, hG19, hG20, hG21, hG22, hG23⟩ ⟨hT1, hTt⟩ hI hn1 hn4 6 0 (v5) (v6) c hs (by omega) (by omega) (by omega)
    · refine am_E.go (t2 := (37, [vR y, vI n, vL w, vU, vI k, v5, v6], [vR y], aq_h m s F c)) rfl rfl ?_
      refine aq_gf (v := vR (y + 12)) rfl (by omega) hFo (by decide) rfl ?_
      show am_E _ (40, [vR y, vI n, vL w, vU, vI k, v5, v6], [vR (y + 12)], aq_h m s F c) _
      refine am_E.go (t2 := (42, [vR y, vI n, vL w, vU, vI k, v5, v6], [vI k, vR (y + 12)], aq_h m s F c)) rfl rfl ?_
      refine am_E.go (t2 := (44, [vR y, vI n, vL w, vU, vI k, v5, v6], [vI (-4), vI k, vR (y + 12)], aq_h m s F c)) rfl rfl ?_
      refine aq_as (kd := 0) rfl rfl (by omega) hG12 (by omega) (by omega) rfl rfl ?_
      show am_E _ (45, [vR y, vI n, vL w, vU, vI k, v5, v6], [], aq_h m s F (aq_u c (y + 12) k (-4))) _
      generalize hdc_2 : aq_u c (y + 12) k (-4) = c_2
      have sc_2 := aq_smu hs hdc_2 rfl
      refine ae_iinc rfl rfl (am_ri (by omega) (by omega)) ?_
      show am_E _ (48, [vR y, vI n, vL w, vU, vI (k + 1), v5, v6], [], aq_h m s F c_2) _
      refine am_E.go (t2 := (29, [vR y, vI n, vL w, vU, vI (k + 1), v5, v6], [], aq_h m s F c_2)) rfl rfl ?_
      exact qk_box_1 ⟨hm, hFo, hG5, hG6, hG7, hG8, hG9, hG10, hG11, hG12, hG13, hG14, hG15, hG16, hG17, hG18, hG19, hG20, hG21, hG22, hG23⟩ ⟨hT1, hTt⟩ hI hn1 hn4 d (k + 1) (v5) (v6) c_2 sc_2 (by omega) (by omega) (by omega)

theorem qk_X5_box {m s : Nat} {F : aq_F} {c : aq_C} {y : Nat} (hC : mo_C m F y) (hI : mo_I y c) {n w : Int} : am_E ac_X5_box (0, [vR y, vI n, vL w, vU, vU, vU, vU], [], aq_h m s F c) (aq_Z m s F (fun a => y ≤ a ∧ a < y + 24 ∧ a ≠ y + 10) c (fun r d => aq_vi r ∧ mo_I y d)) := by
  obtain ⟨⟨hm, hFo, hG5, hG6, hG7, hG8, hG9, hG10, hG11, hG12, hG13, hG14, hG15, hG16, hG17, hG18, hG19, hG20, hG21, hG22, hG23⟩, ⟨tbl, hT1, hTt⟩, ⟨tA, tB, tD, hL1, hL2, hL3, hLt⟩⟩ := hC
  refine am_E.go (t2 := (1, [vR y, vI n, vL w, vU, vU, vU, vU], [vI n], aq_h m s F c)) rfl rfl ?_
  refine am_E.call rfl rfl rfl (Nat.le_of_ble_eq_true rfl) (qm_isWide) ?_
  rintro r5 h5 ⟨rfl, v_1, rfl, hv_1⟩
  show am_E _ (4, [vR y, vI n, vL w, vU, vU, vU, vU], [vI v_1], aq_h m s F c) _
  refine ae_if0 rfl (fun (q_2 : v_1 = 0) => ?_) (fun (q_2 : v_1 ≠ 0) => ?_)
  · refine am_E.go (t2 := (25, [vR y, vI n, vL w, vU, vU, vU, vU], [vI (-1)], aq_h m s F c)) rfl rfl ?_
    refine am_E.ret rfl rfl ?_
    exact ⟨_, rfl, aq_smi (aq_sm0 (c := c) (S := (fun a => a = y + 12))) (fun a h => by omega), ⟨_, rfl⟩, mo_Is hI (aq_sm0 (c := c) (S := (fun a => a = y + 12))) (mo_ks mo_k0 (aq_sm0 (c := c) (S := (fun a => a = y + 12))) (by omega)) (by omega) (by omega) (by omega) (by omega) (by omega)⟩
  · refine am_E.go (t2 := (8, [vR y, vI n, vL w, vU, vU, vU, vU], [vI n], aq_h m s F c)) rfl rfl ?_
    refine am_E.go (t2 := (10, [vR y, vI n, vL w, vU, vU, vU, vU], [vI 8, vI n], aq_h m s F c)) rfl rfl ?_
    refine ae_icmp rfl (fun (q_3 : 8 ≤ n) => ?_) (fun (q_3 : n < 8) => ?_)
    · refine am_E.go (t2 := (27, [vR y, vI n, vL w, vU, vU, vU, vU], [vI 0], aq_h m s F c)) rfl rfl ?_
      refine am_E.go (t2 := (29, [vR y, vI n, vL w, vU, vI 0, vU, vU], [], aq_h m s F c)) rfl rfl ?_
      exact qk_box_1 ⟨hm, hFo, hG5, hG6, hG7, hG8, hG9, hG10, hG11, hG12, hG13, hG14, hG15, hG16, hG17, hG18, hG19, hG20, hG21, hG22, hG23⟩ ⟨hT1, hTt⟩ hI (by omega) (by omega) 10 0 (vU) (vU) c (aq_sm0 (c := c) (S := (fun a => a = y + 12))) (by omega) (by omega) (by omega)
    · refine am_E.go (t2 := (14, [vR y, vI n, vL w, vU, vU, vU, vU], [vL w], aq_h m s F c)) rfl rfl ?_
      refine am_E.go (t2 := (16, [vR y, vI n, vL w, vU, vU, vU, vU], [vI 8, vL w], aq_h m s F c)) rfl rfl ?_
      refine am_E.go (t2 := (17, [vR y, vI n, vL w, vU, vU, vU, vU], [vI n, vI 8, vL w], aq_h m s F c)) rfl rfl ?_
      refine ae_mul rfl (am_ri (by omega) (by omega)) ?_
      show am_E _ (18, [vR y, vI n, vL w, vU, vU, vU, vU], [vI (8 * n), vL w], aq_h m s F c) _
      refine am_E.go (t2 := (19, [vR y, vI n, vL w, vU, vU, vU, vU], [vL (am_shrL w (8 * n))], aq_h m s F c)) rfl rfl ?_
      refine am_E.go (t2 := (20, [vR y, vI n, vL w, vU, vU, vU, vU], [vL 0, vL (am_shrL w (8 * n))], aq_h m s F c)) rfl rfl ?_
      have ez_4 := am_lcf (am_shrL w (8 * n)) 0
      refine am_E.go (t2 := (21, [vR y, vI n, vL w, vU, vU, vU, vU], [vI (if (am_shrL w (8 * n)) < 0 then -1 else if (am_shrL w (8 * n)) = 0 then 0 else 1)], aq_h m s F c)) rfl rfl ?_
      generalize (if (am_shrL w (8 * n)) < 0 then -1 else if (am_shrL w (8 * n)) = 0 then 0 else 1) = z_4 at ez_4 ⊢
      refine ae_if0 rfl (fun (q_5 : z_4 = 0) => ?_) (fun (q_5 : z_4 ≠ 0) => ?_)
      · refine am_E.go (t2 := (27, [vR y, vI n, vL w, vU, vU, vU, vU], [vI 0], aq_h m s F c)) rfl rfl ?_
        refine am_E.go (t2 := (29, [vR y, vI n, vL w, vU, vI 0, vU, vU], [], aq_h m s F c)) rfl rfl ?_
        exact qk_box_1 ⟨hm, hFo, hG5, hG6, hG7, hG8, hG9, hG10, hG11, hG12, hG13, hG14, hG15, hG16, hG17, hG18, hG19, hG20, hG21, hG22, hG23⟩ ⟨hT1, hTt⟩ hI (by omega) (by omega) 10 0 (vU) (vU) c (aq_sm0 (c := c) (S := (fun a => a = y + 12))) (by omega) (by omega) (by omega)
      · refine am_E.go (t2 := (25, [vR y, vI n, vL w, vU, vU, vU, vU], [vI (-1)], aq_h m s F c)) rfl rfl ?_
        refine am_E.ret rfl rfl ?_
        exact ⟨_, rfl, aq_smi (aq_sm0 (c := c) (S := (fun a => a = y + 12))) (fun a h => by omega), ⟨_, rfl⟩, mo_Is hI (aq_sm0 (c := c) (S := (fun a => a = y + 12))) (mo_ks mo_k0 (aq_sm0 (c := c) (S := (fun a => a = y + 12))) (by omega)) (by omega) (by omega) (by omega) (by omega) (by omega)⟩
theorem qk_X5_clear {m s : Nat} {F : aq_F} {c : aq_C} {y : Nat} (hC : mo_C m F y) (hI : mo_I y c) {t n : Int} : am_E ac_X5_clear (0, [vR y, vI t, vI n, vU, vU], [], aq_h m s F c) (aq_Z m s F (fun a => y ≤ a ∧ a < y + 24 ∧ a ≠ y + 10) c (fun r d => aq_vi r ∧ mo_I y d)) := by
  obtain ⟨⟨hm, hFo, hG5, hG6, hG7, hG8, hG9, hG10, hG11, hG12, hG13, hG14, hG15, hG16, hG17, hG18, hG19, hG20, hG21, hG22, hG23⟩, ⟨tbl, hT1, hTt⟩, ⟨tA, tB, tD, hL1, hL2, hL3, hLt⟩⟩ := hC
  refine am_E.go (t2 := (1, [vR y, vI t, vI n, vU, vU], [vI t], aq_h m s F c)) rfl rfl ?_
  refine am_E.call rfl rfl rfl (Nat.le_of_ble_eq_true rfl) (qm_isSum) ?_
  rintro r5 h5 ⟨rfl, v_1, rfl, hv_1⟩
  show am_E _ (4, [vR y, vI t, vI n, vU, vU], [vI v_1], aq_h m s F c) _
  refine ae_if0 rfl (fun (q_2 : v_1 = 0) => ?_) (fun (q_2 : v_1 ≠ 0) => ?_)
  · refine am_E.go (t2 := (15, [vR y, vI t, vI n, vU, vU], [vI (-1)], aq_h m s F c)) rfl rfl ?_
    refine am_E.ret rfl rfl ?_
    exact ⟨_, rfl, (aq_sm0 (c := c) (S := fun a => y ≤ a ∧ a < y + 24 ∧ a ≠ y + 10)), ⟨_, rfl⟩, hI⟩
  · refine am_E.go (t2 := (8, [vR y, vI t, vI n, vU, vU], [vI n], aq_h m s F c)) rfl rfl ?_
    refine am_E.call rfl rfl rfl (Nat.le_of_ble_eq_true rfl) (qm_isWide) ?_
    rintro r5 h5 ⟨rfl, v_3, rfl, hv_3⟩
    show am_E _ (11, [vR y, vI t, vI n, vU, vU], [vI v_3], aq_h m s F c) _
    refine ae_if0 rfl (fun (q_4 : v_3 ≠ 0) => ?_) (fun (q_4 : v_3 = 0) => ?_)
    · refine am_E.go (t2 := (17, [vR y, vI t, vI n, vU, vU], [vR y], aq_h m s F c)) rfl rfl ?_
      refine aq_gf (v := vR (y + 6)) rfl (by omega) hFo (by decide) rfl ?_
      show am_E _ (20, [vR y, vI t, vI n, vU, vU], [vR (y + 6)], aq_h m s F c) _
      refine am_E.go (t2 := (21, [vR y, vI t, vI n, vU, vU], [vI t, vR (y + 6)], aq_h m s F c)) rfl rfl ?_
      refine aq_al (ok := fun k => k == 0) (v := vI (c (y + 6) t)) rfl rfl (by omega) hG6 rfl (by omega) (by omega) rfl ?_
      show am_E _ (22, [vR y, vI t, vI n, vU, vU], [vI (c (y + 6) t)], aq_h m s F c) _
      refine am_E.go (t2 := (23, [vR y, vI t, vI n, vI (c (y + 6) t), vU], [], aq_h m s F c)) rfl rfl ?_
      refine am_E.go (t2 := (24, [vR y, vI t, vI n, vI (c (y + 6) t), vU], [vR y], aq_h m s F c)) rfl rfl ?_
      refine am_E.go (t2 := (25, [vR y, vI t, vI n, vI (c (y + 6) t), vU], [vI 0, vR y], aq_h m s F c)) rfl rfl ?_
      refine aq_pf rfl (by omega) hFo (by decide) rfl rfl ?_
      show am_E _ (28, [vR y, vI t, vI n, vI (c (y + 6) t), vU], [], aq_h m s F (aq_u c y 17 0)) _
      generalize hdc_5 : aq_u c y 17 0 = c_5
      have sc_5 := aq_smu (aq_sm0 (c := c) (S := fun a => y ≤ a ∧ a < y + 24 ∧ a ≠ y + 10)) hdc_5 (by omega)
      have hI_z : mo_I y c_5 := mo_Iq (S := fun a => a = y) hI (aq_smu aq_sm0 hdc_5 rfl) (mo_qu mo_q0 hdc_5 (Or.inr (by decide))) (by omega) (by omega) (by omega) (by omega) (by omega)
      have e_z : c_5 y 17 = 0 := by rw [← hdc_5, aq_us]
      have hR_z : mo_R y (bx_K n) c_5 := ⟨by omega, by omega, fun j h5 h6 => absurd h6 (by omega)⟩
      refine am_E.go (t2 := (29, [vR y, vI t, vI n, vI (c (y + 6) t), vU], [vR y], aq_h m s F c_5)) rfl rfl ?_
      refine am_E.go (t2 := (30, [vR y, vI t, vI n, vI (c (y + 6) t), vU], [vI t, vR y], aq_h m s F c_5)) rfl rfl ?_
      refine am_E.go (t2 := (31, [vR y, vI t, vI n, vI (c (y + 6) t), vU], [vI n, vI t, vR y], aq_h m s F c_5)) rfl rfl ?_
      refine aq_callv (y := 3) (as2 := [vI t, vI n]) (rest := []) rfl rfl (by decide) (Nat.le_of_ble_eq_true rfl) rfl rfl (Nat.le_of_ble_eq_true rfl) (by omega) hFo rfl (Nat.le_of_ble_eq_true rfl) (qm_store ⟨hm, hFo, hG5, hG6, hG7, hG8, hG9, hG10, hG11, hG12, hG13, hG14, hG15, hG16, hG17, hG18, hG19, hG20, hG21, hG22, hG23⟩ (by omega) (by omega) (by omega) (by omega) hI_z hR_z) ?_
      rintro r5 h5 ⟨c_b, rfl, s_b, rfl, hI_b⟩
      show am_E _ (34, [vR y, vI t, vI n, vI (c (y + 6) t), vU], [vI (c_5 y 17)], aq_h m s F c_b) _
      refine am_E.go (t2 := (36, [vR y, vI t, vI n, vI (c (y + 6) t), vI (c_5 y 17)], [], aq_h m s F c_b)) rfl rfl ?_
      refine am_E.go (t2 := (37, [vR y, vI t, vI n, vI (c (y + 6) t), vI (c_5 y 17)], [vI (c (y + 6) t)], aq_h m s F c_b)) rfl rfl ?_
      refine am_E.ret rfl rfl ?_
      exact ⟨_, rfl, (aq_smt sc_5 (aq_smi s_b (fun a h => by omega))), ⟨_, rfl⟩, hI_b⟩
    · refine am_E.go (t2 := (15, [vR y, vI t, vI n, vU, vU], [vI (-1)], aq_h m s F c)) rfl rfl ?_
      refine am_E.ret rfl rfl ?_
      exact ⟨_, rfl, (aq_sm0 (c := c) (S := fun a => y ≤ a ∧ a < y + 24 ∧ a ≠ y + 10)), ⟨_, rfl⟩, hI⟩

theorem qk_X5_add {m s : Nat} {F : aq_F} {c : aq_C} {y : Nat} (hC : mo_C m F y) (hI : mo_I y c) {t b p f : Int} : am_E ac_X5_add (0, [vR y, vI t, vI b, vI p, vL f, vU], [], aq_h m s F c) (aq_Z m s F (fun a => y ≤ a ∧ a < y + 24 ∧ a ≠ y + 10) c (fun r d => aq_vi r ∧ mo_I y d)) := by
  obtain ⟨⟨hm, hFo, hG5, hG6, hG7, hG8, hG9, hG10, hG11, hG12, hG13, hG14, hG15, hG16, hG17, hG18, hG19, hG20, hG21, hG22, hG23⟩, ⟨tbl, hT1, hTt⟩, ⟨tA, tB, tD, hL1, hL2, hL3, hLt⟩⟩ := hC
  refine am_E.go (t2 := (1, [vR y, vI t, vI b, vI p, vL f, vU], [vI t], aq_h m s F c)) rfl rfl ?_
  refine am_E.call rfl rfl rfl (Nat.le_of_ble_eq_true rfl) (qm_isSum) ?_
  rintro r5 h5 ⟨rfl, v_1, rfl, hv_1⟩
  show am_E _ (4, [vR y, vI t, vI b, vI p, vL f, vU], [vI v_1], aq_h m s F c) _
  refine ae_if0 rfl (fun (q_2 : v_1 = 0) => ?_) (fun (q_2 : v_1 ≠ 0) => ?_)
  · refine am_E.go (t2 := (47, [vR y, vI t, vI b, vI p, vL f, vU], [vI (-1)], aq_h m s F c)) rfl rfl ?_
    refine am_E.ret rfl rfl ?_
    exact ⟨_, rfl, (aq_sm0 (c := c) (S := fun a => y ≤ a ∧ a < y + 24 ∧ a ≠ y + 10)), ⟨_, rfl⟩, hI⟩
  · refine am_E.go (t2 := (8, [vR y, vI t, vI b, vI p, vL f, vU], [vR y], aq_h m s F c)) rfl rfl ?_
    refine aq_gf (v := vR (y + 5)) rfl (by omega) hFo (by decide) rfl ?_
    show am_E _ (11, [vR y, vI t, vI b, vI p, vL f, vU], [vR (y + 5)], aq_h m s F c) _
    refine am_E.go (t2 := (12, [vR y, vI t, vI b, vI p, vL f, vU], [vI t, vR (y + 5)], aq_h m s F c)) rfl rfl ?_
    refine aq_al (ok := fun k => k == 0) (v := vI (c (y + 5) t)) rfl rfl (by omega) hG5 rfl (by omega) (by omega) rfl ?_
    show am_E _ (13, [vR y, vI t, vI b, vI p, vL f, vU], [vI (c (y + 5) t)], aq_h m s F c) _
    obtain ⟨hu1t, hu2t, hu3t, hu4t, hu5t⟩ := hI.2 t (by omega) (by omega)
    refine am_E.go (t2 := (14, [vR y, vI t, vI b, vI p, vL f, vU], [vI b, vI (c (y + 5) t)], aq_h m s F c)) rfl rfl ?_
    refine am_E.call rfl rfl rfl (Nat.le_of_ble_eq_true rfl) (qm_isBox) ?_
    rintro r5 h5 ⟨rfl, v_4, rfl, hv_4⟩
    show am_E _ (17, [vR y, vI t, vI b, vI p, vL f, vU], [vI v_4], aq_h m s F c) _
    refine ae_if0 rfl (fun (q_5 : v_4 = 0) => ?_) (fun (q_5 : v_4 ≠ 0) => ?_)
    · refine am_E.go (t2 := (47, [vR y, vI t, vI b, vI p, vL f, vU], [vI (-1)], aq_h m s F c)) rfl rfl ?_
      refine am_E.ret rfl rfl ?_
      exact ⟨_, rfl, (aq_sm0 (c := c) (S := fun a => y ≤ a ∧ a < y + 24 ∧ a ≠ y + 10)), ⟨_, rfl⟩, hI⟩
    · refine am_E.go (t2 := (21, [vR y, vI t, vI b, vI p, vL f, vU], [vI p], aq_h m s F c)) rfl rfl ?_
      refine am_E.go (t2 := (22, [vR y, vI t, vI b, vI p, vL f, vU], [vL p], aq_h m s F c)) rfl rfl ?_
      refine am_E.go (t2 := (23, [vR y, vI t, vI b, vI p, vL f, vU], [vL 0, vL p], aq_h m s F c)) rfl rfl ?_
      refine am_E.go (t2 := (26, [vR y, vI t, vI b, vI p, vL f, vU], [vL 20, vL 0, vL p], aq_h m s F c)) rfl rfl ?_
      refine am_E.call rfl rfl rfl (Nat.le_of_ble_eq_true rfl) (qm_in) ?_
      rintro r5 h5 ⟨rfl, v_6, rfl, hv_6⟩
      show am_E _ (29, [vR y, vI t, vI b, vI p, vL f, vU], [vI v_6], aq_h m s F c) _
      refine ae_if0 rfl (fun (q_7 : v_6 = 0) => ?_) (fun (q_7 : v_6 ≠ 0) => ?_)
      · refine am_E.go (t2 := (47, [vR y, vI t, vI b, vI p, vL f, vU], [vI (-1)], aq_h m s F c)) rfl rfl ?_
        refine am_E.ret rfl rfl ?_
        exact ⟨_, rfl, (aq_sm0 (c := c) (S := fun a => y ≤ a ∧ a < y + 24 ∧ a ≠ y + 10)), ⟨_, rfl⟩, hI⟩
      · refine am_E.go (t2 := (34, [vR y, vI t, vI b, vI p, vL f, vU], [vL f], aq_h m s F c)) rfl rfl ?_
        refine am_E.go (t2 := (37, [vR y, vI t, vI b, vI p, vL f, vU], [vL (-1000000), vL f], aq_h m s F c)) rfl rfl ?_
        refine am_E.go (t2 := (40, [vR y, vI t, vI b, vI p, vL f, vU], [vL 1000000, vL (-1000000), vL f], aq_h m s F c)) rfl rfl ?_
        refine am_E.call rfl rfl rfl (Nat.le_of_ble_eq_true rfl) (qm_in) ?_
        rintro r5 h5 ⟨rfl, v_8, rfl, hv_8⟩
        show am_E _ (43, [vR y, vI t, vI b, vI p, vL f, vU], [vI v_8], aq_h m s F c) _
        refine ae_if0 rfl (fun (q_9 : v_8 ≠ 0) => ?_) (fun (q_9 : v_8 = 0) => ?_)
        · refine am_E.go (t2 := (49, [vR y, vI t, vI b, vI p, vL f, vU], [vR y], aq_h m s F c)) rfl rfl ?_
          refine am_E.go (t2 := (50, [vR y, vI t, vI b, vI p, vL f, vU], [vI t, vR y], aq_h m s F c)) rfl rfl ?_
          refine aq_callv (y := 2) (as2 := [vI t]) (rest := []) rfl rfl (by decide) (Nat.le_of_ble_eq_true rfl) rfl rfl (Nat.le_of_ble_eq_true rfl) (by omega) hFo rfl (Nat.le_of_ble_eq_true rfl) (qm_load ⟨hm, hFo, hG5, hG6, hG7, hG8, hG9, hG10, hG11, hG12, hG13, hG14, hG15, hG16, hG17, hG18, hG19, hG20, hG21, hG22, hG23⟩ (by omega) (by omega) (hI.2 _ (by omega) (by omega))) ?_
          rintro r5 h5 ⟨c_l, rfl, s_l, rfl, q_l, R_l⟩
          show am_E _ (53, [vR y, vI t, vI b, vI p, vL f, vU], [], aq_h m s F c_l) _
          refine am_E.go (t2 := (54, [vR y, vI t, vI b, vI p, vL f, vU], [vR y], aq_h m s F c_l)) rfl rfl ?_
          refine am_E.go (t2 := (55, [vR y, vI t, vI b, vI p, vL f, vU], [vI b, vR y], aq_h m s F c_l)) rfl rfl ?_
          refine am_E.go (t2 := (56, [vR y, vI t, vI b, vI p, vL f, vU], [vI p, vI b, vR y], aq_h m s F c_l)) rfl rfl ?_
          refine am_E.go (t2 := (58, [vR y, vI t, vI b, vI p, vL f, vU], [vL f, vI p, vI b, vR y], aq_h m s F c_l)) rfl rfl ?_
          refine aq_callv (y := 4) (as2 := [vI b, vI p, vL f]) (rest := []) rfl rfl (by decide) (Nat.le_of_ble_eq_true rfl) rfl rfl (Nat.le_of_ble_eq_true rfl) (by omega) hFo rfl (Nat.le_of_ble_eq_true rfl) (qm_comes ⟨hm, hFo, hG5, hG6, hG7, hG8, hG9, hG10, hG11, hG12, hG13, hG14, hG15, hG16, hG17, hG18, hG19, hG20, hG21, hG22, hG23⟩ (K := bx_K (c (y + 5) t)) (by omega) (by omega) R_l) ?_
          rintro r5 h5 ⟨c_k, rfl, s_k, v_k, rfl, hv_k, q_k, R_k⟩
          show am_E _ (61, [vR y, vI t, vI b, vI p, vL f, vU], [vI v_k], aq_h m s F c_k) _
          refine ae_if0 rfl (fun (q_10 : v_k = 0) => ?_) (fun (q_10 : v_k ≠ 0) => ?_)
          · refine am_E.go (t2 := (80, [vR y, vI t, vI b, vI p, vL f, vU], [vI (-5)], aq_h m s F c_k)) rfl rfl ?_
            refine am_E.ret rfl rfl ?_
            exact ⟨_, rfl, (aq_smt (aq_smt (aq_sm0 (c := c) (S := fun a => y ≤ a ∧ a < y + 24 ∧ a ≠ y + 10)) (aq_smi s_l (fun a h => by omega))) (aq_smi s_k (fun a h => by omega))), ⟨_, rfl⟩, mo_Iw hI (aq_smt (aq_smi s_l (fun a h => mo_S3 h)) (aq_smi s_k (fun a h => mo_S3 h))) (mo_qt q_l q_k)⟩
          · refine am_E.go (t2 := (65, [vR y, vI t, vI b, vI p, vL f, vU], [vR y], aq_h m s F c_k)) rfl rfl ?_
            refine am_E.go (t2 := (66, [vR y, vI t, vI b, vI p, vL f, vU], [vI t, vR y], aq_h m s F c_k)) rfl rfl ?_
            refine am_E.go (t2 := (67, [vR y, vI t, vI b, vI p, vL f, vU], [vR y, vI t, vR y], aq_h m s F c_k)) rfl rfl ?_
            refine aq_gf (v := vR (y + 5)) rfl (by omega) hFo (by decide) rfl ?_
            show am_E _ (70, [vR y, vI t, vI b, vI p, vL f, vU], [vR (y + 5), vI t, vR y], aq_h m s F c_k) _
            refine am_E.go (t2 := (71, [vR y, vI t, vI b, vI p, vL f, vU], [vI t, vR (y + 5), vI t, vR y], aq_h m s F c_k)) rfl rfl ?_
            refine aq_al (ok := fun k => k == 0) (v := vI (c_k (y + 5) t)) rfl rfl (by omega) hG5 rfl (by omega) (by omega) rfl ?_
            show am_E _ (72, [vR y, vI t, vI b, vI p, vL f, vU], [vI (c_k (y + 5) t), vI t, vR y], aq_h m s F c_k) _
            have e_5 : c_k (y + 5) t = c (y + 5) t := by rw [s_k _ (by omega), s_l _ (by omega)]
            have hI_k := mo_Iw hI (aq_smt (aq_smi s_l (fun a h => mo_S3 h)) (aq_smi s_k (fun a h => mo_S3 h))) (mo_qt q_l q_k)
            refine aq_callv (y := 3) (as2 := [vI t, vI (c_k (y + 5) t)]) (rest := []) rfl rfl (by decide) (Nat.le_of_ble_eq_true rfl) rfl rfl (Nat.le_of_ble_eq_true rfl) (by omega) hFo rfl (Nat.le_of_ble_eq_true rfl) (qm_store ⟨hm, hFo, hG5, hG6, hG7, hG8, hG9, hG10, hG11, hG12, hG13, hG14, hG15, hG16, hG17, hG18, hG19, hG20, hG21, hG22, hG23⟩ (by omega) (by omega) (by omega) (by omega) hI_k (by rw [e_5]; exact R_k (by omega))) ?_
            rintro r5 h5 ⟨c_b, rfl, s_b, rfl, hI_b⟩
            show am_E _ (75, [vR y, vI t, vI b, vI p, vL f, vU], [vI (c_k y 17)], aq_h m s F c_b) _
            refine am_E.go (t2 := (80, [vR y, vI t, vI b, vI p, vL f, vU], [vI (c_k y 17)], aq_h m s F c_b)) rfl rfl ?_
            refine am_E.ret rfl rfl ?_
            exact ⟨_, rfl, (aq_smt (aq_smt (aq_smt (aq_sm0 (c := c) (S := fun a => y ≤ a ∧ a < y + 24 ∧ a ≠ y + 10)) (aq_smi s_l (fun a h => by omega))) (aq_smi s_k (fun a h => by omega))) (aq_smi s_b (fun a h => by omega))), ⟨_, rfl⟩, hI_b⟩
        · refine am_E.go (t2 := (47, [vR y, vI t, vI b, vI p, vL f, vU], [vI (-1)], aq_h m s F c)) rfl rfl ?_
          refine am_E.ret rfl rfl ?_
          exact ⟨_, rfl, (aq_sm0 (c := c) (S := fun a => y ≤ a ∧ a < y + 24 ∧ a ≠ y + 10)), ⟨_, rfl⟩, hI⟩

theorem qk_X5_sum {m s : Nat} {F : aq_F} {c : aq_C} {y : Nat} (hC : mo_C m F y) (hI : mo_I y c) {t w : Int} : am_E ac_X5_sum (0, [vR y, vI t, vI w], [], aq_h m s F c) (aq_Z m s F (fun a => y ≤ a ∧ a < y + 24 ∧ a ≠ y + 10) c (fun r d => aq_vi r ∧ mo_I y d)) := by
  obtain ⟨⟨hm, hFo, hG5, hG6, hG7, hG8, hG9, hG10, hG11, hG12, hG13, hG14, hG15, hG16, hG17, hG18, hG19, hG20, hG21, hG22, hG23⟩, ⟨tbl, hT1, hTt⟩, ⟨tA, tB, tD, hL1, hL2, hL3, hLt⟩⟩ := hC
  refine am_E.go (t2 := (1, [vR y, vI t, vI w], [vI t], aq_h m s F c)) rfl rfl ?_
  refine am_E.call rfl rfl rfl (Nat.le_of_ble_eq_true rfl) (qm_isSum) ?_
  rintro r5 h5 ⟨rfl, v_1, rfl, hv_1⟩
  show am_E _ (4, [vR y, vI t, vI w], [vI v_1], aq_h m s F c) _
  refine ae_if0 rfl (fun (q_2 : v_1 = 0) => ?_) (fun (q_2 : v_1 ≠ 0) => ?_)
  · refine am_E.go (t2 := (18, [vR y, vI t, vI w], [vI (-1)], aq_h m s F c)) rfl rfl ?_
    refine am_E.go (t2 := (40, [vR y, vI t, vI w], [vI (-1)], aq_h m s F c)) rfl rfl ?_
    refine am_E.ret rfl rfl ?_
    exact ⟨_, rfl, (aq_sm0 (c := c) (S := fun a => y ≤ a ∧ a < y + 24 ∧ a ≠ y + 10)), ⟨_, rfl⟩, hI⟩
  · refine am_E.go (t2 := (8, [vR y, vI t, vI w], [vI w], aq_h m s F c)) rfl rfl ?_
    refine am_E.go (t2 := (9, [vR y, vI t, vI w], [vL w], aq_h m s F c)) rfl rfl ?_
    refine am_E.go (t2 := (10, [vR y, vI t, vI w], [vL 0, vL w], aq_h m s F c)) rfl rfl ?_
    refine am_E.go (t2 := (11, [vR y, vI t, vI w], [vL 1, vL 0, vL w], aq_h m s F c)) rfl rfl ?_
    refine am_E.call rfl rfl rfl (Nat.le_of_ble_eq_true rfl) (qm_in) ?_
    rintro r5 h5 ⟨rfl, v_3, rfl, hv_3⟩
    show am_E _ (14, [vR y, vI t, vI w], [vI v_3], aq_h m s F c) _
    refine ae_if0 rfl (fun (q_4 : v_3 ≠ 0) => ?_) (fun (q_4 : v_3 = 0) => ?_)
    · refine am_E.go (t2 := (22, [vR y, vI t, vI w], [vI w], aq_h m s F c)) rfl rfl ?_
      refine ae_if0 rfl (fun (q_5 : w ≠ 0) => ?_) (fun (q_5 : w = 0) => ?_)
      · refine am_E.go (t2 := (35, [vR y, vI t, vI w], [vR y], aq_h m s F c)) rfl rfl ?_
        refine aq_gf (v := vR (y + 6)) rfl (by omega) hFo (by decide) rfl ?_
        show am_E _ (38, [vR y, vI t, vI w], [vR (y + 6)], aq_h m s F c) _
        refine am_E.go (t2 := (39, [vR y, vI t, vI w], [vI t, vR (y + 6)], aq_h m s F c)) rfl rfl ?_
        refine aq_al (ok := fun k => k == 0) (v := vI (c (y + 6) t)) rfl rfl (by omega) hG6 rfl (by omega) (by omega) rfl ?_
        show am_E _ (40, [vR y, vI t, vI w], [vI (c (y + 6) t)], aq_h m s F c) _
        obtain ⟨hu1t, hu2t, hu3t, hu4t, hu5t⟩ := hI.2 t (by omega) (by omega)
        refine am_E.ret rfl rfl ?_
        exact ⟨_, rfl, (aq_sm0 (c := c) (S := fun a => y ≤ a ∧ a < y + 24 ∧ a ≠ y + 10)), ⟨_, rfl⟩, hI⟩
      · refine am_E.go (t2 := (26, [vR y, vI t, vI w], [vR y], aq_h m s F c)) rfl rfl ?_
        refine aq_gf (v := vR (y + 5)) rfl (by omega) hFo (by decide) rfl ?_
        show am_E _ (29, [vR y, vI t, vI w], [vR (y + 5)], aq_h m s F c) _
        refine am_E.go (t2 := (30, [vR y, vI t, vI w], [vI t, vR (y + 5)], aq_h m s F c)) rfl rfl ?_
        refine aq_al (ok := fun k => k == 0) (v := vI (c (y + 5) t)) rfl rfl (by omega) hG5 rfl (by omega) (by omega) rfl ?_
        show am_E _ (31, [vR y, vI t, vI w], [vI (c (y + 5) t)], aq_h m s F c) _
        refine am_E.go (t2 := (40, [vR y, vI t, vI w], [vI (c (y + 5) t)], aq_h m s F c)) rfl rfl ?_
        refine am_E.ret rfl rfl ?_
        exact ⟨_, rfl, (aq_sm0 (c := c) (S := fun a => y ≤ a ∧ a < y + 24 ∧ a ≠ y + 10)), ⟨_, rfl⟩, hI⟩
    · refine am_E.go (t2 := (18, [vR y, vI t, vI w], [vI (-1)], aq_h m s F c)) rfl rfl ?_
      refine am_E.go (t2 := (40, [vR y, vI t, vI w], [vI (-1)], aq_h m s F c)) rfl rfl ?_
      refine am_E.ret rfl rfl ?_
      exact ⟨_, rfl, (aq_sm0 (c := c) (S := fun a => y ≤ a ∧ a < y + 24 ∧ a ≠ y + 10)), ⟨_, rfl⟩, hI⟩

theorem qk_X5_term {m s : Nat} {F : aq_F} {c : aq_C} {y : Nat} (hC : mo_C m F y) (hI : mo_I y c) {t i w : Int} : am_E ac_X5_term (0, [vR y, vI t, vI i, vI w, vU], [], aq_h m s F c) (aq_Z m s F (fun a => y ≤ a ∧ a < y + 24 ∧ a ≠ y + 10) c (fun r d => aq_vl r ∧ mo_I y d)) := by
  obtain ⟨⟨hm, hFo, hG5, hG6, hG7, hG8, hG9, hG10, hG11, hG12, hG13, hG14, hG15, hG16, hG17, hG18, hG19, hG20, hG21, hG22, hG23⟩, ⟨tbl, hT1, hTt⟩, ⟨tA, tB, tD, hL1, hL2, hL3, hLt⟩⟩ := hC
  refine am_E.go (t2 := (1, [vR y, vI t, vI i, vI w, vU], [vI t], aq_h m s F c)) rfl rfl ?_
  refine am_E.call rfl rfl rfl (Nat.le_of_ble_eq_true rfl) (qm_isSum) ?_
  rintro r5 h5 ⟨rfl, v_1, rfl, hv_1⟩
  show am_E _ (4, [vR y, vI t, vI i, vI w, vU], [vI v_1], aq_h m s F c) _
  refine ae_if0 rfl (fun (q_2 : v_1 = 0) => ?_) (fun (q_2 : v_1 ≠ 0) => ?_)
  · refine am_E.go (t2 := (26, [vR y, vI t, vI i, vI w, vU], [vL (-1000000000000001)], aq_h m s F c)) rfl rfl ?_
    refine am_E.ret rfl rfl ?_
    exact ⟨_, rfl, (aq_sm0 (c := c) (S := fun a => y ≤ a ∧ a < y + 24 ∧ a ≠ y + 10)), ⟨_, rfl⟩, hI⟩
  · refine am_E.go (t2 := (8, [vR y, vI t, vI i, vI w, vU], [vI i], aq_h m s F c)) rfl rfl ?_
    refine ae_if0 rfl (fun (q_3 : i < 0) => ?_) (fun (q_3 : 0 ≤ i) => ?_)
    · refine am_E.go (t2 := (26, [vR y, vI t, vI i, vI w, vU], [vL (-1000000000000001)], aq_h m s F c)) rfl rfl ?_
      refine am_E.ret rfl rfl ?_
      exact ⟨_, rfl, (aq_sm0 (c := c) (S := fun a => y ≤ a ∧ a < y + 24 ∧ a ≠ y + 10)), ⟨_, rfl⟩, hI⟩
    · refine am_E.go (t2 := (12, [vR y, vI t, vI i, vI w, vU], [vI w], aq_h m s F c)) rfl rfl ?_
      refine am_E.go (t2 := (13, [vR y, vI t, vI i, vI w, vU], [vL w], aq_h m s F c)) rfl rfl ?_
      refine am_E.go (t2 := (14, [vR y, vI t, vI i, vI w, vU], [vL 0, vL w], aq_h m s F c)) rfl rfl ?_
      refine am_E.go (t2 := (17, [vR y, vI t, vI i, vI w, vU], [vL 2, vL 0, vL w], aq_h m s F c)) rfl rfl ?_
      refine am_E.call rfl rfl rfl (Nat.le_of_ble_eq_true rfl) (qm_in) ?_
      rintro r5 h5 ⟨rfl, v_4, rfl, hv_4⟩
      show am_E _ (20, [vR y, vI t, vI i, vI w, vU], [vI v_4], aq_h m s F c) _
      refine ae_if0 rfl (fun (q_5 : v_4 ≠ 0) => ?_) (fun (q_5 : v_4 = 0) => ?_)
      · refine am_E.go (t2 := (29, [vR y, vI t, vI i, vI w, vU], [vI 40], aq_h m s F c)) rfl rfl ?_
        refine am_E.go (t2 := (30, [vR y, vI t, vI i, vI w, vU], [vI t, vI 40], aq_h m s F c)) rfl rfl ?_
        refine ae_mul rfl (am_ri (by omega) (by omega)) ?_
        show am_E _ (31, [vR y, vI t, vI i, vI w, vU], [vI (40 * t)], aq_h m s F c) _
        refine am_E.go (t2 := (32, [vR y, vI t, vI i, vI w, vU], [vI i, vI (40 * t)], aq_h m s F c)) rfl rfl ?_
        refine am_E.go (t2 := (33, [vR y, vI t, vI i, vI w, vU], [vI (am_w ((40 * t) + i))], aq_h m s F c)) rfl rfl ?_
        refine am_E.go (t2 := (35, [vR y, vI t, vI i, vI w, vI (am_w ((40 * t) + i))], [], aq_h m s F c)) rfl rfl ?_
        refine am_E.go (t2 := (36, [vR y, vI t, vI i, vI w, vI (am_w ((40 * t) + i))], [vI i], aq_h m s F c)) rfl rfl ?_
        refine am_E.go (t2 := (37, [vR y, vI t, vI i, vI w, vI (am_w ((40 * t) + i))], [vR y, vI i], aq_h m s F c)) rfl rfl ?_
        refine aq_gf (v := vR (y + 6)) rfl (by omega) hFo (by decide) rfl ?_
        show am_E _ (40, [vR y, vI t, vI i, vI w, vI (am_w ((40 * t) + i))], [vR (y + 6), vI i], aq_h m s F c) _
        refine am_E.go (t2 := (41, [vR y, vI t, vI i, vI w, vI (am_w ((40 * t) + i))], [vI t, vR (y + 6), vI i], aq_h m s F c)) rfl rfl ?_
        refine aq_al (ok := fun k => k == 0) (v := vI (c (y + 6) t)) rfl rfl (by omega) hG6 rfl (by omega) (by omega) rfl ?_
        show am_E _ (42, [vR y, vI t, vI i, vI w, vI (am_w ((40 * t) + i))], [vI (c (y + 6) t), vI i], aq_h m s F c) _
        obtain ⟨hu1t, hu2t, hu3t, hu4t, hu5t⟩ := hI.2 t (by omega) (by omega)
        refine ae_icmp rfl (fun (q_7 : i < (c (y + 6) t)) => ?_) (fun (q_7 : (c (y + 6) t) ≤ i) => ?_)
        · have e_w : am_w (40 * t + i) = 40 * t + i := am_w_id (am_ri (by omega) (by omega))
          refine am_E.go (t2 := (52, [vR y, vI t, vI i, vI w, vI (am_w ((40 * t) + i))], [vI w], aq_h m s F c)) rfl rfl ?_
          refine ae_if0 rfl (fun (q_8 : w ≠ 0) => ?_) (fun (q_8 : w = 0) => ?_)
          · refine am_E.go (t2 := (67, [vR y, vI t, vI i, vI w, vI (am_w ((40 * t) + i))], [vI w], aq_h m s F c)) rfl rfl ?_
            refine am_E.go (t2 := (68, [vR y, vI t, vI i, vI w, vI (am_w ((40 * t) + i))], [vI 1, vI w], aq_h m s F c)) rfl rfl ?_
            refine ae_icmp rfl (fun (q_9 : w ≠ 1) => ?_) (fun (q_9 : w = 1) => ?_)
            · refine am_E.go (t2 := (83, [vR y, vI t, vI i, vI w, vI (am_w ((40 * t) + i))], [vR y], aq_h m s F c)) rfl rfl ?_
              refine aq_gf (v := vR (y + 9)) rfl (by omega) hFo (by decide) rfl ?_
              show am_E _ (86, [vR y, vI t, vI i, vI w, vI (am_w ((40 * t) + i))], [vR (y + 9)], aq_h m s F c) _
              refine am_E.go (t2 := (88, [vR y, vI t, vI i, vI w, vI (am_w ((40 * t) + i))], [vI (am_w ((40 * t) + i)), vR (y + 9)], aq_h m s F c)) rfl rfl ?_
              refine aq_al (ok := fun k => k == 2) (v := vL (c (y + 9) (am_w ((40 * t) + i)))) rfl rfl (by omega) hG9 rfl (by omega) (by omega) rfl ?_
              show am_E _ (89, [vR y, vI t, vI i, vI w, vI (am_w ((40 * t) + i))], [vL (c (y + 9) (am_w ((40 * t) + i)))], aq_h m s F c) _
              refine am_E.ret rfl rfl ?_
              exact ⟨_, rfl, (aq_sm0 (c := c) (S := fun a => y ≤ a ∧ a < y + 24 ∧ a ≠ y + 10)), ⟨_, rfl⟩, hI⟩
            · refine am_E.go (t2 := (72, [vR y, vI t, vI i, vI w, vI (am_w ((40 * t) + i))], [vR y], aq_h m s F c)) rfl rfl ?_
              refine aq_gf (v := vR (y + 8)) rfl (by omega) hFo (by decide) rfl ?_
              show am_E _ (75, [vR y, vI t, vI i, vI w, vI (am_w ((40 * t) + i))], [vR (y + 8)], aq_h m s F c) _
              refine am_E.go (t2 := (77, [vR y, vI t, vI i, vI w, vI (am_w ((40 * t) + i))], [vI (am_w ((40 * t) + i)), vR (y + 8)], aq_h m s F c)) rfl rfl ?_
              refine aq_al (ok := fun k => k == 0) (v := vI (c (y + 8) (am_w ((40 * t) + i)))) rfl rfl (by omega) hG8 rfl (by omega) (by omega) rfl ?_
              show am_E _ (78, [vR y, vI t, vI i, vI w, vI (am_w ((40 * t) + i))], [vI (c (y + 8) (am_w ((40 * t) + i)))], aq_h m s F c) _
              refine am_E.go (t2 := (79, [vR y, vI t, vI i, vI w, vI (am_w ((40 * t) + i))], [vL (c (y + 8) (am_w ((40 * t) + i)))], aq_h m s F c)) rfl rfl ?_
              refine am_E.go (t2 := (89, [vR y, vI t, vI i, vI w, vI (am_w ((40 * t) + i))], [vL (c (y + 8) (am_w ((40 * t) + i)))], aq_h m s F c)) rfl rfl ?_
              refine am_E.ret rfl rfl ?_
              exact ⟨_, rfl, (aq_sm0 (c := c) (S := fun a => y ≤ a ∧ a < y + 24 ∧ a ≠ y + 10)), ⟨_, rfl⟩, hI⟩
          · refine am_E.go (t2 := (56, [vR y, vI t, vI i, vI w, vI (am_w ((40 * t) + i))], [vR y], aq_h m s F c)) rfl rfl ?_
            refine aq_gf (v := vR (y + 7)) rfl (by omega) hFo (by decide) rfl ?_
            show am_E _ (59, [vR y, vI t, vI i, vI w, vI (am_w ((40 * t) + i))], [vR (y + 7)], aq_h m s F c) _
            refine am_E.go (t2 := (61, [vR y, vI t, vI i, vI w, vI (am_w ((40 * t) + i))], [vI (am_w ((40 * t) + i)), vR (y + 7)], aq_h m s F c)) rfl rfl ?_
            refine aq_al (ok := fun k => k == 0) (v := vI (c (y + 7) (am_w ((40 * t) + i)))) rfl rfl (by omega) hG7 rfl (by omega) (by omega) rfl ?_
            show am_E _ (62, [vR y, vI t, vI i, vI w, vI (am_w ((40 * t) + i))], [vI (c (y + 7) (am_w ((40 * t) + i)))], aq_h m s F c) _
            refine am_E.go (t2 := (63, [vR y, vI t, vI i, vI w, vI (am_w ((40 * t) + i))], [vL (c (y + 7) (am_w ((40 * t) + i)))], aq_h m s F c)) rfl rfl ?_
            refine am_E.go (t2 := (89, [vR y, vI t, vI i, vI w, vI (am_w ((40 * t) + i))], [vL (c (y + 7) (am_w ((40 * t) + i)))], aq_h m s F c)) rfl rfl ?_
            refine am_E.ret rfl rfl ?_
            exact ⟨_, rfl, (aq_sm0 (c := c) (S := fun a => y ≤ a ∧ a < y + 24 ∧ a ≠ y + 10)), ⟨_, rfl⟩, hI⟩
        · refine am_E.go (t2 := (48, [vR y, vI t, vI i, vI w, vI (am_w ((40 * t) + i))], [vL (-1000000000000004)], aq_h m s F c)) rfl rfl ?_
          refine am_E.go (t2 := (89, [vR y, vI t, vI i, vI w, vI (am_w ((40 * t) + i))], [vL (-1000000000000004)], aq_h m s F c)) rfl rfl ?_
          refine am_E.ret rfl rfl ?_
          exact ⟨_, rfl, (aq_sm0 (c := c) (S := fun a => y ≤ a ∧ a < y + 24 ∧ a ≠ y + 10)), ⟨_, rfl⟩, hI⟩
      · refine am_E.go (t2 := (26, [vR y, vI t, vI i, vI w, vU], [vL (-1000000000000001)], aq_h m s F c)) rfl rfl ?_
        refine am_E.ret rfl rfl ?_
        exact ⟨_, rfl, (aq_sm0 (c := c) (S := fun a => y ≤ a ∧ a < y + 24 ∧ a ≠ y + 10)), ⟨_, rfl⟩, hI⟩

theorem qk_same_l {m s : Nat} {F : aq_F} {c : aq_C} {y : Nat} (hO : mo_0 m F y) (hI : mo_I y c) {t u : Int} (ht0 : 0 ≤ t) (ht1 : t < 8) (hu0 : 0 ≤ u) (hu1 : u < 8) : ∀ (d : Nat) (x : Int) (k : Int) (h0 : 0 ≤ k) (h1 : k ≤ 40) (hd : 40 - k < (d : Int)), am_E ac_X5_same (55, [vR y, vI t, vI u, vI x, vI k], [], aq_h m s F c) (aq_Z m s F (fun a => y ≤ a ∧ a < y + 24 ∧ a ≠ y + 10) c (fun r d => aq_vi r ∧ mo_I y d))
  | 0, x, k, h0, h1, hd => by exfalso; omega
  | d + 1, x, k, h0, h1, hd => by
    obtain ⟨hm, hFo, hG5, hG6, hG7, hG8, hG9, hG10, hG11, hG12, hG13, hG14, hG15, hG16, hG17, hG18, hG19, hG20, hG21, hG22, hG23⟩ := hO
    refine am_E.go (t2 := (57, [vR y, vI t, vI u, vI x, vI k], [vI k], aq_h m s F c)) rfl rfl ?_
    refine am_E.go (t2 := (58, [vR y, vI t, vI u, vI x, vI k], [vR y, vI k], aq_h m s F c)) rfl rfl ?_
    refine aq_gf (v := vR (y + 6)) rfl (by omega) hFo (by decide) rfl ?_
    show am_E _ (61, [vR y, vI t, vI u, vI x, vI k], [vR (y + 6), vI k], aq_h m s F c) _
    refine am_E.go (t2 := (62, [vR y, vI t, vI u, vI x, vI k], [vI t, vR (y + 6), vI k], aq_h m s F c)) rfl rfl ?_
    refine aq_al (ok := fun k => k == 0) (v := vI (c (y + 6) t)) rfl rfl (by omega) hG6 rfl (by omega) (by omega) rfl ?_
    show am_E _ (63, [vR y, vI t, vI u, vI x, vI k], [vI (c (y + 6) t), vI k], aq_h m s F c) _
    obtain ⟨hu1t, hu2t, hu3t, hu4t, hu5t⟩ := hI.2 t (by omega) (by omega)
    refine ae_icmp rfl (fun (q_2 : (c (y + 6) t) ≤ k) => ?_) (fun (q_2 : k < (c (y + 6) t)) => ?_)
    · refine am_E.go (t2 := (165, [vR y, vI t, vI u, vI x, vI k], [vI x], aq_h m s F c)) rfl rfl ?_
      refine ae_if0 rfl (fun (q_3 : x = 0) => ?_) (fun (q_3 : x ≠ 0) => ?_)
      · refine am_E.go (t2 := (173, [vR y, vI t, vI u, vI x, vI k], [vI 0], aq_h m s F c)) rfl rfl ?_
        refine am_E.ret rfl rfl ?_
        exact ⟨_, rfl, aq_sm0, ⟨_, rfl⟩, hI⟩
      · refine am_E.go (t2 := (169, [vR y, vI t, vI u, vI x, vI k], [vI 1], aq_h m s F c)) rfl rfl ?_
        refine am_E.go (t2 := (173, [vR y, vI t, vI u, vI x, vI k], [vI 1], aq_h m s F c)) rfl rfl ?_
        refine am_E.ret rfl rfl ?_
        exact ⟨_, rfl, aq_sm0, ⟨_, rfl⟩, hI⟩
    · refine am_E.go (t2 := (67, [vR y, vI t, vI u, vI x, vI k], [vI x], aq_h m s F c)) rfl rfl ?_
      refine ae_if0 rfl (fun (q_4 : x = 0) => ?_) (fun (q_4 : x ≠ 0) => ?_)
      · refine am_E.go (t2 := (165, [vR y, vI t, vI u, vI x, vI k], [vI x], aq_h m s F c)) rfl rfl ?_
        refine ae_if0 rfl (fun (q_5 : x = 0) => ?_) (fun (q_5 : x ≠ 0) => ?_)
        · refine am_E.go (t2 := (173, [vR y, vI t, vI u, vI x, vI k], [vI 0], aq_h m s F c)) rfl rfl ?_
          refine am_E.ret rfl rfl ?_
          exact ⟨_, rfl, aq_sm0, ⟨_, rfl⟩, hI⟩
        · refine am_E.go (t2 := (169, [vR y, vI t, vI u, vI x, vI k], [vI 1], aq_h m s F c)) rfl rfl ?_
          refine am_E.go (t2 := (173, [vR y, vI t, vI u, vI x, vI k], [vI 1], aq_h m s F c)) rfl rfl ?_
          refine am_E.ret rfl rfl ?_
          exact ⟨_, rfl, aq_sm0, ⟨_, rfl⟩, hI⟩
      · refine am_E.go (t2 := (71, [vR y, vI t, vI u, vI x, vI k], [vR y], aq_h m s F c)) rfl rfl ?_
        refine aq_gf (v := vR (y + 7)) rfl (by omega) hFo (by decide) rfl ?_
        show am_E _ (74, [vR y, vI t, vI u, vI x, vI k], [vR (y + 7)], aq_h m s F c) _
        refine am_E.go (t2 := (76, [vR y, vI t, vI u, vI x, vI k], [vI 40, vR (y + 7)], aq_h m s F c)) rfl rfl ?_
        refine am_E.go (t2 := (77, [vR y, vI t, vI u, vI x, vI k], [vI t, vI 40, vR (y + 7)], aq_h m s F c)) rfl rfl ?_
        refine ae_mul rfl (am_ri (by omega) (by omega)) ?_
        show am_E _ (78, [vR y, vI t, vI u, vI x, vI k], [vI (40 * t), vR (y + 7)], aq_h m s F c) _
        refine am_E.go (t2 := (80, [vR y, vI t, vI u, vI x, vI k], [vI k, vI (40 * t), vR (y + 7)], aq_h m s F c)) rfl rfl ?_
        refine ae_add rfl (am_ri (by omega) (by omega)) ?_
        show am_E _ (81, [vR y, vI t, vI u, vI x, vI k], [vI ((40 * t) + k), vR (y + 7)], aq_h m s F c) _
        refine aq_al (ok := fun k => k == 0) (v := vI (c (y + 7) ((40 * t) + k))) rfl rfl (by omega) hG7 rfl (by omega) (by omega) rfl ?_
        show am_E _ (82, [vR y, vI t, vI u, vI x, vI k], [vI (c (y + 7) ((40 * t) + k))], aq_h m s F c) _
        refine am_E.go (t2 := (83, [vR y, vI t, vI u, vI x, vI k], [vR y, vI (c (y + 7) ((40 * t) + k))], aq_h m s F c)) rfl rfl ?_
        refine aq_gf (v := vR (y + 7)) rfl (by omega) hFo (by decide) rfl ?_
        show am_E _ (86, [vR y, vI t, vI u, vI x, vI k], [vR (y + 7), vI (c (y + 7) ((40 * t) + k))], aq_h m s F c) _
        refine am_E.go (t2 := (88, [vR y, vI t, vI u, vI x, vI k], [vI 40, vR (y + 7), vI (c (y + 7) ((40 * t) + k))], aq_h m s F c)) rfl rfl ?_
        refine am_E.go (t2 := (89, [vR y, vI t, vI u, vI x, vI k], [vI u, vI 40, vR (y + 7), vI (c (y + 7) ((40 * t) + k))], aq_h m s F c)) rfl rfl ?_
        refine ae_mul rfl (am_ri (by omega) (by omega)) ?_
        show am_E _ (90, [vR y, vI t, vI u, vI x, vI k], [vI (40 * u), vR (y + 7), vI (c (y + 7) ((40 * t) + k))], aq_h m s F c) _
        refine am_E.go (t2 := (92, [vR y, vI t, vI u, vI x, vI k], [vI k, vI (40 * u), vR (y + 7), vI (c (y + 7) ((40 * t) + k))], aq_h m s F c)) rfl rfl ?_
        refine ae_add rfl (am_ri (by omega) (by omega)) ?_
        show am_E _ (93, [vR y, vI t, vI u, vI x, vI k], [vI ((40 * u) + k), vR (y + 7), vI (c (y + 7) ((40 * t) + k))], aq_h m s F c) _
        refine aq_al (ok := fun k => k == 0) (v := vI (c (y + 7) ((40 * u) + k))) rfl rfl (by omega) hG7 rfl (by omega) (by omega) rfl ?_
        show am_E _ (94, [vR y, vI t, vI u, vI x, vI k], [vI (c (y + 7) ((40 * u) + k)), vI (c (y + 7) ((40 * t) + k))], aq_h m s F c) _
        refine ae_icmp rfl (fun (q_6 : (c (y + 7) ((40 * t) + k)) ≠ (c (y + 7) ((40 * u) + k))) => ?_) (fun (q_6 : (c (y + 7) ((40 * t) + k)) = (c (y + 7) ((40 * u) + k))) => ?_)
        · refine am_E.go (t2 := (157, [vR y, vI t, vI u, vI x, vI k], [vI 0], aq_h m s F c)) rfl rfl ?_
          refine am_E.go (t2 := (158, [vR y, vI t, vI u, vI 0, vI k], [], aq_h m s F c)) rfl rfl ?_
          refine ae_iinc rfl rfl (am_ri (by omega) (by omega)) ?_
          show am_E _ (161, [vR y, vI t, vI u, vI 0, vI (k + 1)], [], aq_h m s F c) _
          refine am_E.go (t2 := (55, [vR y, vI t, vI u, vI 0, vI (k + 1)], [], aq_h m s F c)) rfl rfl ?_
          exact qk_same_l ⟨hm, hFo, hG5, hG6, hG7, hG8, hG9, hG10, hG11, hG12, hG13, hG14, hG15, hG16, hG17, hG18, hG19, hG20, hG21, hG22, hG23⟩ hI (by omega) (by omega) (by omega) (by omega) d 0 (k + 1) (by omega) (by omega) (by omega)
        · refine am_E.go (t2 := (98, [vR y, vI t, vI u, vI x, vI k], [vR y], aq_h m s F c)) rfl rfl ?_
          refine aq_gf (v := vR (y + 8)) rfl (by omega) hFo (by decide) rfl ?_
          show am_E _ (101, [vR y, vI t, vI u, vI x, vI k], [vR (y + 8)], aq_h m s F c) _
          refine am_E.go (t2 := (103, [vR y, vI t, vI u, vI x, vI k], [vI 40, vR (y + 8)], aq_h m s F c)) rfl rfl ?_
          refine am_E.go (t2 := (104, [vR y, vI t, vI u, vI x, vI k], [vI t, vI 40, vR (y + 8)], aq_h m s F c)) rfl rfl ?_
          refine ae_mul rfl (am_ri (by omega) (by omega)) ?_
          show am_E _ (105, [vR y, vI t, vI u, vI x, vI k], [vI (40 * t), vR (y + 8)], aq_h m s F c) _
          refine am_E.go (t2 := (107, [vR y, vI t, vI u, vI x, vI k], [vI k, vI (40 * t), vR (y + 8)], aq_h m s F c)) rfl rfl ?_
          refine ae_add rfl (am_ri (by omega) (by omega)) ?_
          show am_E _ (108, [vR y, vI t, vI u, vI x, vI k], [vI ((40 * t) + k), vR (y + 8)], aq_h m s F c) _
          refine aq_al (ok := fun k => k == 0) (v := vI (c (y + 8) ((40 * t) + k))) rfl rfl (by omega) hG8 rfl (by omega) (by omega) rfl ?_
          show am_E _ (109, [vR y, vI t, vI u, vI x, vI k], [vI (c (y + 8) ((40 * t) + k))], aq_h m s F c) _
          refine am_E.go (t2 := (110, [vR y, vI t, vI u, vI x, vI k], [vR y, vI (c (y + 8) ((40 * t) + k))], aq_h m s F c)) rfl rfl ?_
          refine aq_gf (v := vR (y + 8)) rfl (by omega) hFo (by decide) rfl ?_
          show am_E _ (113, [vR y, vI t, vI u, vI x, vI k], [vR (y + 8), vI (c (y + 8) ((40 * t) + k))], aq_h m s F c) _
          refine am_E.go (t2 := (115, [vR y, vI t, vI u, vI x, vI k], [vI 40, vR (y + 8), vI (c (y + 8) ((40 * t) + k))], aq_h m s F c)) rfl rfl ?_
          refine am_E.go (t2 := (116, [vR y, vI t, vI u, vI x, vI k], [vI u, vI 40, vR (y + 8), vI (c (y + 8) ((40 * t) + k))], aq_h m s F c)) rfl rfl ?_
          refine ae_mul rfl (am_ri (by omega) (by omega)) ?_
          show am_E _ (117, [vR y, vI t, vI u, vI x, vI k], [vI (40 * u), vR (y + 8), vI (c (y + 8) ((40 * t) + k))], aq_h m s F c) _
          refine am_E.go (t2 := (119, [vR y, vI t, vI u, vI x, vI k], [vI k, vI (40 * u), vR (y + 8), vI (c (y + 8) ((40 * t) + k))], aq_h m s F c)) rfl rfl ?_
          refine ae_add rfl (am_ri (by omega) (by omega)) ?_
          show am_E _ (120, [vR y, vI t, vI u, vI x, vI k], [vI ((40 * u) + k), vR (y + 8), vI (c (y + 8) ((40 * t) + k))], aq_h m s F c) _
          refine aq_al (ok := fun k => k == 0) (v := vI (c (y + 8) ((40 * u) + k))) rfl rfl (by omega) hG8 rfl (by omega) (by omega) rfl ?_
          show am_E _ (121, [vR y, vI t, vI u, vI x, vI k], [vI (c (y + 8) ((40 * u) + k)), vI (c (y + 8) ((40 * t) + k))], aq_h m s F c) _
          refine ae_icmp rfl (fun (q_7 : (c (y + 8) ((40 * t) + k)) ≠ (c (y + 8) ((40 * u) + k))) => ?_) (fun (q_7 : (c (y + 8) ((40 * t) + k)) = (c (y + 8) ((40 * u) + k))) => ?_)
          · refine am_E.go (t2 := (157, [vR y, vI t, vI u, vI x, vI k], [vI 0], aq_h m s F c)) rfl rfl ?_
            refine am_E.go (t2 := (158, [vR y, vI t, vI u, vI 0, vI k], [], aq_h m s F c)) rfl rfl ?_
            refine ae_iinc rfl rfl (am_ri (by omega) (by omega)) ?_
            show am_E _ (161, [vR y, vI t, vI u, vI 0, vI (k + 1)], [], aq_h m s F c) _
            refine am_E.go (t2 := (55, [vR y, vI t, vI u, vI 0, vI (k + 1)], [], aq_h m s F c)) rfl rfl ?_
            exact qk_same_l ⟨hm, hFo, hG5, hG6, hG7, hG8, hG9, hG10, hG11, hG12, hG13, hG14, hG15, hG16, hG17, hG18, hG19, hG20, hG21, hG22, hG23⟩ hI (by omega) (by omega) (by omega) (by omega) d 0 (k + 1) (by omega) (by omega) (by omega)
          · refine am_E.go (t2 := (125, [vR y, vI t, vI u, vI x, vI k], [vR y], aq_h m s F c)) rfl rfl ?_
            refine aq_gf (v := vR (y + 9)) rfl (by omega) hFo (by decide) rfl ?_
            show am_E _ (128, [vR y, vI t, vI u, vI x, vI k], [vR (y + 9)], aq_h m s F c) _
            refine am_E.go (t2 := (130, [vR y, vI t, vI u, vI x, vI k], [vI 40, vR (y + 9)], aq_h m s F c)) rfl rfl ?_
            refine am_E.go (t2 := (131, [vR y, vI t, vI u, vI x, vI k], [vI t, vI 40, vR (y + 9)], aq_h m s F c)) rfl rfl ?_
            refine ae_mul rfl (am_ri (by omega) (by omega)) ?_
            show am_E _ (132, [vR y, vI t, vI u, vI x, vI k], [vI (40 * t), vR (y + 9)], aq_h m s F c) _
            refine am_E.go (t2 := (134, [vR y, vI t, vI u, vI x, vI k], [vI k, vI (40 * t), vR (y + 9)], aq_h m s F c)) rfl rfl ?_
            refine ae_add rfl (am_ri (by omega) (by omega)) ?_
            show am_E _ (135, [vR y, vI t, vI u, vI x, vI k], [vI ((40 * t) + k), vR (y + 9)], aq_h m s F c) _
            refine aq_al (ok := fun k => k == 2) (v := vL (c (y + 9) ((40 * t) + k))) rfl rfl (by omega) hG9 rfl (by omega) (by omega) rfl ?_
            show am_E _ (136, [vR y, vI t, vI u, vI x, vI k], [vL (c (y + 9) ((40 * t) + k))], aq_h m s F c) _
            refine am_E.go (t2 := (137, [vR y, vI t, vI u, vI x, vI k], [vR y, vL (c (y + 9) ((40 * t) + k))], aq_h m s F c)) rfl rfl ?_
            refine aq_gf (v := vR (y + 9)) rfl (by omega) hFo (by decide) rfl ?_
            show am_E _ (140, [vR y, vI t, vI u, vI x, vI k], [vR (y + 9), vL (c (y + 9) ((40 * t) + k))], aq_h m s F c) _
            refine am_E.go (t2 := (142, [vR y, vI t, vI u, vI x, vI k], [vI 40, vR (y + 9), vL (c (y + 9) ((40 * t) + k))], aq_h m s F c)) rfl rfl ?_
            refine am_E.go (t2 := (143, [vR y, vI t, vI u, vI x, vI k], [vI u, vI 40, vR (y + 9), vL (c (y + 9) ((40 * t) + k))], aq_h m s F c)) rfl rfl ?_
            refine ae_mul rfl (am_ri (by omega) (by omega)) ?_
            show am_E _ (144, [vR y, vI t, vI u, vI x, vI k], [vI (40 * u), vR (y + 9), vL (c (y + 9) ((40 * t) + k))], aq_h m s F c) _
            refine am_E.go (t2 := (146, [vR y, vI t, vI u, vI x, vI k], [vI k, vI (40 * u), vR (y + 9), vL (c (y + 9) ((40 * t) + k))], aq_h m s F c)) rfl rfl ?_
            refine ae_add rfl (am_ri (by omega) (by omega)) ?_
            show am_E _ (147, [vR y, vI t, vI u, vI x, vI k], [vI ((40 * u) + k), vR (y + 9), vL (c (y + 9) ((40 * t) + k))], aq_h m s F c) _
            refine aq_al (ok := fun k => k == 2) (v := vL (c (y + 9) ((40 * u) + k))) rfl rfl (by omega) hG9 rfl (by omega) (by omega) rfl ?_
            show am_E _ (148, [vR y, vI t, vI u, vI x, vI k], [vL (c (y + 9) ((40 * u) + k)), vL (c (y + 9) ((40 * t) + k))], aq_h m s F c) _
            have ez_8 := am_lcf (c (y + 9) ((40 * t) + k)) (c (y + 9) ((40 * u) + k))
            refine am_E.go (t2 := (149, [vR y, vI t, vI u, vI x, vI k], [vI (if (c (y + 9) ((40 * t) + k)) < (c (y + 9) ((40 * u) + k)) then -1 else if (c (y + 9) ((40 * t) + k)) = (c (y + 9) ((40 * u) + k)) then 0 else 1)], aq_h m s F c)) rfl rfl ?_
            generalize (if (c (y + 9) ((40 * t) + k)) < (c (y + 9) ((40 * u) + k)) then -1 else if (c (y + 9) ((40 * t) + k)) = (c (y + 9) ((40 * u) + k)) then 0 else 1) = z_8 at ez_8 ⊢
            refine ae_if0 rfl (fun (q_9 : z_8 ≠ 0) => ?_) (fun (q_9 : z_8 = 0) => ?_)
            · refine am_E.go (t2 := (157, [vR y, vI t, vI u, vI x, vI k], [vI 0], aq_h m s F c)) rfl rfl ?_
              refine am_E.go (t2 := (158, [vR y, vI t, vI u, vI 0, vI k], [], aq_h m s F c)) rfl rfl ?_
              refine ae_iinc rfl rfl (am_ri (by omega) (by omega)) ?_
              show am_E _ (161, [vR y, vI t, vI u, vI 0, vI (k + 1)], [], aq_h m s F c) _
              refine am_E.go (t2 := (55, [vR y, vI t, vI u, vI 0, vI (k + 1)], [], aq_h m s F c)) rfl rfl ?_
              exact qk_same_l ⟨hm, hFo, hG5, hG6, hG7, hG8, hG9, hG10, hG11, hG12, hG13, hG14, hG15, hG16, hG17, hG18, hG19, hG20, hG21, hG22, hG23⟩ hI (by omega) (by omega) (by omega) (by omega) d 0 (k + 1) (by omega) (by omega) (by omega)
            · refine am_E.go (t2 := (153, [vR y, vI t, vI u, vI x, vI k], [vI 1], aq_h m s F c)) rfl rfl ?_
              refine am_E.go (t2 := (157, [vR y, vI t, vI u, vI x, vI k], [vI 1], aq_h m s F c)) rfl rfl ?_
              refine am_E.go (t2 := (158, [vR y, vI t, vI u, vI 1, vI k], [], aq_h m s F c)) rfl rfl ?_
              refine ae_iinc rfl rfl (am_ri (by omega) (by omega)) ?_
              show am_E _ (161, [vR y, vI t, vI u, vI 1, vI (k + 1)], [], aq_h m s F c) _
              refine am_E.go (t2 := (55, [vR y, vI t, vI u, vI 1, vI (k + 1)], [], aq_h m s F c)) rfl rfl ?_
              exact qk_same_l ⟨hm, hFo, hG5, hG6, hG7, hG8, hG9, hG10, hG11, hG12, hG13, hG14, hG15, hG16, hG17, hG18, hG19, hG20, hG21, hG22, hG23⟩ hI (by omega) (by omega) (by omega) (by omega) d 1 (k + 1) (by omega) (by omega) (by omega)

theorem qk_X5_same {m s : Nat} {F : aq_F} {c : aq_C} {y : Nat} (hC : mo_C m F y) (hI : mo_I y c) {t u : Int} : am_E ac_X5_same (0, [vR y, vI t, vI u, vU, vU], [], aq_h m s F c) (aq_Z m s F (fun a => y ≤ a ∧ a < y + 24 ∧ a ≠ y + 10) c (fun r d => aq_vi r ∧ mo_I y d)) := by
  obtain ⟨⟨hm, hFo, hG5, hG6, hG7, hG8, hG9, hG10, hG11, hG12, hG13, hG14, hG15, hG16, hG17, hG18, hG19, hG20, hG21, hG22, hG23⟩, ⟨tbl, hT1, hTt⟩, ⟨tA, tB, tD, hL1, hL2, hL3, hLt⟩⟩ := hC
  refine am_E.go (t2 := (1, [vR y, vI t, vI u, vU, vU], [vI t], aq_h m s F c)) rfl rfl ?_
  refine am_E.call rfl rfl rfl (Nat.le_of_ble_eq_true rfl) (qm_isSum) ?_
  rintro r5 h5 ⟨rfl, v_1, rfl, hv_1⟩
  show am_E _ (4, [vR y, vI t, vI u, vU, vU], [vI v_1], aq_h m s F c) _
  refine ae_if0 rfl (fun (q_2 : v_1 = 0) => ?_) (fun (q_2 : v_1 ≠ 0) => ?_)
  · refine am_E.go (t2 := (15, [vR y, vI t, vI u, vU, vU], [vI (-1)], aq_h m s F c)) rfl rfl ?_
    refine am_E.ret rfl rfl ?_
    exact ⟨_, rfl, (aq_sm0 (c := c) (S := fun a => y ≤ a ∧ a < y + 24 ∧ a ≠ y + 10)), ⟨_, rfl⟩, hI⟩
  · refine am_E.go (t2 := (8, [vR y, vI t, vI u, vU, vU], [vI u], aq_h m s F c)) rfl rfl ?_
    refine am_E.call rfl rfl rfl (Nat.le_of_ble_eq_true rfl) (qm_isSum) ?_
    rintro r5 h5 ⟨rfl, v_3, rfl, hv_3⟩
    show am_E _ (11, [vR y, vI t, vI u, vU, vU], [vI v_3], aq_h m s F c) _
    refine ae_if0 rfl (fun (q_4 : v_3 ≠ 0) => ?_) (fun (q_4 : v_3 = 0) => ?_)
    · refine am_E.go (t2 := (17, [vR y, vI t, vI u, vU, vU], [vR y], aq_h m s F c)) rfl rfl ?_
      refine aq_gf (v := vR (y + 5)) rfl (by omega) hFo (by decide) rfl ?_
      show am_E _ (20, [vR y, vI t, vI u, vU, vU], [vR (y + 5)], aq_h m s F c) _
      refine am_E.go (t2 := (21, [vR y, vI t, vI u, vU, vU], [vI t, vR (y + 5)], aq_h m s F c)) rfl rfl ?_
      refine aq_al (ok := fun k => k == 0) (v := vI (c (y + 5) t)) rfl rfl (by omega) hG5 rfl (by omega) (by omega) rfl ?_
      show am_E _ (22, [vR y, vI t, vI u, vU, vU], [vI (c (y + 5) t)], aq_h m s F c) _
      refine am_E.go (t2 := (23, [vR y, vI t, vI u, vU, vU], [vR y, vI (c (y + 5) t)], aq_h m s F c)) rfl rfl ?_
      refine aq_gf (v := vR (y + 5)) rfl (by omega) hFo (by decide) rfl ?_
      show am_E _ (26, [vR y, vI t, vI u, vU, vU], [vR (y + 5), vI (c (y + 5) t)], aq_h m s F c) _
      refine am_E.go (t2 := (27, [vR y, vI t, vI u, vU, vU], [vI u, vR (y + 5), vI (c (y + 5) t)], aq_h m s F c)) rfl rfl ?_
      refine aq_al (ok := fun k => k == 0) (v := vI (c (y + 5) u)) rfl rfl (by omega) hG5 rfl (by omega) (by omega) rfl ?_
      show am_E _ (28, [vR y, vI t, vI u, vU, vU], [vI (c (y + 5) u), vI (c (y + 5) t)], aq_h m s F c) _
      refine ae_icmp rfl (fun (q_5 : (c (y + 5) t) ≠ (c (y + 5) u)) => ?_) (fun (q_5 : (c (y + 5) t) = (c (y + 5) u)) => ?_)
      · refine am_E.go (t2 := (51, [vR y, vI t, vI u, vU, vU], [vI 0], aq_h m s F c)) rfl rfl ?_
        refine am_E.go (t2 := (52, [vR y, vI t, vI u, vI 0, vU], [], aq_h m s F c)) rfl rfl ?_
        refine am_E.go (t2 := (53, [vR y, vI t, vI u, vI 0, vU], [vI 0], aq_h m s F c)) rfl rfl ?_
        refine am_E.go (t2 := (55, [vR y, vI t, vI u, vI 0, vI 0], [], aq_h m s F c)) rfl rfl ?_
        exact qk_same_l ⟨hm, hFo, hG5, hG6, hG7, hG8, hG9, hG10, hG11, hG12, hG13, hG14, hG15, hG16, hG17, hG18, hG19, hG20, hG21, hG22, hG23⟩ hI (by omega) (by omega) (by omega) (by omega) 42 0 0 (by omega) (by omega) (by omega)
      · refine am_E.go (t2 := (32, [vR y, vI t, vI u, vU, vU], [vR y], aq_h m s F c)) rfl rfl ?_
        refine aq_gf (v := vR (y + 6)) rfl (by omega) hFo (by decide) rfl ?_
        show am_E _ (35, [vR y, vI t, vI u, vU, vU], [vR (y + 6)], aq_h m s F c) _
        refine am_E.go (t2 := (36, [vR y, vI t, vI u, vU, vU], [vI t, vR (y + 6)], aq_h m s F c)) rfl rfl ?_
        refine aq_al (ok := fun k => k == 0) (v := vI (c (y + 6) t)) rfl rfl (by omega) hG6 rfl (by omega) (by omega) rfl ?_
        show am_E _ (37, [vR y, vI t, vI u, vU, vU], [vI (c (y + 6) t)], aq_h m s F c) _
        obtain ⟨hu1t, hu2t, hu3t, hu4t, hu5t⟩ := hI.2 t (by omega) (by omega)
        refine am_E.go (t2 := (38, [vR y, vI t, vI u, vU, vU], [vR y, vI (c (y + 6) t)], aq_h m s F c)) rfl rfl ?_
        refine aq_gf (v := vR (y + 6)) rfl (by omega) hFo (by decide) rfl ?_
        show am_E _ (41, [vR y, vI t, vI u, vU, vU], [vR (y + 6), vI (c (y + 6) t)], aq_h m s F c) _
        refine am_E.go (t2 := (42, [vR y, vI t, vI u, vU, vU], [vI u, vR (y + 6), vI (c (y + 6) t)], aq_h m s F c)) rfl rfl ?_
        refine aq_al (ok := fun k => k == 0) (v := vI (c (y + 6) u)) rfl rfl (by omega) hG6 rfl (by omega) (by omega) rfl ?_
        show am_E _ (43, [vR y, vI t, vI u, vU, vU], [vI (c (y + 6) u), vI (c (y + 6) t)], aq_h m s F c) _
        obtain ⟨hu1u, hu2u, hu3u, hu4u, hu5u⟩ := hI.2 u (by omega) (by omega)
        refine ae_icmp rfl (fun (q_8 : (c (y + 6) t) ≠ (c (y + 6) u)) => ?_) (fun (q_8 : (c (y + 6) t) = (c (y + 6) u)) => ?_)
        · refine am_E.go (t2 := (51, [vR y, vI t, vI u, vU, vU], [vI 0], aq_h m s F c)) rfl rfl ?_
          refine am_E.go (t2 := (52, [vR y, vI t, vI u, vI 0, vU], [], aq_h m s F c)) rfl rfl ?_
          refine am_E.go (t2 := (53, [vR y, vI t, vI u, vI 0, vU], [vI 0], aq_h m s F c)) rfl rfl ?_
          refine am_E.go (t2 := (55, [vR y, vI t, vI u, vI 0, vI 0], [], aq_h m s F c)) rfl rfl ?_
          exact qk_same_l ⟨hm, hFo, hG5, hG6, hG7, hG8, hG9, hG10, hG11, hG12, hG13, hG14, hG15, hG16, hG17, hG18, hG19, hG20, hG21, hG22, hG23⟩ hI (by omega) (by omega) (by omega) (by omega) 42 0 0 (by omega) (by omega) (by omega)
        · refine am_E.go (t2 := (47, [vR y, vI t, vI u, vU, vU], [vI 1], aq_h m s F c)) rfl rfl ?_
          refine am_E.go (t2 := (51, [vR y, vI t, vI u, vU, vU], [vI 1], aq_h m s F c)) rfl rfl ?_
          refine am_E.go (t2 := (52, [vR y, vI t, vI u, vI 1, vU], [], aq_h m s F c)) rfl rfl ?_
          refine am_E.go (t2 := (53, [vR y, vI t, vI u, vI 1, vU], [vI 0], aq_h m s F c)) rfl rfl ?_
          refine am_E.go (t2 := (55, [vR y, vI t, vI u, vI 1, vI 0], [], aq_h m s F c)) rfl rfl ?_
          exact qk_same_l ⟨hm, hFo, hG5, hG6, hG7, hG8, hG9, hG10, hG11, hG12, hG13, hG14, hG15, hG16, hG17, hG18, hG19, hG20, hG21, hG22, hG23⟩ hI (by omega) (by omega) (by omega) (by omega) 42 1 0 (by omega) (by omega) (by omega)
    · refine am_E.go (t2 := (15, [vR y, vI t, vI u, vU, vU], [vI (-1)], aq_h m s F c)) rfl rfl ?_
      refine am_E.ret rfl rfl ?_
      exact ⟨_, rfl, (aq_sm0 (c := c) (S := fun a => y ≤ a ∧ a < y + 24 ∧ a ≠ y + 10)), ⟨_, rfl⟩, hI⟩

theorem qk_closed_l {m s : Nat} {F : aq_F} {c0 : aq_C} {y : Nat} (hO : mo_0 m F y) {tbl : Int → Int} (hT : mo_T F y tbl) (hI : mo_I y c0) {t p : Int} (ht0 : 0 ≤ t) (ht1 : t < 8) : ∀ (d : Nat) (x : Int) (k : Int) (v6 : am_V) (c : aq_C) (hs : aq_sm (fun a => a = y + 13) c0 c) (h0 : 0 ≤ k) (h1 : k ≤ c0 (y + 6) t) (hd : c0 (y + 6) t - k < (d : Int)), am_E ac_X5_closed (26, [vR y, vI t, vI p, vL x, vU, vI k, v6], [], aq_h m s F c) (aq_Z m s F (fun a => y ≤ a ∧ a < y + 24 ∧ a ≠ y + 10) c0 (fun r d => aq_vl r ∧ mo_I y d))
  | 0, x, k, v6, c, hs, h0, h1, hd => by exfalso; omega
  | d + 1, x, k, v6, c, hs, h0, h1, hd => by
    obtain ⟨hm, hFo, hG5, hG6, hG7, hG8, hG9, hG10, hG11, hG12, hG13, hG14, hG15, hG16, hG17, hG18, hG19, hG20, hG21, hG22, hG23⟩ := hO
    obtain ⟨hT1, hTt⟩ := hT
    obtain ⟨hu1t, hu2t, hu3t, hu4t, hu5t⟩ := hI.2 t (by omega) (by omega)
    refine am_E.go (t2 := (28, [vR y, vI t, vI p, vL x, vU, vI k, v6], [vI k], aq_h m s F c)) rfl rfl ?_
    refine am_E.go (t2 := (29, [vR y, vI t, vI p, vL x, vU, vI k, v6], [vR y, vI k], aq_h m s F c)) rfl rfl ?_
    refine aq_gf (v := vR (y + 6)) rfl (by omega) hFo (by decide) rfl ?_
    show am_E _ (32, [vR y, vI t, vI p, vL x, vU, vI k, v6], [vR (y + 6), vI k], aq_h m s F c) _
    refine am_E.go (t2 := (33, [vR y, vI t, vI p, vL x, vU, vI k, v6], [vI t, vR (y + 6), vI k], aq_h m s F c)) rfl rfl ?_
    refine aq_al (ok := fun k => k == 0) (v := vI (c (y + 6) t)) rfl rfl (by omega) hG6 rfl (by omega) (by omega) rfl ?_
    show am_E _ (34, [vR y, vI t, vI p, vL x, vU, vI k, v6], [vI (c (y + 6) t), vI k], aq_h m s F c) _
    have f_1 := hs (y + 6) (by omega) t
    refine ae_icmp rfl (fun (q_2 : (c (y + 6) t) ≤ k) => ?_) (fun (q_2 : k < (c (y + 6) t)) => ?_)
    · refine am_E.go (t2 := (106, [vR y, vI t, vI p, vL x, vU, vI k, v6], [vL x], aq_h m s F c)) rfl rfl ?_
      refine am_E.ret rfl rfl ?_
      exact ⟨_, rfl, aq_smi hs (fun a h => by omega), ⟨_, rfl⟩, mo_Is hI hs (mo_ks mo_k0 hs (by omega)) (by omega) (by omega) (by omega) (by omega) (by omega)⟩
    · refine am_E.go (t2 := (38, [vR y, vI t, vI p, vL x, vU, vI k, v6], [vR y], aq_h m s F c)) rfl rfl ?_
      refine aq_gf (v := vR (y + 8)) rfl (by omega) hFo (by decide) rfl ?_
      show am_E _ (41, [vR y, vI t, vI p, vL x, vU, vI k, v6], [vR (y + 8)], aq_h m s F c) _
      refine am_E.go (t2 := (43, [vR y, vI t, vI p, vL x, vU, vI k, v6], [vI 40, vR (y + 8)], aq_h m s F c)) rfl rfl ?_
      refine am_E.go (t2 := (44, [vR y, vI t, vI p, vL x, vU, vI k, v6], [vI t, vI 40, vR (y + 8)], aq_h m s F c)) rfl rfl ?_
      refine ae_mul rfl (am_ri (by omega) (by omega)) ?_
      show am_E _ (45, [vR y, vI t, vI p, vL x, vU, vI k, v6], [vI (40 * t), vR (y + 8)], aq_h m s F c) _
      refine am_E.go (t2 := (47, [vR y, vI t, vI p, vL x, vU, vI k, v6], [vI k, vI (40 * t), vR (y + 8)], aq_h m s F c)) rfl rfl ?_
      refine ae_add rfl (am_ri (by omega) (by omega)) ?_
      show am_E _ (48, [vR y, vI t, vI p, vL x, vU, vI k, v6], [vI ((40 * t) + k), vR (y + 8)], aq_h m s F c) _
      refine aq_al (ok := fun k => k == 0) (v := vI (c (y + 8) ((40 * t) + k))) rfl rfl (by omega) hG8 rfl (by omega) (by omega) rfl ?_
      show am_E _ (49, [vR y, vI t, vI p, vL x, vU, vI k, v6], [vI (c (y + 8) ((40 * t) + k))], aq_h m s F c) _
      refine am_E.go (t2 := (50, [vR y, vI t, vI p, vL x, vU, vI k, v6], [vR y, vI (c (y + 8) ((40 * t) + k))], aq_h m s F c)) rfl rfl ?_
      refine am_E.go (t2 := (51, [vR y, vI t, vI p, vL x, vU, vI k, v6], [vR y, vR y, vI (c (y + 8) ((40 * t) + k))], aq_h m s F c)) rfl rfl ?_
      refine aq_gf (v := vR (y + 5)) rfl (by omega) hFo (by decide) rfl ?_
      show am_E _ (54, [vR y, vI t, vI p, vL x, vU, vI k, v6], [vR (y + 5), vR y, vI (c (y + 8) ((40 * t) + k))], aq_h m s F c) _
      refine am_E.go (t2 := (55, [vR y, vI t, vI p, vL x, vU, vI k, v6], [vI t, vR (y + 5), vR y, vI (c (y + 8) ((40 * t) + k))], aq_h m s F c)) rfl rfl ?_
      refine aq_al (ok := fun k => k == 0) (v := vI (c (y + 5) t)) rfl rfl (by omega) hG5 rfl (by omega) (by omega) rfl ?_
      show am_E _ (56, [vR y, vI t, vI p, vL x, vU, vI k, v6], [vI (c (y + 5) t), vR y, vI (c (y + 8) ((40 * t) + k))], aq_h m s F c) _
      have f_3 := hs (y + 5) (by omega) t
      refine am_E.go (t2 := (57, [vR y, vI t, vI p, vL x, vU, vI k, v6], [vR y, vI (c (y + 5) t), vR y, vI (c (y + 8) ((40 * t) + k))], aq_h m s F c)) rfl rfl ?_
      refine aq_gf (v := vR (y + 7)) rfl (by omega) hFo (by decide) rfl ?_
      show am_E _ (60, [vR y, vI t, vI p, vL x, vU, vI k, v6], [vR (y + 7), vI (c (y + 5) t), vR y, vI (c (y + 8) ((40 * t) + k))], aq_h m s F c) _
      refine am_E.go (t2 := (62, [vR y, vI t, vI p, vL x, vU, vI k, v6], [vI 40, vR (y + 7), vI (c (y + 5) t), vR y, vI (c (y + 8) ((40 * t) + k))], aq_h m s F c)) rfl rfl ?_
      refine am_E.go (t2 := (63, [vR y, vI t, vI p, vL x, vU, vI k, v6], [vI t, vI 40, vR (y + 7), vI (c (y + 5) t), vR y, vI (c (y + 8) ((40 * t) + k))], aq_h m s F c)) rfl rfl ?_
      refine ae_mul rfl (am_ri (by omega) (by omega)) ?_
      show am_E _ (64, [vR y, vI t, vI p, vL x, vU, vI k, v6], [vI (40 * t), vR (y + 7), vI (c (y + 5) t), vR y, vI (c (y + 8) ((40 * t) + k))], aq_h m s F c) _
      refine am_E.go (t2 := (66, [vR y, vI t, vI p, vL x, vU, vI k, v6], [vI k, vI (40 * t), vR (y + 7), vI (c (y + 5) t), vR y, vI (c (y + 8) ((40 * t) + k))], aq_h m s F c)) rfl rfl ?_
      refine ae_add rfl (am_ri (by omega) (by omega)) ?_
      show am_E _ (67, [vR y, vI t, vI p, vL x, vU, vI k, v6], [vI ((40 * t) + k), vR (y + 7), vI (c (y + 5) t), vR y, vI (c (y + 8) ((40 * t) + k))], aq_h m s F c) _
      refine aq_al (ok := fun k => k == 0) (v := vI (c (y + 7) ((40 * t) + k))) rfl rfl (by omega) hG7 rfl (by omega) (by omega) rfl ?_
      show am_E _ (68, [vR y, vI t, vI p, vL x, vU, vI k, v6], [vI (c (y + 7) ((40 * t) + k)), vI (c (y + 5) t), vR y, vI (c (y + 8) ((40 * t) + k))], aq_h m s F c) _
      have f_4 := hs (y + 7) (by omega) ((40 * t) + k)
      have f_4b := hu5t k (by omega) (by omega)
      refine aq_callv (y := 3) (as2 := [vI (c (y + 5) t), vI (c (y + 7) ((40 * t) + k))]) (rest := [vI (c (y + 8) ((40 * t) + k))]) rfl rfl (by decide) (Nat.le_of_ble_eq_true rfl) rfl rfl (Nat.le_of_ble_eq_true rfl) (by omega) hFo rfl (Nat.le_of_ble_eq_true rfl) (qm_rings (S := (fun a => a = y + 13)) ⟨hm, hFo, hG5, hG6, hG7, hG8, hG9, hG10, hG11, hG12, hG13, hG14, hG15, hG16, hG17, hG18, hG19, hG20, hG21, hG22, hG23⟩ rfl ⟨hT1, hTt⟩ (by omega) (by omega) (by omega) (by rw [hs (y + 5) (by omega)]; omega)) ?_
      rintro r5 h5 ⟨c_b, rfl, s_b, v_b, rfl, hv_b⟩
      show am_E _ (71, [vR y, vI t, vI p, vL x, vU, vI k, v6], [vI v_b, vI (c (y + 8) ((40 * t) + k))], aq_h m s F c_b) _
      refine am_E.go (t2 := (72, [vR y, vI t, vI p, vL x, vU, vI k, v6], [vI (am_w ((c (y + 8) ((40 * t) + k)) + v_b))], aq_h m s F c_b)) rfl rfl ?_
      refine am_E.go (t2 := (74, [vR y, vI t, vI p, vL x, vU, vI k, vI (am_w ((c (y + 8) ((40 * t) + k)) + v_b))], [], aq_h m s F c_b)) rfl rfl ?_
      refine am_E.go (t2 := (75, [vR y, vI t, vI p, vL x, vU, vI k, vI (am_w ((c (y + 8) ((40 * t) + k)) + v_b))], [vL x], aq_h m s F c_b)) rfl rfl ?_
      refine am_E.go (t2 := (77, [vR y, vI t, vI p, vL x, vU, vI k, vI (am_w ((c (y + 8) ((40 * t) + k)) + v_b))], [vI (am_w ((c (y + 8) ((40 * t) + k)) + v_b)), vL x], aq_h m s F c_b)) rfl rfl ?_
      refine am_E.go (t2 := (78, [vR y, vI t, vI p, vL x, vU, vI k, vI (am_w ((c (y + 8) ((40 * t) + k)) + v_b))], [vI p, vI (am_w ((c (y + 8) ((40 * t) + k)) + v_b)), vL x], aq_h m s F c_b)) rfl rfl ?_
      refine ae_icmp rfl (fun (q_5 : (am_w ((c (y + 8) ((40 * t) + k)) + v_b)) ≠ p) => ?_) (fun (q_5 : (am_w ((c (y + 8) ((40 * t) + k)) + v_b)) = p) => ?_)
      · refine am_E.go (t2 := (97, [vR y, vI t, vI p, vL x, vU, vI k, vI (am_w ((c (y + 8) ((40 * t) + k)) + v_b))], [vL 0, vL x], aq_h m s F c_b)) rfl rfl ?_
        refine am_E.go (t2 := (98, [vR y, vI t, vI p, vL x, vU, vI k, vI (am_w ((c (y + 8) ((40 * t) + k)) + v_b))], [vL (am_wl (x + 0))], aq_h m s F c_b)) rfl rfl ?_
        refine am_E.go (t2 := (99, [vR y, vI t, vI p, vL (am_wl (x + 0)), vU, vI k, vI (am_w ((c (y + 8) ((40 * t) + k)) + v_b))], [], aq_h m s F c_b)) rfl rfl ?_
        refine ae_iinc rfl rfl (am_ri (by omega) (by omega)) ?_
        show am_E _ (102, [vR y, vI t, vI p, vL (am_wl (x + 0)), vU, vI (k + 1), vI (am_w ((c (y + 8) ((40 * t) + k)) + v_b))], [], aq_h m s F c_b) _
        refine am_E.go (t2 := (26, [vR y, vI t, vI p, vL (am_wl (x + 0)), vU, vI (k + 1), vI (am_w ((c (y + 8) ((40 * t) + k)) + v_b))], [], aq_h m s F c_b)) rfl rfl ?_
        exact qk_closed_l ⟨hm, hFo, hG5, hG6, hG7, hG8, hG9, hG10, hG11, hG12, hG13, hG14, hG15, hG16, hG17, hG18, hG19, hG20, hG21, hG22, hG23⟩ ⟨hT1, hTt⟩ hI ht0 ht1 d (am_wl (x + 0)) (k + 1) (vI (am_w ((c (y + 8) ((40 * t) + k)) + v_b))) c_b (aq_smt hs s_b) (by omega) (by omega) (by omega)
      · refine am_E.go (t2 := (82, [vR y, vI t, vI p, vL x, vU, vI k, vI (am_w ((c (y + 8) ((40 * t) + k)) + v_b))], [vR y, vL x], aq_h m s F c_b)) rfl rfl ?_
        refine aq_gf (v := vR (y + 9)) rfl (by omega) hFo (by decide) rfl ?_
        show am_E _ (85, [vR y, vI t, vI p, vL x, vU, vI k, vI (am_w ((c (y + 8) ((40 * t) + k)) + v_b))], [vR (y + 9), vL x], aq_h m s F c_b) _
        refine am_E.go (t2 := (87, [vR y, vI t, vI p, vL x, vU, vI k, vI (am_w ((c (y + 8) ((40 * t) + k)) + v_b))], [vI 40, vR (y + 9), vL x], aq_h m s F c_b)) rfl rfl ?_
        refine am_E.go (t2 := (88, [vR y, vI t, vI p, vL x, vU, vI k, vI (am_w ((c (y + 8) ((40 * t) + k)) + v_b))], [vI t, vI 40, vR (y + 9), vL x], aq_h m s F c_b)) rfl rfl ?_
        refine ae_mul rfl (am_ri (by omega) (by omega)) ?_
        show am_E _ (89, [vR y, vI t, vI p, vL x, vU, vI k, vI (am_w ((c (y + 8) ((40 * t) + k)) + v_b))], [vI (40 * t), vR (y + 9), vL x], aq_h m s F c_b) _
        refine am_E.go (t2 := (91, [vR y, vI t, vI p, vL x, vU, vI k, vI (am_w ((c (y + 8) ((40 * t) + k)) + v_b))], [vI k, vI (40 * t), vR (y + 9), vL x], aq_h m s F c_b)) rfl rfl ?_
        refine ae_add rfl (am_ri (by omega) (by omega)) ?_
        show am_E _ (92, [vR y, vI t, vI p, vL x, vU, vI k, vI (am_w ((c (y + 8) ((40 * t) + k)) + v_b))], [vI ((40 * t) + k), vR (y + 9), vL x], aq_h m s F c_b) _
        refine aq_al (ok := fun k => k == 2) (v := vL (c_b (y + 9) ((40 * t) + k))) rfl rfl (by omega) hG9 rfl (by omega) (by omega) rfl ?_
        show am_E _ (93, [vR y, vI t, vI p, vL x, vU, vI k, vI (am_w ((c (y + 8) ((40 * t) + k)) + v_b))], [vL (c_b (y + 9) ((40 * t) + k)), vL x], aq_h m s F c_b) _
        refine am_E.go (t2 := (97, [vR y, vI t, vI p, vL x, vU, vI k, vI (am_w ((c (y + 8) ((40 * t) + k)) + v_b))], [vL (c_b (y + 9) ((40 * t) + k)), vL x], aq_h m s F c_b)) rfl rfl ?_
        refine am_E.go (t2 := (98, [vR y, vI t, vI p, vL x, vU, vI k, vI (am_w ((c (y + 8) ((40 * t) + k)) + v_b))], [vL (am_wl (x + (c_b (y + 9) ((40 * t) + k))))], aq_h m s F c_b)) rfl rfl ?_
        refine am_E.go (t2 := (99, [vR y, vI t, vI p, vL (am_wl (x + (c_b (y + 9) ((40 * t) + k)))), vU, vI k, vI (am_w ((c (y + 8) ((40 * t) + k)) + v_b))], [], aq_h m s F c_b)) rfl rfl ?_
        refine ae_iinc rfl rfl (am_ri (by omega) (by omega)) ?_
        show am_E _ (102, [vR y, vI t, vI p, vL (am_wl (x + (c_b (y + 9) ((40 * t) + k)))), vU, vI (k + 1), vI (am_w ((c (y + 8) ((40 * t) + k)) + v_b))], [], aq_h m s F c_b) _
        refine am_E.go (t2 := (26, [vR y, vI t, vI p, vL (am_wl (x + (c_b (y + 9) ((40 * t) + k)))), vU, vI (k + 1), vI (am_w ((c (y + 8) ((40 * t) + k)) + v_b))], [], aq_h m s F c_b)) rfl rfl ?_
        exact qk_closed_l ⟨hm, hFo, hG5, hG6, hG7, hG8, hG9, hG10, hG11, hG12, hG13, hG14, hG15, hG16, hG17, hG18, hG19, hG20, hG21, hG22, hG23⟩ ⟨hT1, hTt⟩ hI ht0 ht1 d (am_wl (x + (c_b (y + 9) ((40 * t) + k)))) (k + 1) (vI (am_w ((c (y + 8) ((40 * t) + k)) + v_b))) c_b (aq_smt hs s_b) (by omega) (by omega) (by omega)

theorem qk_X5_closed {m s : Nat} {F : aq_F} {c : aq_C} {y : Nat} (hC : mo_C m F y) (hI : mo_I y c) {t p : Int} : am_E ac_X5_closed (0, [vR y, vI t, vI p, vU, vU, vU, vU], [], aq_h m s F c) (aq_Z m s F (fun a => y ≤ a ∧ a < y + 24 ∧ a ≠ y + 10) c (fun r d => aq_vl r ∧ mo_I y d)) := by
  obtain ⟨⟨hm, hFo, hG5, hG6, hG7, hG8, hG9, hG10, hG11, hG12, hG13, hG14, hG15, hG16, hG17, hG18, hG19, hG20, hG21, hG22, hG23⟩, ⟨tbl, hT1, hTt⟩, ⟨tA, tB, tD, hL1, hL2, hL3, hLt⟩⟩ := hC
  refine am_E.go (t2 := (1, [vR y, vI t, vI p, vU, vU, vU, vU], [vI t], aq_h m s F c)) rfl rfl ?_
  refine am_E.call rfl rfl rfl (Nat.le_of_ble_eq_true rfl) (qm_isSum) ?_
  rintro r5 h5 ⟨rfl, v_1, rfl, hv_1⟩
  show am_E _ (4, [vR y, vI t, vI p, vU, vU, vU, vU], [vI v_1], aq_h m s F c) _
  refine ae_if0 rfl (fun (q_2 : v_1 = 0) => ?_) (fun (q_2 : v_1 ≠ 0) => ?_)
  · refine am_E.go (t2 := (20, [vR y, vI t, vI p, vU, vU, vU, vU], [vL 0], aq_h m s F c)) rfl rfl ?_
    refine am_E.ret rfl rfl ?_
    exact ⟨_, rfl, aq_smi (aq_sm0 (c := c) (S := (fun a => a = y + 13))) (fun a h => by omega), ⟨_, rfl⟩, mo_Is hI (aq_sm0 (c := c) (S := (fun a => a = y + 13))) (mo_ks mo_k0 (aq_sm0 (c := c) (S := (fun a => a = y + 13))) (by omega)) (by omega) (by omega) (by omega) (by omega) (by omega)⟩
  · refine am_E.go (t2 := (8, [vR y, vI t, vI p, vU, vU, vU, vU], [vI p], aq_h m s F c)) rfl rfl ?_
    refine am_E.go (t2 := (9, [vR y, vI t, vI p, vU, vU, vU, vU], [vL p], aq_h m s F c)) rfl rfl ?_
    refine am_E.go (t2 := (10, [vR y, vI t, vI p, vU, vU, vU, vU], [vL 0, vL p], aq_h m s F c)) rfl rfl ?_
    refine am_E.go (t2 := (13, [vR y, vI t, vI p, vU, vU, vU, vU], [vL 24, vL 0, vL p], aq_h m s F c)) rfl rfl ?_
    refine am_E.call rfl rfl rfl (Nat.le_of_ble_eq_true rfl) (qm_in) ?_
    rintro r5 h5 ⟨rfl, v_3, rfl, hv_3⟩
    show am_E _ (16, [vR y, vI t, vI p, vU, vU, vU, vU], [vI v_3], aq_h m s F c) _
    refine ae_if0 rfl (fun (q_4 : v_3 ≠ 0) => ?_) (fun (q_4 : v_3 = 0) => ?_)
    · have hu3t := (hI.2 t (by omega) (by omega)).2.2.1
      have hu4t := (hI.2 t (by omega) (by omega)).2.2.2.1
      refine am_E.go (t2 := (22, [vR y, vI t, vI p, vU, vU, vU, vU], [vL 0], aq_h m s F c)) rfl rfl ?_
      refine am_E.go (t2 := (23, [vR y, vI t, vI p, vL 0, vU, vU, vU], [], aq_h m s F c)) rfl rfl ?_
      refine am_E.go (t2 := (24, [vR y, vI t, vI p, vL 0, vU, vU, vU], [vI 0], aq_h m s F c)) rfl rfl ?_
      refine am_E.go (t2 := (26, [vR y, vI t, vI p, vL 0, vU, vI 0, vU], [], aq_h m s F c)) rfl rfl ?_
      exact qk_closed_l ⟨hm, hFo, hG5, hG6, hG7, hG8, hG9, hG10, hG11, hG12, hG13, hG14, hG15, hG16, hG17, hG18, hG19, hG20, hG21, hG22, hG23⟩ ⟨hT1, hTt⟩ hI (by omega) (by omega) 41 0 0 (vU) c (aq_sm0 (c := c) (S := (fun a => a = y + 13))) (by omega) (by have := (hI.2 t (by omega) (by omega)).2.2.1; omega) (by omega)
    · refine am_E.go (t2 := (20, [vR y, vI t, vI p, vU, vU, vU, vU], [vL 0], aq_h m s F c)) rfl rfl ?_
      refine am_E.ret rfl rfl ?_
      exact ⟨_, rfl, aq_smi (aq_sm0 (c := c) (S := (fun a => a = y + 13))) (fun a h => by omega), ⟨_, rfl⟩, mo_Is hI (aq_sm0 (c := c) (S := (fun a => a = y + 13))) (mo_ks mo_k0 (aq_sm0 (c := c) (S := (fun a => a = y + 13))) (by omega)) (by omega) (by omega) (by omega) (by omega) (by omega)⟩
theorem qk_work_a {m s : Nat} {F : aq_F} {c0 : aq_C} {y : Nat} (hO : mo_0 m F y) {tbl : Int → Int} (hT : mo_T F y tbl) (hI : mo_I y c0) {t u w nn sa : Int} (hs0 : 0 ≤ sa) (hs1 : sa < 8) (ht0 : 0 ≤ t) (ht1 : t < 8) (hu0 : 0 ≤ u) (hu1 : u < 8) (hnt : c0 (y + 5) t = nn) (hnu : c0 (y + 5) u = nn) : ∀ (d : Nat) (x : Int) (k : Int) (v8 : am_V) (v9 : am_V) (v10 : am_V) (v11 : am_V) (v12 : am_V) (v13 : am_V) (v14 : am_V) (v15 : am_V) (v16 : am_V) (c : aq_C) (hs : aq_sm (mo_S y) c0 c) (h0 : 0 ≤ k) (h1 : k ≤ c0 (y + 6) u) (hq : mo_q y c0 c) (hw : x = 0 ∨ (x = 1 ∧ mo_R y (bx_K nn) c)) (hd : c0 (y + 6) u - k < (d : Int)), am_E ac_X5_work (79, [vR y, vI sa, vI w, vI t, vI u, vI nn, vI x, vI k, v8, v9, v10, v11, v12, v13, v14, v15, v16], [], aq_h m s F c) (aq_Z m s F (fun a => y ≤ a ∧ a < y + 24 ∧ a ≠ y + 10) c0 (fun r d => aq_vi r ∧ mo_I y d))
  | 0, x, k, v8, v9, v10, v11, v12, v13, v14, v15, v16, c, hs, h0, h1, hq, hw, hd => by exfalso; omega
  | d + 1, x, k, v8, v9, v10, v11, v12, v13, v14, v15, v16, c, hs, h0, h1, hq, hw, hd => by
    obtain ⟨hm, hFo, hG5, hG6, hG7, hG8, hG9, hG10, hG11, hG12, hG13, hG14, hG15, hG16, hG17, hG18, hG19, hG20, hG21, hG22, hG23⟩ := hO
    obtain ⟨hT1, hTt⟩ := hT
    obtain ⟨hu1t, hu2t, hu3t, hu4t, hu5t⟩ := hI.2 t (by omega) (by omega)
    obtain ⟨hu1u, hu2u, hu3u, hu4u, hu5u⟩ := hI.2 u (by omega) (by omega)
    have hKt : bx_K (c0 (y + 5) t) = bx_K nn := by rw [hnt]
    have hKu : bx_K (c0 (y + 5) u) = bx_K nn := by rw [hnu]
    refine am_E.go (t2 := (81, [vR y, vI sa, vI w, vI t, vI u, vI nn, vI x, vI k, v8, v9, v10, v11, v12, v13, v14, v15, v16], [vI k], aq_h m s F c)) rfl rfl ?_
    refine am_E.go (t2 := (82, [vR y, vI sa, vI w, vI t, vI u, vI nn, vI x, vI k, v8, v9, v10, v11, v12, v13, v14, v15, v16], [vR y, vI k], aq_h m s F c)) rfl rfl ?_
    refine aq_gf (v := vR (y + 6)) rfl (by omega) hFo (by decide) rfl ?_
    show am_E _ (85, [vR y, vI sa, vI w, vI t, vI u, vI nn, vI x, vI k, v8, v9, v10, v11, v12, v13, v14, v15, v16], [vR (y + 6), vI k], aq_h m s F c) _
    refine am_E.go (t2 := (87, [vR y, vI sa, vI w, vI t, vI u, vI nn, vI x, vI k, v8, v9, v10, v11, v12, v13, v14, v15, v16], [vI u, vR (y + 6), vI k], aq_h m s F c)) rfl rfl ?_
    refine aq_al (ok := fun k => k == 0) (v := vI (c (y + 6) u)) rfl rfl (by omega) hG6 rfl (by omega) (by omega) rfl ?_
    show am_E _ (88, [vR y, vI sa, vI w, vI t, vI u, vI nn, vI x, vI k, v8, v9, v10, v11, v12, v13, v14, v15, v16], [vI (c (y + 6) u), vI k], aq_h m s F c) _
    have f_1 := hs (y + 6) (mo_n (by decide) (by decide)) u
    refine ae_icmp rfl (fun (q_2 : (c (y + 6) u) ≤ k) => ?_) (fun (q_2 : k < (c (y + 6) u)) => ?_)
    · refine am_E.go (t2 := (163, [vR y, vI sa, vI w, vI t, vI u, vI nn, vI x, vI k, v8, v9, v10, v11, v12, v13, v14, v15, v16], [vI x], aq_h m s F c)) rfl rfl ?_
      refine ae_if0 rfl (fun (q_3 : x = 0) => ?_) (fun (q_3 : x ≠ 0) => ?_)
      · refine am_E.go (t2 := (178, [vR y, vI sa, vI w, vI t, vI u, vI nn, vI x, vI k, v8, v9, v10, v11, v12, v13, v14, v15, v16], [vI (-5)], aq_h m s F c)) rfl rfl ?_
        refine am_E.ret rfl rfl ?_
        exact ⟨_, rfl, aq_smi hs (fun a h => mo_Sc h), ⟨_, rfl⟩, mo_Iw hI hs hq⟩
      · refine am_E.go (t2 := (167, [vR y, vI sa, vI w, vI t, vI u, vI nn, vI x, vI k, v8, v9, v10, v11, v12, v13, v14, v15, v16], [vR y], aq_h m s F c)) rfl rfl ?_
        refine am_E.go (t2 := (168, [vR y, vI sa, vI w, vI t, vI u, vI nn, vI x, vI k, v8, v9, v10, v11, v12, v13, v14, v15, v16], [vI sa, vR y], aq_h m s F c)) rfl rfl ?_
        refine am_E.go (t2 := (170, [vR y, vI sa, vI w, vI t, vI u, vI nn, vI x, vI k, v8, v9, v10, v11, v12, v13, v14, v15, v16], [vI nn, vI sa, vR y], aq_h m s F c)) rfl rfl ?_
        refine aq_callv (y := 3) (as2 := [vI sa, vI nn]) (rest := []) rfl rfl (by decide) (Nat.le_of_ble_eq_true rfl) rfl rfl (Nat.le_of_ble_eq_true rfl) (by omega) hFo rfl (Nat.le_of_ble_eq_true rfl) (qm_store ⟨hm, hFo, hG5, hG6, hG7, hG8, hG9, hG10, hG11, hG12, hG13, hG14, hG15, hG16, hG17, hG18, hG19, hG20, hG21, hG22, hG23⟩ (by omega) (by omega) (by omega) (by omega) (mo_Iw hI hs hq) (by rcases hw with h | h; exact absurd h (by omega); exact h.2)) ?_
        rintro r5 h5 ⟨c_b, rfl, s_b, rfl, hI_b⟩
        show am_E _ (173, [vR y, vI sa, vI w, vI t, vI u, vI nn, vI x, vI k, v8, v9, v10, v11, v12, v13, v14, v15, v16], [vI (c y 17)], aq_h m s F c_b) _
        refine am_E.go (t2 := (178, [vR y, vI sa, vI w, vI t, vI u, vI nn, vI x, vI k, v8, v9, v10, v11, v12, v13, v14, v15, v16], [vI (c y 17)], aq_h m s F c_b)) rfl rfl ?_
        refine am_E.ret rfl rfl ?_
        exact ⟨_, rfl, (aq_smt (aq_smi hs (fun a h => mo_Sc h)) (aq_smi s_b (fun a h => by omega))), ⟨_, rfl⟩, hI_b⟩
    · refine am_E.go (t2 := (93, [vR y, vI sa, vI w, vI t, vI u, vI nn, vI x, vI k, v8, v9, v10, v11, v12, v13, v14, v15, v16], [vI x], aq_h m s F c)) rfl rfl ?_
      refine ae_if0 rfl (fun (q_4 : x = 0) => ?_) (fun (q_4 : x ≠ 0) => ?_)
      · refine am_E.go (t2 := (163, [vR y, vI sa, vI w, vI t, vI u, vI nn, vI x, vI k, v8, v9, v10, v11, v12, v13, v14, v15, v16], [vI x], aq_h m s F c)) rfl rfl ?_
        refine ae_if0 rfl (fun (q_5 : x = 0) => ?_) (fun (q_5 : x ≠ 0) => ?_)
        · refine am_E.go (t2 := (178, [vR y, vI sa, vI w, vI t, vI u, vI nn, vI x, vI k, v8, v9, v10, v11, v12, v13, v14, v15, v16], [vI (-5)], aq_h m s F c)) rfl rfl ?_
          refine am_E.ret rfl rfl ?_
          exact ⟨_, rfl, aq_smi hs (fun a h => mo_Sc h), ⟨_, rfl⟩, mo_Iw hI hs hq⟩
        · refine am_E.go (t2 := (167, [vR y, vI sa, vI w, vI t, vI u, vI nn, vI x, vI k, v8, v9, v10, v11, v12, v13, v14, v15, v16], [vR y], aq_h m s F c)) rfl rfl ?_
          refine am_E.go (t2 := (168, [vR y, vI sa, vI w, vI t, vI u, vI nn, vI x, vI k, v8, v9, v10, v11, v12, v13, v14, v15, v16], [vI sa, vR y], aq_h m s F c)) rfl rfl ?_
          refine am_E.go (t2 := (170, [vR y, vI sa, vI w, vI t, vI u, vI nn, vI x, vI k, v8, v9, v10, v11, v12, v13, v14, v15, v16], [vI nn, vI sa, vR y], aq_h m s F c)) rfl rfl ?_
          refine aq_callv (y := 3) (as2 := [vI sa, vI nn]) (rest := []) rfl rfl (by decide) (Nat.le_of_ble_eq_true rfl) rfl rfl (Nat.le_of_ble_eq_true rfl) (by omega) hFo rfl (Nat.le_of_ble_eq_true rfl) (qm_store ⟨hm, hFo, hG5, hG6, hG7, hG8, hG9, hG10, hG11, hG12, hG13, hG14, hG15, hG16, hG17, hG18, hG19, hG20, hG21, hG22, hG23⟩ (by omega) (by omega) (by omega) (by omega) (mo_Iw hI hs hq) (by rcases hw with h | h; exact absurd h (by omega); exact h.2)) ?_
          rintro r5 h5 ⟨c_b, rfl, s_b, rfl, hI_b⟩
          show am_E _ (173, [vR y, vI sa, vI w, vI t, vI u, vI nn, vI x, vI k, v8, v9, v10, v11, v12, v13, v14, v15, v16], [vI (c y 17)], aq_h m s F c_b) _
          refine am_E.go (t2 := (178, [vR y, vI sa, vI w, vI t, vI u, vI nn, vI x, vI k, v8, v9, v10, v11, v12, v13, v14, v15, v16], [vI (c y 17)], aq_h m s F c_b)) rfl rfl ?_
          refine am_E.ret rfl rfl ?_
          exact ⟨_, rfl, (aq_smt (aq_smi hs (fun a h => mo_Sc h)) (aq_smi s_b (fun a h => by omega))), ⟨_, rfl⟩, hI_b⟩
      · have R_c : mo_R y (bx_K nn) c := by rcases hw with h | h; exact absurd h q_4; exact h.2
        refine am_E.go (t2 := (97, [vR y, vI sa, vI w, vI t, vI u, vI nn, vI x, vI k, v8, v9, v10, v11, v12, v13, v14, v15, v16], [vR y], aq_h m s F c)) rfl rfl ?_
        refine aq_gf (v := vR (y + 9)) rfl (by omega) hFo (by decide) rfl ?_
        show am_E _ (100, [vR y, vI sa, vI w, vI t, vI u, vI nn, vI x, vI k, v8, v9, v10, v11, v12, v13, v14, v15, v16], [vR (y + 9)], aq_h m s F c) _
        refine am_E.go (t2 := (102, [vR y, vI sa, vI w, vI t, vI u, vI nn, vI x, vI k, v8, v9, v10, v11, v12, v13, v14, v15, v16], [vI 40, vR (y + 9)], aq_h m s F c)) rfl rfl ?_
        refine am_E.go (t2 := (104, [vR y, vI sa, vI w, vI t, vI u, vI nn, vI x, vI k, v8, v9, v10, v11, v12, v13, v14, v15, v16], [vI u, vI 40, vR (y + 9)], aq_h m s F c)) rfl rfl ?_
        refine ae_mul rfl (am_ri (by omega) (by omega)) ?_
        show am_E _ (105, [vR y, vI sa, vI w, vI t, vI u, vI nn, vI x, vI k, v8, v9, v10, v11, v12, v13, v14, v15, v16], [vI (40 * u), vR (y + 9)], aq_h m s F c) _
        refine am_E.go (t2 := (107, [vR y, vI sa, vI w, vI t, vI u, vI nn, vI x, vI k, v8, v9, v10, v11, v12, v13, v14, v15, v16], [vI k, vI (40 * u), vR (y + 9)], aq_h m s F c)) rfl rfl ?_
        refine ae_add rfl (am_ri (by omega) (by omega)) ?_
        show am_E _ (108, [vR y, vI sa, vI w, vI t, vI u, vI nn, vI x, vI k, v8, v9, v10, v11, v12, v13, v14, v15, v16], [vI ((40 * u) + k), vR (y + 9)], aq_h m s F c) _
        refine aq_al (ok := fun k => k == 2) (v := vL (c (y + 9) ((40 * u) + k))) rfl rfl (by omega) hG9 rfl (by omega) (by omega) rfl ?_
        show am_E _ (109, [vR y, vI sa, vI w, vI t, vI u, vI nn, vI x, vI k, v8, v9, v10, v11, v12, v13, v14, v15, v16], [vL (c (y + 9) ((40 * u) + k))], aq_h m s F c) _
        have f_6 := hs (y + 9) (mo_n (by decide) (by decide)) ((40 * u) + k)
        have f_6b := hu5u k (by omega) (by omega)
        refine am_E.go (t2 := (111, [vR y, vI sa, vI w, vI t, vI u, vI nn, vI x, vI k, vL (c (y + 9) ((40 * u) + k)), vU, v10, v11, v12, v13, v14, v15, v16], [], aq_h m s F c)) rfl rfl ?_
        refine am_E.go (t2 := (112, [vR y, vI sa, vI w, vI t, vI u, vI nn, vI x, vI k, vL (c (y + 9) ((40 * u) + k)), vU, v10, v11, v12, v13, v14, v15, v16], [vR y], aq_h m s F c)) rfl rfl ?_
        refine am_E.go (t2 := (113, [vR y, vI sa, vI w, vI t, vI u, vI nn, vI x, vI k, vL (c (y + 9) ((40 * u) + k)), vU, v10, v11, v12, v13, v14, v15, v16], [vR y, vR y], aq_h m s F c)) rfl rfl ?_
        refine aq_gf (v := vR (y + 7)) rfl (by omega) hFo (by decide) rfl ?_
        show am_E _ (116, [vR y, vI sa, vI w, vI t, vI u, vI nn, vI x, vI k, vL (c (y + 9) ((40 * u) + k)), vU, v10, v11, v12, v13, v14, v15, v16], [vR (y + 7), vR y], aq_h m s F c) _
        refine am_E.go (t2 := (118, [vR y, vI sa, vI w, vI t, vI u, vI nn, vI x, vI k, vL (c (y + 9) ((40 * u) + k)), vU, v10, v11, v12, v13, v14, v15, v16], [vI 40, vR (y + 7), vR y], aq_h m s F c)) rfl rfl ?_
        refine am_E.go (t2 := (120, [vR y, vI sa, vI w, vI t, vI u, vI nn, vI x, vI k, vL (c (y + 9) ((40 * u) + k)), vU, v10, v11, v12, v13, v14, v15, v16], [vI u, vI 40, vR (y + 7), vR y], aq_h m s F c)) rfl rfl ?_
        refine ae_mul rfl (am_ri (by omega) (by omega)) ?_
        show am_E _ (121, [vR y, vI sa, vI w, vI t, vI u, vI nn, vI x, vI k, vL (c (y + 9) ((40 * u) + k)), vU, v10, v11, v12, v13, v14, v15, v16], [vI (40 * u), vR (y + 7), vR y], aq_h m s F c) _
        refine am_E.go (t2 := (123, [vR y, vI sa, vI w, vI t, vI u, vI nn, vI x, vI k, vL (c (y + 9) ((40 * u) + k)), vU, v10, v11, v12, v13, v14, v15, v16], [vI k, vI (40 * u), vR (y + 7), vR y], aq_h m s F c)) rfl rfl ?_
        refine ae_add rfl (am_ri (by omega) (by omega)) ?_
        show am_E _ (124, [vR y, vI sa, vI w, vI t, vI u, vI nn, vI x, vI k, vL (c (y + 9) ((40 * u) + k)), vU, v10, v11, v12, v13, v14, v15, v16], [vI ((40 * u) + k), vR (y + 7), vR y], aq_h m s F c) _
        refine aq_al (ok := fun k => k == 0) (v := vI (c (y + 7) ((40 * u) + k))) rfl rfl (by omega) hG7 rfl (by omega) (by omega) rfl ?_
        show am_E _ (125, [vR y, vI sa, vI w, vI t, vI u, vI nn, vI x, vI k, vL (c (y + 9) ((40 * u) + k)), vU, v10, v11, v12, v13, v14, v15, v16], [vI (c (y + 7) ((40 * u) + k)), vR y], aq_h m s F c) _
        have f_7 := hs (y + 7) (mo_n (by decide) (by decide)) ((40 * u) + k)
        have f_7b := hu5u k (by omega) (by omega)
        refine am_E.go (t2 := (126, [vR y, vI sa, vI w, vI t, vI u, vI nn, vI x, vI k, vL (c (y + 9) ((40 * u) + k)), vU, v10, v11, v12, v13, v14, v15, v16], [vR y, vI (c (y + 7) ((40 * u) + k)), vR y], aq_h m s F c)) rfl rfl ?_
        refine aq_gf (v := vR (y + 8)) rfl (by omega) hFo (by decide) rfl ?_
        show am_E _ (129, [vR y, vI sa, vI w, vI t, vI u, vI nn, vI x, vI k, vL (c (y + 9) ((40 * u) + k)), vU, v10, v11, v12, v13, v14, v15, v16], [vR (y + 8), vI (c (y + 7) ((40 * u) + k)), vR y], aq_h m s F c) _
        refine am_E.go (t2 := (131, [vR y, vI sa, vI w, vI t, vI u, vI nn, vI x, vI k, vL (c (y + 9) ((40 * u) + k)), vU, v10, v11, v12, v13, v14, v15, v16], [vI 40, vR (y + 8), vI (c (y + 7) ((40 * u) + k)), vR y], aq_h m s F c)) rfl rfl ?_
        refine am_E.go (t2 := (133, [vR y, vI sa, vI w, vI t, vI u, vI nn, vI x, vI k, vL (c (y + 9) ((40 * u) + k)), vU, v10, v11, v12, v13, v14, v15, v16], [vI u, vI 40, vR (y + 8), vI (c (y + 7) ((40 * u) + k)), vR y], aq_h m s F c)) rfl rfl ?_
        refine ae_mul rfl (am_ri (by omega) (by omega)) ?_
        show am_E _ (134, [vR y, vI sa, vI w, vI t, vI u, vI nn, vI x, vI k, vL (c (y + 9) ((40 * u) + k)), vU, v10, v11, v12, v13, v14, v15, v16], [vI (40 * u), vR (y + 8), vI (c (y + 7) ((40 * u) + k)), vR y], aq_h m s F c) _
        refine am_E.go (t2 := (136, [vR y, vI sa, vI w, vI t, vI u, vI nn, vI x, vI k, vL (c (y + 9) ((40 * u) + k)), vU, v10, v11, v12, v13, v14, v15, v16], [vI k, vI (40 * u), vR (y + 8), vI (c (y + 7) ((40 * u) + k)), vR y], aq_h m s F c)) rfl rfl ?_
        refine ae_add rfl (am_ri (by omega) (by omega)) ?_
        show am_E _ (137, [vR y, vI sa, vI w, vI t, vI u, vI nn, vI x, vI k, vL (c (y + 9) ((40 * u) + k)), vU, v10, v11, v12, v13, v14, v15, v16], [vI ((40 * u) + k), vR (y + 8), vI (c (y + 7) ((40 * u) + k)), vR y], aq_h m s F c) _
        refine aq_al (ok := fun k => k == 0) (v := vI (c (y + 8) ((40 * u) + k))) rfl rfl (by omega) hG8 rfl (by omega) (by omega) rfl ?_
        show am_E _ (138, [vR y, vI sa, vI w, vI t, vI u, vI nn, vI x, vI k, vL (c (y + 9) ((40 * u) + k)), vU, v10, v11, v12, v13, v14, v15, v16], [vI (c (y + 8) ((40 * u) + k)), vI (c (y + 7) ((40 * u) + k)), vR y], aq_h m s F c) _
        refine am_E.go (t2 := (139, [vR y, vI sa, vI w, vI t, vI u, vI nn, vI x, vI k, vL (c (y + 9) ((40 * u) + k)), vU, v10, v11, v12, v13, v14, v15, v16], [vI w, vI (c (y + 8) ((40 * u) + k)), vI (c (y + 7) ((40 * u) + k)), vR y], aq_h m s F c)) rfl rfl ?_
        refine ae_if0 rfl (fun (q_8 : w ≠ 0) => ?_) (fun (q_8 : w = 0) => ?_)
        · refine am_E.go (t2 := (149, [vR y, vI sa, vI w, vI t, vI u, vI nn, vI x, vI k, vL (c (y + 9) ((40 * u) + k)), vU, v10, v11, v12, v13, v14, v15, v16], [vL (c (y + 9) ((40 * u) + k)), vI (c (y + 8) ((40 * u) + k)), vI (c (y + 7) ((40 * u) + k)), vR y], aq_h m s F c)) rfl rfl ?_
          refine am_E.go (t2 := (150, [vR y, vI sa, vI w, vI t, vI u, vI nn, vI x, vI k, vL (c (y + 9) ((40 * u) + k)), vU, v10, v11, v12, v13, v14, v15, v16], [vL (am_wl (-(c (y + 9) ((40 * u) + k)))), vI (c (y + 8) ((40 * u) + k)), vI (c (y + 7) ((40 * u) + k)), vR y], aq_h m s F c)) rfl rfl ?_
          refine aq_callv (y := 4) (as2 := [vI (c (y + 7) ((40 * u) + k)), vI (c (y + 8) ((40 * u) + k)), vL (am_wl (-(c (y + 9) ((40 * u) + k))))]) (rest := []) rfl rfl (by decide) (Nat.le_of_ble_eq_true rfl) rfl rfl (Nat.le_of_ble_eq_true rfl) (by omega) hFo rfl (Nat.le_of_ble_eq_true rfl) (qm_comes ⟨hm, hFo, hG5, hG6, hG7, hG8, hG9, hG10, hG11, hG12, hG13, hG14, hG15, hG16, hG17, hG18, hG19, hG20, hG21, hG22, hG23⟩ (K := bx_K nn) (by omega) (by omega) R_c) ?_
          rintro r5 h5 ⟨c_k, rfl, s_k, v_k, rfl, hv_k, q_k, R_k⟩
          show am_E _ (153, [vR y, vI sa, vI w, vI t, vI u, vI nn, vI x, vI k, vL (c (y + 9) ((40 * u) + k)), vU, v10, v11, v12, v13, v14, v15, v16], [vI v_k], aq_h m s F c_k) _
          refine am_E.go (t2 := (155, [vR y, vI sa, vI w, vI t, vI u, vI nn, vI v_k, vI k, vL (c (y + 9) ((40 * u) + k)), vU, v10, v11, v12, v13, v14, v15, v16], [], aq_h m s F c_k)) rfl rfl ?_
          refine ae_iinc rfl rfl (am_ri (by omega) (by omega)) ?_
          show am_E _ (158, [vR y, vI sa, vI w, vI t, vI u, vI nn, vI v_k, vI (k + 1), vL (c (y + 9) ((40 * u) + k)), vU, v10, v11, v12, v13, v14, v15, v16], [], aq_h m s F c_k) _
          refine am_E.go (t2 := (79, [vR y, vI sa, vI w, vI t, vI u, vI nn, vI v_k, vI (k + 1), vL (c (y + 9) ((40 * u) + k)), vU, v10, v11, v12, v13, v14, v15, v16], [], aq_h m s F c_k)) rfl rfl ?_
          exact qk_work_a ⟨hm, hFo, hG5, hG6, hG7, hG8, hG9, hG10, hG11, hG12, hG13, hG14, hG15, hG16, hG17, hG18, hG19, hG20, hG21, hG22, hG23⟩ ⟨hT1, hTt⟩ hI hs0 hs1 ht0 ht1 hu0 hu1 hnt hnu d v_k (k + 1) (vL (c (y + 9) ((40 * u) + k))) (vU) (v10) (v11) (v12) (v13) (v14) (v15) (v16) c_k (aq_smt hs (aq_smi s_k (fun a h => mo_S3 h))) (by omega) (by omega) (mo_qt hq q_k) (by rcases hv_k with h | h; exact Or.inl h; exact Or.inr ⟨h, R_k h⟩) (by omega)
        · refine am_E.go (t2 := (144, [vR y, vI sa, vI w, vI t, vI u, vI nn, vI x, vI k, vL (c (y + 9) ((40 * u) + k)), vU, v10, v11, v12, v13, v14, v15, v16], [vL (c (y + 9) ((40 * u) + k)), vI (c (y + 8) ((40 * u) + k)), vI (c (y + 7) ((40 * u) + k)), vR y], aq_h m s F c)) rfl rfl ?_
          refine am_E.go (t2 := (150, [vR y, vI sa, vI w, vI t, vI u, vI nn, vI x, vI k, vL (c (y + 9) ((40 * u) + k)), vU, v10, v11, v12, v13, v14, v15, v16], [vL (c (y + 9) ((40 * u) + k)), vI (c (y + 8) ((40 * u) + k)), vI (c (y + 7) ((40 * u) + k)), vR y], aq_h m s F c)) rfl rfl ?_
          refine aq_callv (y := 4) (as2 := [vI (c (y + 7) ((40 * u) + k)), vI (c (y + 8) ((40 * u) + k)), vL (c (y + 9) ((40 * u) + k))]) (rest := []) rfl rfl (by decide) (Nat.le_of_ble_eq_true rfl) rfl rfl (Nat.le_of_ble_eq_true rfl) (by omega) hFo rfl (Nat.le_of_ble_eq_true rfl) (qm_comes ⟨hm, hFo, hG5, hG6, hG7, hG8, hG9, hG10, hG11, hG12, hG13, hG14, hG15, hG16, hG17, hG18, hG19, hG20, hG21, hG22, hG23⟩ (K := bx_K nn) (by omega) (by omega) R_c) ?_
          rintro r5 h5 ⟨c_k, rfl, s_k, v_k, rfl, hv_k, q_k, R_k⟩
          show am_E _ (153, [vR y, vI sa, vI w, vI t, vI u, vI nn, vI x, vI k, vL (c (y + 9) ((40 * u) + k)), vU, v10, v11, v12, v13, v14, v15, v16], [vI v_k], aq_h m s F c_k) _
          refine am_E.go (t2 := (155, [vR y, vI sa, vI w, vI t, vI u, vI nn, vI v_k, vI k, vL (c (y + 9) ((40 * u) + k)), vU, v10, v11, v12, v13, v14, v15, v16], [], aq_h m s F c_k)) rfl rfl ?_
          refine ae_iinc rfl rfl (am_ri (by omega) (by omega)) ?_
          show am_E _ (158, [vR y, vI sa, vI w, vI t, vI u, vI nn, vI v_k, vI (k + 1), vL (c (y + 9) ((40 * u) + k)), vU, v10, v11, v12, v13, v14, v15, v16], [], aq_h m s F c_k) _
          refine am_E.go (t2 := (79, [vR y, vI sa, vI w, vI t, vI u, vI nn, vI v_k, vI (k + 1), vL (c (y + 9) ((40 * u) + k)), vU, v10, v11, v12, v13, v14, v15, v16], [], aq_h m s F c_k)) rfl rfl ?_
          exact qk_work_a ⟨hm, hFo, hG5, hG6, hG7, hG8, hG9, hG10, hG11, hG12, hG13, hG14, hG15, hG16, hG17, hG18, hG19, hG20, hG21, hG22, hG23⟩ ⟨hT1, hTt⟩ hI hs0 hs1 ht0 ht1 hu0 hu1 hnt hnu d v_k (k + 1) (vL (c (y + 9) ((40 * u) + k))) (vU) (v10) (v11) (v12) (v13) (v14) (v15) (v16) c_k (aq_smt hs (aq_smi s_k (fun a h => mo_S3 h))) (by omega) (by omega) (mo_qt hq q_k) (by rcases hv_k with h | h; exact Or.inl h; exact Or.inr ⟨h, R_k h⟩) (by omega)

theorem qk_work_i {m s : Nat} {F : aq_F} {c0 : aq_C} {y : Nat} (hO : mo_0 m F y) {tbl : Int → Int} (hT : mo_T F y tbl) (hI : mo_I y c0) {t u w nn sa : Int} (hs0 : 0 ≤ sa) (hs1 : sa < 8) (ht0 : 0 ≤ t) (ht1 : t < 8) (hu0 : 0 ≤ u) (hu1 : u < 8) (hnt : c0 (y + 5) t = nn) (hnu : c0 (y + 5) u = nn) : ∀ (d : Nat) (x : Int) (i : Int) (k : Int) (v9 : am_V) (v10 : am_V) (v11 : am_V) (v12 : am_V) (v13 : am_V) (v14 : am_V) (v15 : am_V) (v16 : am_V) (c : aq_C) (hs : aq_sm (mo_S y) c0 c) (h0 : 0 ≤ k) (h1 : k ≤ c0 (y + 6) u) (h2 : 0 ≤ i) (h3 : i < c0 (y + 6) t) (hq : mo_q y c0 c) (hw : x = 0 ∨ (x = 1 ∧ mo_R y (bx_K nn) c)) (hd : c0 (y + 6) u - k < (d : Int)) (K0 : ∀ (x2 : Int) (k2 : Int) (v92 : am_V) (v102 : am_V) (v112 : am_V) (v122 : am_V) (v132 : am_V) (v142 : am_V) (v152 : am_V) (v162 : am_V) (c2 : aq_C) (hs2 : aq_sm (mo_S y) c0 c2) (hq2 : mo_q y c0 c2) (hw2 : x2 = 0 ∨ (x2 = 1 ∧ mo_R y (bx_K nn) c2)), am_E ac_X5_work (381, [vR y, vI sa, vI w, vI t, vI u, vI nn, vI x2, vI i, vI k2, v92, v102, v112, v122, v132, v142, v152, v162], [], aq_h m s F c2) (aq_Z m s F (fun a => y ≤ a ∧ a < y + 24 ∧ a ≠ y + 10) c0 (fun r d => aq_vi r ∧ mo_I y d))), am_E ac_X5_work (206, [vR y, vI sa, vI w, vI t, vI u, vI nn, vI x, vI i, vI k, v9, v10, v11, v12, v13, v14, v15, v16], [], aq_h m s F c) (aq_Z m s F (fun a => y ≤ a ∧ a < y + 24 ∧ a ≠ y + 10) c0 (fun r d => aq_vi r ∧ mo_I y d))
  | 0, x, i, k, v9, v10, v11, v12, v13, v14, v15, v16, c, hs, h0, h1, h2, h3, hq, hw, hd, K0 => by exfalso; omega
  | d + 1, x, i, k, v9, v10, v11, v12, v13, v14, v15, v16, c, hs, h0, h1, h2, h3, hq, hw, hd, K0 => by
    obtain ⟨hm, hFo, hG5, hG6, hG7, hG8, hG9, hG10, hG11, hG12, hG13, hG14, hG15, hG16, hG17, hG18, hG19, hG20, hG21, hG22, hG23⟩ := hO
    obtain ⟨hT1, hTt⟩ := hT
    obtain ⟨hu1t, hu2t, hu3t, hu4t, hu5t⟩ := hI.2 t (by omega) (by omega)
    obtain ⟨hu1u, hu2u, hu3u, hu4u, hu5u⟩ := hI.2 u (by omega) (by omega)
    have hKt : bx_K (c0 (y + 5) t) = bx_K nn := by rw [hnt]
    have hKu : bx_K (c0 (y + 5) u) = bx_K nn := by rw [hnu]
    refine am_E.go (t2 := (208, [vR y, vI sa, vI w, vI t, vI u, vI nn, vI x, vI i, vI k, v9, v10, v11, v12, v13, v14, v15, v16], [vI k], aq_h m s F c)) rfl rfl ?_
    refine am_E.go (t2 := (209, [vR y, vI sa, vI w, vI t, vI u, vI nn, vI x, vI i, vI k, v9, v10, v11, v12, v13, v14, v15, v16], [vR y, vI k], aq_h m s F c)) rfl rfl ?_
    refine aq_gf (v := vR (y + 6)) rfl (by omega) hFo (by decide) rfl ?_
    show am_E _ (212, [vR y, vI sa, vI w, vI t, vI u, vI nn, vI x, vI i, vI k, v9, v10, v11, v12, v13, v14, v15, v16], [vR (y + 6), vI k], aq_h m s F c) _
    refine am_E.go (t2 := (214, [vR y, vI sa, vI w, vI t, vI u, vI nn, vI x, vI i, vI k, v9, v10, v11, v12, v13, v14, v15, v16], [vI u, vR (y + 6), vI k], aq_h m s F c)) rfl rfl ?_
    refine aq_al (ok := fun k => k == 0) (v := vI (c (y + 6) u)) rfl rfl (by omega) hG6 rfl (by omega) (by omega) rfl ?_
    show am_E _ (215, [vR y, vI sa, vI w, vI t, vI u, vI nn, vI x, vI i, vI k, v9, v10, v11, v12, v13, v14, v15, v16], [vI (c (y + 6) u), vI k], aq_h m s F c) _
    have f_1 := hs (y + 6) (mo_n (by decide) (by decide)) u
    refine ae_icmp rfl (fun (q_2 : (c (y + 6) u) ≤ k) => ?_) (fun (q_2 : k < (c (y + 6) u)) => ?_)
    · exact K0 x k (v9) (v10) (v11) (v12) (v13) (v14) (v15) (v16) c hs hq hw
    · refine am_E.go (t2 := (220, [vR y, vI sa, vI w, vI t, vI u, vI nn, vI x, vI i, vI k, v9, v10, v11, v12, v13, v14, v15, v16], [vI x], aq_h m s F c)) rfl rfl ?_
      refine ae_if0 rfl (fun (q_3 : x = 0) => ?_) (fun (q_3 : x ≠ 0) => ?_)
      · exact K0 x k (v9) (v10) (v11) (v12) (v13) (v14) (v15) (v16) c hs hq hw
      · have R_c : mo_R y (bx_K nn) c := by rcases hw with h | h; exact absurd h q_3; exact h.2
        refine am_E.go (t2 := (224, [vR y, vI sa, vI w, vI t, vI u, vI nn, vI x, vI i, vI k, v9, v10, v11, v12, v13, v14, v15, v16], [vR y], aq_h m s F c)) rfl rfl ?_
        refine aq_gf (v := vR (y + 9)) rfl (by omega) hFo (by decide) rfl ?_
        show am_E _ (227, [vR y, vI sa, vI w, vI t, vI u, vI nn, vI x, vI i, vI k, v9, v10, v11, v12, v13, v14, v15, v16], [vR (y + 9)], aq_h m s F c) _
        refine am_E.go (t2 := (229, [vR y, vI sa, vI w, vI t, vI u, vI nn, vI x, vI i, vI k, v9, v10, v11, v12, v13, v14, v15, v16], [vI 40, vR (y + 9)], aq_h m s F c)) rfl rfl ?_
        refine am_E.go (t2 := (230, [vR y, vI sa, vI w, vI t, vI u, vI nn, vI x, vI i, vI k, v9, v10, v11, v12, v13, v14, v15, v16], [vI t, vI 40, vR (y + 9)], aq_h m s F c)) rfl rfl ?_
        refine ae_mul rfl (am_ri (by omega) (by omega)) ?_
        show am_E _ (231, [vR y, vI sa, vI w, vI t, vI u, vI nn, vI x, vI i, vI k, v9, v10, v11, v12, v13, v14, v15, v16], [vI (40 * t), vR (y + 9)], aq_h m s F c) _
        refine am_E.go (t2 := (233, [vR y, vI sa, vI w, vI t, vI u, vI nn, vI x, vI i, vI k, v9, v10, v11, v12, v13, v14, v15, v16], [vI i, vI (40 * t), vR (y + 9)], aq_h m s F c)) rfl rfl ?_
        refine ae_add rfl (am_ri (by omega) (by omega)) ?_
        show am_E _ (234, [vR y, vI sa, vI w, vI t, vI u, vI nn, vI x, vI i, vI k, v9, v10, v11, v12, v13, v14, v15, v16], [vI ((40 * t) + i), vR (y + 9)], aq_h m s F c) _
        refine aq_al (ok := fun k => k == 2) (v := vL (c (y + 9) ((40 * t) + i))) rfl rfl (by omega) hG9 rfl (by omega) (by omega) rfl ?_
        show am_E _ (235, [vR y, vI sa, vI w, vI t, vI u, vI nn, vI x, vI i, vI k, v9, v10, v11, v12, v13, v14, v15, v16], [vL (c (y + 9) ((40 * t) + i))], aq_h m s F c) _
        have f_4 := hs (y + 9) (mo_n (by decide) (by decide)) ((40 * t) + i)
        have f_4b := hu5t i (by omega) (by omega)
        refine am_E.go (t2 := (237, [vR y, vI sa, vI w, vI t, vI u, vI nn, vI x, vI i, vI k, vL (c (y + 9) ((40 * t) + i)), vU, v11, v12, v13, v14, v15, v16], [], aq_h m s F c)) rfl rfl ?_
        refine am_E.go (t2 := (238, [vR y, vI sa, vI w, vI t, vI u, vI nn, vI x, vI i, vI k, vL (c (y + 9) ((40 * t) + i)), vU, v11, v12, v13, v14, v15, v16], [vR y], aq_h m s F c)) rfl rfl ?_
        refine aq_gf (v := vR (y + 9)) rfl (by omega) hFo (by decide) rfl ?_
        show am_E _ (241, [vR y, vI sa, vI w, vI t, vI u, vI nn, vI x, vI i, vI k, vL (c (y + 9) ((40 * t) + i)), vU, v11, v12, v13, v14, v15, v16], [vR (y + 9)], aq_h m s F c) _
        refine am_E.go (t2 := (243, [vR y, vI sa, vI w, vI t, vI u, vI nn, vI x, vI i, vI k, vL (c (y + 9) ((40 * t) + i)), vU, v11, v12, v13, v14, v15, v16], [vI 40, vR (y + 9)], aq_h m s F c)) rfl rfl ?_
        refine am_E.go (t2 := (245, [vR y, vI sa, vI w, vI t, vI u, vI nn, vI x, vI i, vI k, vL (c (y + 9) ((40 * t) + i)), vU, v11, v12, v13, v14, v15, v16], [vI u, vI 40, vR (y + 9)], aq_h m s F c)) rfl rfl ?_
        refine ae_mul rfl (am_ri (by omega) (by omega)) ?_
        show am_E _ (246, [vR y, vI sa, vI w, vI t, vI u, vI nn, vI x, vI i, vI k, vL (c (y + 9) ((40 * t) + i)), vU, v11, v12, v13, v14, v15, v16], [vI (40 * u), vR (y + 9)], aq_h m s F c) _
        refine am_E.go (t2 := (248, [vR y, vI sa, vI w, vI t, vI u, vI nn, vI x, vI i, vI k, vL (c (y + 9) ((40 * t) + i)), vU, v11, v12, v13, v14, v15, v16], [vI k, vI (40 * u), vR (y + 9)], aq_h m s F c)) rfl rfl ?_
        refine ae_add rfl (am_ri (by omega) (by omega)) ?_
        show am_E _ (249, [vR y, vI sa, vI w, vI t, vI u, vI nn, vI x, vI i, vI k, vL (c (y + 9) ((40 * t) + i)), vU, v11, v12, v13, v14, v15, v16], [vI ((40 * u) + k), vR (y + 9)], aq_h m s F c) _
        refine aq_al (ok := fun k => k == 2) (v := vL (c (y + 9) ((40 * u) + k))) rfl rfl (by omega) hG9 rfl (by omega) (by omega) rfl ?_
        show am_E _ (250, [vR y, vI sa, vI w, vI t, vI u, vI nn, vI x, vI i, vI k, vL (c (y + 9) ((40 * t) + i)), vU, v11, v12, v13, v14, v15, v16], [vL (c (y + 9) ((40 * u) + k))], aq_h m s F c) _
        have f_5 := hs (y + 9) (mo_n (by decide) (by decide)) ((40 * u) + k)
        have f_5b := hu5u k (by omega) (by omega)
        refine am_E.go (t2 := (252, [vR y, vI sa, vI w, vI t, vI u, vI nn, vI x, vI i, vI k, vL (c (y + 9) ((40 * t) + i)), vU, vL (c (y + 9) ((40 * u) + k)), vU, v13, v14, v15, v16], [], aq_h m s F c)) rfl rfl ?_
        refine am_E.go (t2 := (255, [vR y, vI sa, vI w, vI t, vI u, vI nn, vI x, vI i, vI k, vL (c (y + 9) ((40 * t) + i)), vU, vL (c (y + 9) ((40 * u) + k)), vU, v13, v14, v15, v16], [vL 1000000000000], aq_h m s F c)) rfl rfl ?_
        refine am_E.go (t2 := (257, [vR y, vI sa, vI w, vI t, vI u, vI nn, vI x, vI i, vI k, vL (c (y + 9) ((40 * t) + i)), vU, vL (c (y + 9) ((40 * u) + k)), vU, v13, v14, v15, v16], [vL (c (y + 9) ((40 * u) + k)), vL 1000000000000], aq_h m s F c)) rfl rfl ?_
        refine am_E.go (t2 := (258, [vR y, vI sa, vI w, vI t, vI u, vI nn, vI x, vI i, vI k, vL (c (y + 9) ((40 * t) + i)), vU, vL (c (y + 9) ((40 * u) + k)), vU, v13, v14, v15, v16], [vL 0, vL (c (y + 9) ((40 * u) + k)), vL 1000000000000], aq_h m s F c)) rfl rfl ?_
        have ez_6 := am_lcf (c (y + 9) ((40 * u) + k)) 0
        refine am_E.go (t2 := (259, [vR y, vI sa, vI w, vI t, vI u, vI nn, vI x, vI i, vI k, vL (c (y + 9) ((40 * t) + i)), vU, vL (c (y + 9) ((40 * u) + k)), vU, v13, v14, v15, v16], [vI (if (c (y + 9) ((40 * u) + k)) < 0 then -1 else if (c (y + 9) ((40 * u) + k)) = 0 then 0 else 1), vL 1000000000000], aq_h m s F c)) rfl rfl ?_
        generalize (if (c (y + 9) ((40 * u) + k)) < 0 then -1 else if (c (y + 9) ((40 * u) + k)) = 0 then 0 else 1) = z_6 at ez_6 ⊢
        refine ae_if0 rfl (fun (q_7 : 0 ≤ z_6) => ?_) (fun (q_7 : z_6 < 0) => ?_)
        · refine am_E.go (t2 := (270, [vR y, vI sa, vI w, vI t, vI u, vI nn, vI x, vI i, vI k, vL (c (y + 9) ((40 * t) + i)), vU, vL (c (y + 9) ((40 * u) + k)), vU, v13, v14, v15, v16], [vL (c (y + 9) ((40 * u) + k)), vL 1000000000000], aq_h m s F c)) rfl rfl ?_
          refine ae_binl (z := am_wl ((1000000000000 : Int).tdiv (c (y + 9) ((40 * u) + k)))) rfl rfl (am_divl_s (by omega)) ?_
          show am_E _ (271, [vR y, vI sa, vI w, vI t, vI u, vI nn, vI x, vI i, vI k, vL (c (y + 9) ((40 * t) + i)), vU, vL (c (y + 9) ((40 * u) + k)), vU, v13, v14, v15, v16], [vL (am_wl ((1000000000000 : Int).tdiv (c (y + 9) ((40 * u) + k))))], aq_h m s F c) _
          refine am_E.go (t2 := (273, [vR y, vI sa, vI w, vI t, vI u, vI nn, vI x, vI i, vI k, vL (c (y + 9) ((40 * t) + i)), vU, vL (c (y + 9) ((40 * u) + k)), vU, vL (am_wl ((1000000000000 : Int).tdiv (c (y + 9) ((40 * u) + k)))), vU, v15, v16], [], aq_h m s F c)) rfl rfl ?_
          refine am_E.go (t2 := (274, [vR y, vI sa, vI w, vI t, vI u, vI nn, vI x, vI i, vI k, vL (c (y + 9) ((40 * t) + i)), vU, vL (c (y + 9) ((40 * u) + k)), vU, vL (am_wl ((1000000000000 : Int).tdiv (c (y + 9) ((40 * u) + k)))), vU, v15, v16], [vR y], aq_h m s F c)) rfl rfl ?_
          refine am_E.go (t2 := (276, [vR y, vI sa, vI w, vI t, vI u, vI nn, vI x, vI i, vI k, vL (c (y + 9) ((40 * t) + i)), vU, vL (c (y + 9) ((40 * u) + k)), vU, vL (am_wl ((1000000000000 : Int).tdiv (c (y + 9) ((40 * u) + k)))), vU, v15, v16], [vI nn, vR y], aq_h m s F c)) rfl rfl ?_
          refine am_E.go (t2 := (277, [vR y, vI sa, vI w, vI t, vI u, vI nn, vI x, vI i, vI k, vL (c (y + 9) ((40 * t) + i)), vU, vL (c (y + 9) ((40 * u) + k)), vU, vL (am_wl ((1000000000000 : Int).tdiv (c (y + 9) ((40 * u) + k)))), vU, v15, v16], [vR y, vI nn, vR y], aq_h m s F c)) rfl rfl ?_
          refine aq_gf (v := vR (y + 7)) rfl (by omega) hFo (by decide) rfl ?_
          show am_E _ (280, [vR y, vI sa, vI w, vI t, vI u, vI nn, vI x, vI i, vI k, vL (c (y + 9) ((40 * t) + i)), vU, vL (c (y + 9) ((40 * u) + k)), vU, vL (am_wl ((1000000000000 : Int).tdiv (c (y + 9) ((40 * u) + k)))), vU, v15, v16], [vR (y + 7), vI nn, vR y], aq_h m s F c) _
          refine am_E.go (t2 := (282, [vR y, vI sa, vI w, vI t, vI u, vI nn, vI x, vI i, vI k, vL (c (y + 9) ((40 * t) + i)), vU, vL (c (y + 9) ((40 * u) + k)), vU, vL (am_wl ((1000000000000 : Int).tdiv (c (y + 9) ((40 * u) + k)))), vU, v15, v16], [vI 40, vR (y + 7), vI nn, vR y], aq_h m s F c)) rfl rfl ?_
          refine am_E.go (t2 := (283, [vR y, vI sa, vI w, vI t, vI u, vI nn, vI x, vI i, vI k, vL (c (y + 9) ((40 * t) + i)), vU, vL (c (y + 9) ((40 * u) + k)), vU, vL (am_wl ((1000000000000 : Int).tdiv (c (y + 9) ((40 * u) + k)))), vU, v15, v16], [vI t, vI 40, vR (y + 7), vI nn, vR y], aq_h m s F c)) rfl rfl ?_
          refine ae_mul rfl (am_ri (by omega) (by omega)) ?_
          show am_E _ (284, [vR y, vI sa, vI w, vI t, vI u, vI nn, vI x, vI i, vI k, vL (c (y + 9) ((40 * t) + i)), vU, vL (c (y + 9) ((40 * u) + k)), vU, vL (am_wl ((1000000000000 : Int).tdiv (c (y + 9) ((40 * u) + k)))), vU, v15, v16], [vI (40 * t), vR (y + 7), vI nn, vR y], aq_h m s F c) _
          refine am_E.go (t2 := (286, [vR y, vI sa, vI w, vI t, vI u, vI nn, vI x, vI i, vI k, vL (c (y + 9) ((40 * t) + i)), vU, vL (c (y + 9) ((40 * u) + k)), vU, vL (am_wl ((1000000000000 : Int).tdiv (c (y + 9) ((40 * u) + k)))), vU, v15, v16], [vI i, vI (40 * t), vR (y + 7), vI nn, vR y], aq_h m s F c)) rfl rfl ?_
          refine ae_add rfl (am_ri (by omega) (by omega)) ?_
          show am_E _ (287, [vR y, vI sa, vI w, vI t, vI u, vI nn, vI x, vI i, vI k, vL (c (y + 9) ((40 * t) + i)), vU, vL (c (y + 9) ((40 * u) + k)), vU, vL (am_wl ((1000000000000 : Int).tdiv (c (y + 9) ((40 * u) + k)))), vU, v15, v16], [vI ((40 * t) + i), vR (y + 7), vI nn, vR y], aq_h m s F c) _
          refine aq_al (ok := fun k => k == 0) (v := vI (c (y + 7) ((40 * t) + i))) rfl rfl (by omega) hG7 rfl (by omega) (by omega) rfl ?_
          show am_E _ (288, [vR y, vI sa, vI w, vI t, vI u, vI nn, vI x, vI i, vI k, vL (c (y + 9) ((40 * t) + i)), vU, vL (c (y + 9) ((40 * u) + k)), vU, vL (am_wl ((1000000000000 : Int).tdiv (c (y + 9) ((40 * u) + k)))), vU, v15, v16], [vI (c (y + 7) ((40 * t) + i)), vI nn, vR y], aq_h m s F c) _
          have f_8 := hs (y + 7) (mo_n (by decide) (by decide)) ((40 * t) + i)
          have f_8b := hu5t i (by omega) (by omega)
          refine am_E.go (t2 := (289, [vR y, vI sa, vI w, vI t, vI u, vI nn, vI x, vI i, vI k, vL (c (y + 9) ((40 * t) + i)), vU, vL (c (y + 9) ((40 * u) + k)), vU, vL (am_wl ((1000000000000 : Int).tdiv (c (y + 9) ((40 * u) + k)))), vU, v15, v16], [vR y, vI (c (y + 7) ((40 * t) + i)), vI nn, vR y], aq_h m s F c)) rfl rfl ?_
          refine aq_gf (v := vR (y + 7)) rfl (by omega) hFo (by decide) rfl ?_
          show am_E _ (292, [vR y, vI sa, vI w, vI t, vI u, vI nn, vI x, vI i, vI k, vL (c (y + 9) ((40 * t) + i)), vU, vL (c (y + 9) ((40 * u) + k)), vU, vL (am_wl ((1000000000000 : Int).tdiv (c (y + 9) ((40 * u) + k)))), vU, v15, v16], [vR (y + 7), vI (c (y + 7) ((40 * t) + i)), vI nn, vR y], aq_h m s F c) _
          refine am_E.go (t2 := (294, [vR y, vI sa, vI w, vI t, vI u, vI nn, vI x, vI i, vI k, vL (c (y + 9) ((40 * t) + i)), vU, vL (c (y + 9) ((40 * u) + k)), vU, vL (am_wl ((1000000000000 : Int).tdiv (c (y + 9) ((40 * u) + k)))), vU, v15, v16], [vI 40, vR (y + 7), vI (c (y + 7) ((40 * t) + i)), vI nn, vR y], aq_h m s F c)) rfl rfl ?_
          refine am_E.go (t2 := (296, [vR y, vI sa, vI w, vI t, vI u, vI nn, vI x, vI i, vI k, vL (c (y + 9) ((40 * t) + i)), vU, vL (c (y + 9) ((40 * u) + k)), vU, vL (am_wl ((1000000000000 : Int).tdiv (c (y + 9) ((40 * u) + k)))), vU, v15, v16], [vI u, vI 40, vR (y + 7), vI (c (y + 7) ((40 * t) + i)), vI nn, vR y], aq_h m s F c)) rfl rfl ?_
          refine ae_mul rfl (am_ri (by omega) (by omega)) ?_
          show am_E _ (297, [vR y, vI sa, vI w, vI t, vI u, vI nn, vI x, vI i, vI k, vL (c (y + 9) ((40 * t) + i)), vU, vL (c (y + 9) ((40 * u) + k)), vU, vL (am_wl ((1000000000000 : Int).tdiv (c (y + 9) ((40 * u) + k)))), vU, v15, v16], [vI (40 * u), vR (y + 7), vI (c (y + 7) ((40 * t) + i)), vI nn, vR y], aq_h m s F c) _
          refine am_E.go (t2 := (299, [vR y, vI sa, vI w, vI t, vI u, vI nn, vI x, vI i, vI k, vL (c (y + 9) ((40 * t) + i)), vU, vL (c (y + 9) ((40 * u) + k)), vU, vL (am_wl ((1000000000000 : Int).tdiv (c (y + 9) ((40 * u) + k)))), vU, v15, v16], [vI k, vI (40 * u), vR (y + 7), vI (c (y + 7) ((40 * t) + i)), vI nn, vR y], aq_h m s F c)) rfl rfl ?_
          refine ae_add rfl (am_ri (by omega) (by omega)) ?_
          show am_E _ (300, [vR y, vI sa, vI w, vI t, vI u, vI nn, vI x, vI i, vI k, vL (c (y + 9) ((40 * t) + i)), vU, vL (c (y + 9) ((40 * u) + k)), vU, vL (am_wl ((1000000000000 : Int).tdiv (c (y + 9) ((40 * u) + k)))), vU, v15, v16], [vI ((40 * u) + k), vR (y + 7), vI (c (y + 7) ((40 * t) + i)), vI nn, vR y], aq_h m s F c) _
          refine aq_al (ok := fun k => k == 0) (v := vI (c (y + 7) ((40 * u) + k))) rfl rfl (by omega) hG7 rfl (by omega) (by omega) rfl ?_
          show am_E _ (301, [vR y, vI sa, vI w, vI t, vI u, vI nn, vI x, vI i, vI k, vL (c (y + 9) ((40 * t) + i)), vU, vL (c (y + 9) ((40 * u) + k)), vU, vL (am_wl ((1000000000000 : Int).tdiv (c (y + 9) ((40 * u) + k)))), vU, v15, v16], [vI (c (y + 7) ((40 * u) + k)), vI (c (y + 7) ((40 * t) + i)), vI nn, vR y], aq_h m s F c) _
          have f_9 := hs (y + 7) (mo_n (by decide) (by decide)) ((40 * u) + k)
          have f_9b := hu5u k (by omega) (by omega)
          refine aq_callv (y := 4) (as2 := [vI nn, vI (c (y + 7) ((40 * t) + i)), vI (c (y + 7) ((40 * u) + k))]) (rest := []) rfl rfl (by decide) (Nat.le_of_ble_eq_true rfl) rfl rfl (Nat.le_of_ble_eq_true rfl) (by omega) hFo rfl (Nat.le_of_ble_eq_true rfl) (qm_stacked (S := fun a => a = y ∨ a = y + 12 ∨ a = y + 13) ⟨hm, hFo, hG5, hG6, hG7, hG8, hG9, hG10, hG11, hG12, hG13, hG14, hG15, hG16, hG17, hG18, hG19, hG20, hG21, hG22, hG23⟩ (Or.inl rfl) (Or.inr (Or.inl rfl)) (Or.inr (Or.inr rfl)) ⟨hT1, hTt⟩ (by omega) (by omega) (by omega) (by omega) (by omega) (by omega)) ?_
          rintro r5 h5 ⟨c_t, rfl, s_t, v_t, rfl, hv1_t, hv2_t, hr1_t, hr2_t, hk_t, _⟩
          show am_E _ (304, [vR y, vI sa, vI w, vI t, vI u, vI nn, vI x, vI i, vI k, vL (c (y + 9) ((40 * t) + i)), vU, vL (c (y + 9) ((40 * u) + k)), vU, vL (am_wl ((1000000000000 : Int).tdiv (c (y + 9) ((40 * u) + k)))), vU, v15, v16], [vI v_t], aq_h m s F c_t) _
          have R_t : mo_R y (bx_K nn) c_t := mo_Rc hk_t.2.2 (s_t _ (by omega)) (s_t _ (by omega)) R_c
          refine am_E.go (t2 := (306, [vR y, vI sa, vI w, vI t, vI u, vI nn, vI x, vI i, vI k, vL (c (y + 9) ((40 * t) + i)), vU, vL (c (y + 9) ((40 * u) + k)), vU, vL (am_wl ((1000000000000 : Int).tdiv (c (y + 9) ((40 * u) + k)))), vU, vI v_t, v16], [], aq_h m s F c_t)) rfl rfl ?_
          refine am_E.go (t2 := (307, [vR y, vI sa, vI w, vI t, vI u, vI nn, vI x, vI i, vI k, vL (c (y + 9) ((40 * t) + i)), vU, vL (c (y + 9) ((40 * u) + k)), vU, vL (am_wl ((1000000000000 : Int).tdiv (c (y + 9) ((40 * u) + k)))), vU, vI v_t, v16], [vR y], aq_h m s F c_t)) rfl rfl ?_
          refine aq_gf (v := vR (y + 8)) rfl (by omega) hFo (by decide) rfl ?_
          show am_E _ (310, [vR y, vI sa, vI w, vI t, vI u, vI nn, vI x, vI i, vI k, vL (c (y + 9) ((40 * t) + i)), vU, vL (c (y + 9) ((40 * u) + k)), vU, vL (am_wl ((1000000000000 : Int).tdiv (c (y + 9) ((40 * u) + k)))), vU, vI v_t, v16], [vR (y + 8)], aq_h m s F c_t) _
          refine am_E.go (t2 := (312, [vR y, vI sa, vI w, vI t, vI u, vI nn, vI x, vI i, vI k, vL (c (y + 9) ((40 * t) + i)), vU, vL (c (y + 9) ((40 * u) + k)), vU, vL (am_wl ((1000000000000 : Int).tdiv (c (y + 9) ((40 * u) + k)))), vU, vI v_t, v16], [vI 40, vR (y + 8)], aq_h m s F c_t)) rfl rfl ?_
          refine am_E.go (t2 := (313, [vR y, vI sa, vI w, vI t, vI u, vI nn, vI x, vI i, vI k, vL (c (y + 9) ((40 * t) + i)), vU, vL (c (y + 9) ((40 * u) + k)), vU, vL (am_wl ((1000000000000 : Int).tdiv (c (y + 9) ((40 * u) + k)))), vU, vI v_t, v16], [vI t, vI 40, vR (y + 8)], aq_h m s F c_t)) rfl rfl ?_
          refine ae_mul rfl (am_ri (by omega) (by omega)) ?_
          show am_E _ (314, [vR y, vI sa, vI w, vI t, vI u, vI nn, vI x, vI i, vI k, vL (c (y + 9) ((40 * t) + i)), vU, vL (c (y + 9) ((40 * u) + k)), vU, vL (am_wl ((1000000000000 : Int).tdiv (c (y + 9) ((40 * u) + k)))), vU, vI v_t, v16], [vI (40 * t), vR (y + 8)], aq_h m s F c_t) _
          refine am_E.go (t2 := (316, [vR y, vI sa, vI w, vI t, vI u, vI nn, vI x, vI i, vI k, vL (c (y + 9) ((40 * t) + i)), vU, vL (c (y + 9) ((40 * u) + k)), vU, vL (am_wl ((1000000000000 : Int).tdiv (c (y + 9) ((40 * u) + k)))), vU, vI v_t, v16], [vI i, vI (40 * t), vR (y + 8)], aq_h m s F c_t)) rfl rfl ?_
          refine ae_add rfl (am_ri (by omega) (by omega)) ?_
          show am_E _ (317, [vR y, vI sa, vI w, vI t, vI u, vI nn, vI x, vI i, vI k, vL (c (y + 9) ((40 * t) + i)), vU, vL (c (y + 9) ((40 * u) + k)), vU, vL (am_wl ((1000000000000 : Int).tdiv (c (y + 9) ((40 * u) + k)))), vU, vI v_t, v16], [vI ((40 * t) + i), vR (y + 8)], aq_h m s F c_t) _
          refine aq_al (ok := fun k => k == 0) (v := vI (c_t (y + 8) ((40 * t) + i))) rfl rfl (by omega) hG8 rfl (by omega) (by omega) rfl ?_
          show am_E _ (318, [vR y, vI sa, vI w, vI t, vI u, vI nn, vI x, vI i, vI k, vL (c (y + 9) ((40 * t) + i)), vU, vL (c (y + 9) ((40 * u) + k)), vU, vL (am_wl ((1000000000000 : Int).tdiv (c (y + 9) ((40 * u) + k)))), vU, vI v_t, v16], [vI (c_t (y + 8) ((40 * t) + i))], aq_h m s F c_t) _
          refine am_E.go (t2 := (319, [vR y, vI sa, vI w, vI t, vI u, vI nn, vI x, vI i, vI k, vL (c (y + 9) ((40 * t) + i)), vU, vL (c (y + 9) ((40 * u) + k)), vU, vL (am_wl ((1000000000000 : Int).tdiv (c (y + 9) ((40 * u) + k)))), vU, vI v_t, v16], [vR y, vI (c_t (y + 8) ((40 * t) + i))], aq_h m s F c_t)) rfl rfl ?_
          refine aq_gf (v := vR (y + 8)) rfl (by omega) hFo (by decide) rfl ?_
          show am_E _ (322, [vR y, vI sa, vI w, vI t, vI u, vI nn, vI x, vI i, vI k, vL (c (y + 9) ((40 * t) + i)), vU, vL (c (y + 9) ((40 * u) + k)), vU, vL (am_wl ((1000000000000 : Int).tdiv (c (y + 9) ((40 * u) + k)))), vU, vI v_t, v16], [vR (y + 8), vI (c_t (y + 8) ((40 * t) + i))], aq_h m s F c_t) _
          refine am_E.go (t2 := (324, [vR y, vI sa, vI w, vI t, vI u, vI nn, vI x, vI i, vI k, vL (c (y + 9) ((40 * t) + i)), vU, vL (c (y + 9) ((40 * u) + k)), vU, vL (am_wl ((1000000000000 : Int).tdiv (c (y + 9) ((40 * u) + k)))), vU, vI v_t, v16], [vI 40, vR (y + 8), vI (c_t (y + 8) ((40 * t) + i))], aq_h m s F c_t)) rfl rfl ?_
          refine am_E.go (t2 := (326, [vR y, vI sa, vI w, vI t, vI u, vI nn, vI x, vI i, vI k, vL (c (y + 9) ((40 * t) + i)), vU, vL (c (y + 9) ((40 * u) + k)), vU, vL (am_wl ((1000000000000 : Int).tdiv (c (y + 9) ((40 * u) + k)))), vU, vI v_t, v16], [vI u, vI 40, vR (y + 8), vI (c_t (y + 8) ((40 * t) + i))], aq_h m s F c_t)) rfl rfl ?_
          refine ae_mul rfl (am_ri (by omega) (by omega)) ?_
          show am_E _ (327, [vR y, vI sa, vI w, vI t, vI u, vI nn, vI x, vI i, vI k, vL (c (y + 9) ((40 * t) + i)), vU, vL (c (y + 9) ((40 * u) + k)), vU, vL (am_wl ((1000000000000 : Int).tdiv (c (y + 9) ((40 * u) + k)))), vU, vI v_t, v16], [vI (40 * u), vR (y + 8), vI (c_t (y + 8) ((40 * t) + i))], aq_h m s F c_t) _
          refine am_E.go (t2 := (329, [vR y, vI sa, vI w, vI t, vI u, vI nn, vI x, vI i, vI k, vL (c (y + 9) ((40 * t) + i)), vU, vL (c (y + 9) ((40 * u) + k)), vU, vL (am_wl ((1000000000000 : Int).tdiv (c (y + 9) ((40 * u) + k)))), vU, vI v_t, v16], [vI k, vI (40 * u), vR (y + 8), vI (c_t (y + 8) ((40 * t) + i))], aq_h m s F c_t)) rfl rfl ?_
          refine ae_add rfl (am_ri (by omega) (by omega)) ?_
          show am_E _ (330, [vR y, vI sa, vI w, vI t, vI u, vI nn, vI x, vI i, vI k, vL (c (y + 9) ((40 * t) + i)), vU, vL (c (y + 9) ((40 * u) + k)), vU, vL (am_wl ((1000000000000 : Int).tdiv (c (y + 9) ((40 * u) + k)))), vU, vI v_t, v16], [vI ((40 * u) + k), vR (y + 8), vI (c_t (y + 8) ((40 * t) + i))], aq_h m s F c_t) _
          refine aq_al (ok := fun k => k == 0) (v := vI (c_t (y + 8) ((40 * u) + k))) rfl rfl (by omega) hG8 rfl (by omega) (by omega) rfl ?_
          show am_E _ (331, [vR y, vI sa, vI w, vI t, vI u, vI nn, vI x, vI i, vI k, vL (c (y + 9) ((40 * t) + i)), vU, vL (c (y + 9) ((40 * u) + k)), vU, vL (am_wl ((1000000000000 : Int).tdiv (c (y + 9) ((40 * u) + k)))), vU, vI v_t, v16], [vI (c_t (y + 8) ((40 * u) + k)), vI (c_t (y + 8) ((40 * t) + i))], aq_h m s F c_t) _
          refine am_E.go (t2 := (332, [vR y, vI sa, vI w, vI t, vI u, vI nn, vI x, vI i, vI k, vL (c (y + 9) ((40 * t) + i)), vU, vL (c (y + 9) ((40 * u) + k)), vU, vL (am_wl ((1000000000000 : Int).tdiv (c (y + 9) ((40 * u) + k)))), vU, vI v_t, v16], [vI (am_w ((c_t (y + 8) ((40 * t) + i)) + (c_t (y + 8) ((40 * u) + k))))], aq_h m s F c_t)) rfl rfl ?_
          refine am_E.go (t2 := (333, [vR y, vI sa, vI w, vI t, vI u, vI nn, vI x, vI i, vI k, vL (c (y + 9) ((40 * t) + i)), vU, vL (c (y + 9) ((40 * u) + k)), vU, vL (am_wl ((1000000000000 : Int).tdiv (c (y + 9) ((40 * u) + k)))), vU, vI v_t, v16], [vR y, vI (am_w ((c_t (y + 8) ((40 * t) + i)) + (c_t (y + 8) ((40 * u) + k))))], aq_h m s F c_t)) rfl rfl ?_
          refine aq_gf (v := vI (c_t y 15)) rfl (by omega) hFo (by decide) rfl ?_
          show am_E _ (336, [vR y, vI sa, vI w, vI t, vI u, vI nn, vI x, vI i, vI k, vL (c (y + 9) ((40 * t) + i)), vU, vL (c (y + 9) ((40 * u) + k)), vU, vL (am_wl ((1000000000000 : Int).tdiv (c (y + 9) ((40 * u) + k)))), vU, vI v_t, v16], [vI (c_t y 15), vI (am_w ((c_t (y + 8) ((40 * t) + i)) + (c_t (y + 8) ((40 * u) + k))))], aq_h m s F c_t) _
          skip
          refine am_E.go (t2 := (337, [vR y, vI sa, vI w, vI t, vI u, vI nn, vI x, vI i, vI k, vL (c (y + 9) ((40 * t) + i)), vU, vL (c (y + 9) ((40 * u) + k)), vU, vL (am_wl ((1000000000000 : Int).tdiv (c (y + 9) ((40 * u) + k)))), vU, vI v_t, v16], [vI (am_w ((am_w ((c_t (y + 8) ((40 * t) + i)) + (c_t (y + 8) ((40 * u) + k)))) + (c_t y 15)))], aq_h m s F c_t)) rfl rfl ?_
          refine am_E.go (t2 := (339, [vR y, vI sa, vI w, vI t, vI u, vI nn, vI x, vI i, vI k, vL (c (y + 9) ((40 * t) + i)), vU, vL (c (y + 9) ((40 * u) + k)), vU, vL (am_wl ((1000000000000 : Int).tdiv (c (y + 9) ((40 * u) + k)))), vU, vI v_t, vI (am_w ((am_w ((c_t (y + 8) ((40 * t) + i)) + (c_t (y + 8) ((40 * u) + k)))) + (c_t y 15)))], [], aq_h m s F c_t)) rfl rfl ?_
          refine am_E.go (t2 := (341, [vR y, vI sa, vI w, vI t, vI u, vI nn, vI x, vI i, vI k, vL (c (y + 9) ((40 * t) + i)), vU, vL (c (y + 9) ((40 * u) + k)), vU, vL (am_wl ((1000000000000 : Int).tdiv (c (y + 9) ((40 * u) + k)))), vU, vI v_t, vI (am_w ((am_w ((c_t (y + 8) ((40 * t) + i)) + (c_t (y + 8) ((40 * u) + k)))) + (c_t y 15)))], [vL (c (y + 9) ((40 * t) + i))], aq_h m s F c_t)) rfl rfl ?_
          refine am_E.go (t2 := (343, [vR y, vI sa, vI w, vI t, vI u, vI nn, vI x, vI i, vI k, vL (c (y + 9) ((40 * t) + i)), vU, vL (c (y + 9) ((40 * u) + k)), vU, vL (am_wl ((1000000000000 : Int).tdiv (c (y + 9) ((40 * u) + k)))), vU, vI v_t, vI (am_w ((am_w ((c_t (y + 8) ((40 * t) + i)) + (c_t (y + 8) ((40 * u) + k)))) + (c_t y 15)))], [vL (am_wl ((1000000000000 : Int).tdiv (c (y + 9) ((40 * u) + k)))), vL (c (y + 9) ((40 * t) + i))], aq_h m s F c_t)) rfl rfl ?_
          refine am_E.go (t2 := (344, [vR y, vI sa, vI w, vI t, vI u, vI nn, vI x, vI i, vI k, vL (c (y + 9) ((40 * t) + i)), vU, vL (c (y + 9) ((40 * u) + k)), vU, vL (am_wl ((1000000000000 : Int).tdiv (c (y + 9) ((40 * u) + k)))), vU, vI v_t, vI (am_w ((am_w ((c_t (y + 8) ((40 * t) + i)) + (c_t (y + 8) ((40 * u) + k)))) + (c_t y 15)))], [vL (am_wl (-(am_wl ((1000000000000 : Int).tdiv (c (y + 9) ((40 * u) + k)))))), vL (c (y + 9) ((40 * t) + i))], aq_h m s F c_t)) rfl rfl ?_
          refine am_E.go (t2 := (346, [vR y, vI sa, vI w, vI t, vI u, vI nn, vI x, vI i, vI k, vL (c (y + 9) ((40 * t) + i)), vU, vL (c (y + 9) ((40 * u) + k)), vU, vL (am_wl ((1000000000000 : Int).tdiv (c (y + 9) ((40 * u) + k)))), vU, vI v_t, vI (am_w ((am_w ((c_t (y + 8) ((40 * t) + i)) + (c_t (y + 8) ((40 * u) + k)))) + (c_t y 15)))], [vL (am_wl ((1000000000000 : Int).tdiv (c (y + 9) ((40 * u) + k)))), vL (am_wl (-(am_wl ((1000000000000 : Int).tdiv (c (y + 9) ((40 * u) + k)))))), vL (c (y + 9) ((40 * t) + i))], aq_h m s F c_t)) rfl rfl ?_
          refine am_E.call rfl rfl rfl (Nat.le_of_ble_eq_true rfl) (qm_in) ?_
          rintro r5 h5 ⟨rfl, v_11, rfl, hv_11⟩
          show am_E _ (349, [vR y, vI sa, vI w, vI t, vI u, vI nn, vI x, vI i, vI k, vL (c (y + 9) ((40 * t) + i)), vU, vL (c (y + 9) ((40 * u) + k)), vU, vL (am_wl ((1000000000000 : Int).tdiv (c (y + 9) ((40 * u) + k)))), vU, vI v_t, vI (am_w ((am_w ((c_t (y + 8) ((40 * t) + i)) + (c_t (y + 8) ((40 * u) + k)))) + (c_t y 15)))], [vI v_11], aq_h m s F c_t) _
          refine ae_if0 rfl (fun (q_12 : v_11 = 0) => ?_) (fun (q_12 : v_11 ≠ 0) => ?_)
          · refine am_E.go (t2 := (373, [vR y, vI sa, vI w, vI t, vI u, vI nn, vI x, vI i, vI k, vL (c (y + 9) ((40 * t) + i)), vU, vL (c (y + 9) ((40 * u) + k)), vU, vL (am_wl ((1000000000000 : Int).tdiv (c (y + 9) ((40 * u) + k)))), vU, vI v_t, vI (am_w ((am_w ((c_t (y + 8) ((40 * t) + i)) + (c_t (y + 8) ((40 * u) + k)))) + (c_t y 15)))], [vI 0], aq_h m s F c_t)) rfl rfl ?_
            refine am_E.go (t2 := (375, [vR y, vI sa, vI w, vI t, vI u, vI nn, vI 0, vI i, vI k, vL (c (y + 9) ((40 * t) + i)), vU, vL (c (y + 9) ((40 * u) + k)), vU, vL (am_wl ((1000000000000 : Int).tdiv (c (y + 9) ((40 * u) + k)))), vU, vI v_t, vI (am_w ((am_w ((c_t (y + 8) ((40 * t) + i)) + (c_t (y + 8) ((40 * u) + k)))) + (c_t y 15)))], [], aq_h m s F c_t)) rfl rfl ?_
            refine ae_iinc rfl rfl (am_ri (by omega) (by omega)) ?_
            show am_E _ (378, [vR y, vI sa, vI w, vI t, vI u, vI nn, vI 0, vI i, vI (k + 1), vL (c (y + 9) ((40 * t) + i)), vU, vL (c (y + 9) ((40 * u) + k)), vU, vL (am_wl ((1000000000000 : Int).tdiv (c (y + 9) ((40 * u) + k)))), vU, vI v_t, vI (am_w ((am_w ((c_t (y + 8) ((40 * t) + i)) + (c_t (y + 8) ((40 * u) + k)))) + (c_t y 15)))], [], aq_h m s F c_t) _
            refine am_E.go (t2 := (206, [vR y, vI sa, vI w, vI t, vI u, vI nn, vI 0, vI i, vI (k + 1), vL (c (y + 9) ((40 * t) + i)), vU, vL (c (y + 9) ((40 * u) + k)), vU, vL (am_wl ((1000000000000 : Int).tdiv (c (y + 9) ((40 * u) + k)))), vU, vI v_t, vI (am_w ((am_w ((c_t (y + 8) ((40 * t) + i)) + (c_t (y + 8) ((40 * u) + k)))) + (c_t y 15)))], [], aq_h m s F c_t)) rfl rfl ?_
            exact qk_work_i ⟨hm, hFo, hG5, hG6, hG7, hG8, hG9, hG10, hG11, hG12, hG13, hG14, hG15, hG16, hG17, hG18, hG19, hG20, hG21, hG22, hG23⟩ ⟨hT1, hTt⟩ hI hs0 hs1 ht0 ht1 hu0 hu1 hnt hnu d 0 i (k + 1) (vL (c (y + 9) ((40 * t) + i))) (vU) (vL (c (y + 9) ((40 * u) + k))) (vU) (vL (am_wl ((1000000000000 : Int).tdiv (c (y + 9) ((40 * u) + k))))) (vU) (vI v_t) (vI (am_w ((am_w ((c_t (y + 8) ((40 * t) + i)) + (c_t (y + 8) ((40 * u) + k)))) + (c_t y 15)))) c_t (aq_smt hs (aq_smi s_t (fun a h => by unfold mo_S; omega))) (by omega) (by omega) (by omega) (by omega) (mo_qt hq (mo_qk hk_t)) (Or.inl rfl) (by omega) K0
          · refine am_E.go (t2 := (353, [vR y, vI sa, vI w, vI t, vI u, vI nn, vI x, vI i, vI k, vL (c (y + 9) ((40 * t) + i)), vU, vL (c (y + 9) ((40 * u) + k)), vU, vL (am_wl ((1000000000000 : Int).tdiv (c (y + 9) ((40 * u) + k)))), vU, vI v_t, vI (am_w ((am_w ((c_t (y + 8) ((40 * t) + i)) + (c_t (y + 8) ((40 * u) + k)))) + (c_t y 15)))], [vR y], aq_h m s F c_t)) rfl rfl ?_
            refine am_E.go (t2 := (355, [vR y, vI sa, vI w, vI t, vI u, vI nn, vI x, vI i, vI k, vL (c (y + 9) ((40 * t) + i)), vU, vL (c (y + 9) ((40 * u) + k)), vU, vL (am_wl ((1000000000000 : Int).tdiv (c (y + 9) ((40 * u) + k)))), vU, vI v_t, vI (am_w ((am_w ((c_t (y + 8) ((40 * t) + i)) + (c_t (y + 8) ((40 * u) + k)))) + (c_t y 15)))], [vI v_t, vR y], aq_h m s F c_t)) rfl rfl ?_
            refine am_E.go (t2 := (357, [vR y, vI sa, vI w, vI t, vI u, vI nn, vI x, vI i, vI k, vL (c (y + 9) ((40 * t) + i)), vU, vL (c (y + 9) ((40 * u) + k)), vU, vL (am_wl ((1000000000000 : Int).tdiv (c (y + 9) ((40 * u) + k)))), vU, vI v_t, vI (am_w ((am_w ((c_t (y + 8) ((40 * t) + i)) + (c_t (y + 8) ((40 * u) + k)))) + (c_t y 15)))], [vI (am_w ((am_w ((c_t (y + 8) ((40 * t) + i)) + (c_t (y + 8) ((40 * u) + k)))) + (c_t y 15))), vI v_t, vR y], aq_h m s F c_t)) rfl rfl ?_
            refine am_E.go (t2 := (359, [vR y, vI sa, vI w, vI t, vI u, vI nn, vI x, vI i, vI k, vL (c (y + 9) ((40 * t) + i)), vU, vL (c (y + 9) ((40 * u) + k)), vU, vL (am_wl ((1000000000000 : Int).tdiv (c (y + 9) ((40 * u) + k)))), vU, vI v_t, vI (am_w ((am_w ((c_t (y + 8) ((40 * t) + i)) + (c_t (y + 8) ((40 * u) + k)))) + (c_t y 15)))], [vL (c (y + 9) ((40 * t) + i)), vI (am_w ((am_w ((c_t (y + 8) ((40 * t) + i)) + (c_t (y + 8) ((40 * u) + k)))) + (c_t y 15))), vI v_t, vR y], aq_h m s F c_t)) rfl rfl ?_
            refine am_E.go (t2 := (361, [vR y, vI sa, vI w, vI t, vI u, vI nn, vI x, vI i, vI k, vL (c (y + 9) ((40 * t) + i)), vU, vL (c (y + 9) ((40 * u) + k)), vU, vL (am_wl ((1000000000000 : Int).tdiv (c (y + 9) ((40 * u) + k)))), vU, vI v_t, vI (am_w ((am_w ((c_t (y + 8) ((40 * t) + i)) + (c_t (y + 8) ((40 * u) + k)))) + (c_t y 15)))], [vL (c (y + 9) ((40 * u) + k)), vL (c (y + 9) ((40 * t) + i)), vI (am_w ((am_w ((c_t (y + 8) ((40 * t) + i)) + (c_t (y + 8) ((40 * u) + k)))) + (c_t y 15))), vI v_t, vR y], aq_h m s F c_t)) rfl rfl ?_
            refine am_E.go (t2 := (362, [vR y, vI sa, vI w, vI t, vI u, vI nn, vI x, vI i, vI k, vL (c (y + 9) ((40 * t) + i)), vU, vL (c (y + 9) ((40 * u) + k)), vU, vL (am_wl ((1000000000000 : Int).tdiv (c (y + 9) ((40 * u) + k)))), vU, vI v_t, vI (am_w ((am_w ((c_t (y + 8) ((40 * t) + i)) + (c_t (y + 8) ((40 * u) + k)))) + (c_t y 15)))], [vL (am_wl ((c (y + 9) ((40 * t) + i)) * (c (y + 9) ((40 * u) + k)))), vI (am_w ((am_w ((c_t (y + 8) ((40 * t) + i)) + (c_t (y + 8) ((40 * u) + k)))) + (c_t y 15))), vI v_t, vR y], aq_h m s F c_t)) rfl rfl ?_
            refine aq_callv (y := 4) (as2 := [vI v_t, vI (am_w ((am_w ((c_t (y + 8) ((40 * t) + i)) + (c_t (y + 8) ((40 * u) + k)))) + (c_t y 15))), vL (am_wl ((c (y + 9) ((40 * t) + i)) * (c (y + 9) ((40 * u) + k))))]) (rest := []) rfl rfl (by decide) (Nat.le_of_ble_eq_true rfl) rfl rfl (Nat.le_of_ble_eq_true rfl) (by omega) hFo rfl (Nat.le_of_ble_eq_true rfl) (qm_comes ⟨hm, hFo, hG5, hG6, hG7, hG8, hG9, hG10, hG11, hG12, hG13, hG14, hG15, hG16, hG17, hG18, hG19, hG20, hG21, hG22, hG23⟩ (K := bx_K nn) (by omega) (by omega) R_t) ?_
            rintro r5 h5 ⟨c_k, rfl, s_k, v_k, rfl, hv_k, q_k, R_k⟩
            show am_E _ (365, [vR y, vI sa, vI w, vI t, vI u, vI nn, vI x, vI i, vI k, vL (c (y + 9) ((40 * t) + i)), vU, vL (c (y + 9) ((40 * u) + k)), vU, vL (am_wl ((1000000000000 : Int).tdiv (c (y + 9) ((40 * u) + k)))), vU, vI v_t, vI (am_w ((am_w ((c_t (y + 8) ((40 * t) + i)) + (c_t (y + 8) ((40 * u) + k)))) + (c_t y 15)))], [vI v_k], aq_h m s F c_k) _
            refine ae_if0 rfl (fun (q_13 : v_k = 0) => ?_) (fun (q_13 : v_k ≠ 0) => ?_)
            · refine am_E.go (t2 := (373, [vR y, vI sa, vI w, vI t, vI u, vI nn, vI x, vI i, vI k, vL (c (y + 9) ((40 * t) + i)), vU, vL (c (y + 9) ((40 * u) + k)), vU, vL (am_wl ((1000000000000 : Int).tdiv (c (y + 9) ((40 * u) + k)))), vU, vI v_t, vI (am_w ((am_w ((c_t (y + 8) ((40 * t) + i)) + (c_t (y + 8) ((40 * u) + k)))) + (c_t y 15)))], [vI 0], aq_h m s F c_k)) rfl rfl ?_
              refine am_E.go (t2 := (375, [vR y, vI sa, vI w, vI t, vI u, vI nn, vI 0, vI i, vI k, vL (c (y + 9) ((40 * t) + i)), vU, vL (c (y + 9) ((40 * u) + k)), vU, vL (am_wl ((1000000000000 : Int).tdiv (c (y + 9) ((40 * u) + k)))), vU, vI v_t, vI (am_w ((am_w ((c_t (y + 8) ((40 * t) + i)) + (c_t (y + 8) ((40 * u) + k)))) + (c_t y 15)))], [], aq_h m s F c_k)) rfl rfl ?_
              refine ae_iinc rfl rfl (am_ri (by omega) (by omega)) ?_
              show am_E _ (378, [vR y, vI sa, vI w, vI t, vI u, vI nn, vI 0, vI i, vI (k + 1), vL (c (y + 9) ((40 * t) + i)), vU, vL (c (y + 9) ((40 * u) + k)), vU, vL (am_wl ((1000000000000 : Int).tdiv (c (y + 9) ((40 * u) + k)))), vU, vI v_t, vI (am_w ((am_w ((c_t (y + 8) ((40 * t) + i)) + (c_t (y + 8) ((40 * u) + k)))) + (c_t y 15)))], [], aq_h m s F c_k) _
              refine am_E.go (t2 := (206, [vR y, vI sa, vI w, vI t, vI u, vI nn, vI 0, vI i, vI (k + 1), vL (c (y + 9) ((40 * t) + i)), vU, vL (c (y + 9) ((40 * u) + k)), vU, vL (am_wl ((1000000000000 : Int).tdiv (c (y + 9) ((40 * u) + k)))), vU, vI v_t, vI (am_w ((am_w ((c_t (y + 8) ((40 * t) + i)) + (c_t (y + 8) ((40 * u) + k)))) + (c_t y 15)))], [], aq_h m s F c_k)) rfl rfl ?_
              exact qk_work_i ⟨hm, hFo, hG5, hG6, hG7, hG8, hG9, hG10, hG11, hG12, hG13, hG14, hG15, hG16, hG17, hG18, hG19, hG20, hG21, hG22, hG23⟩ ⟨hT1, hTt⟩ hI hs0 hs1 ht0 ht1 hu0 hu1 hnt hnu d 0 i (k + 1) (vL (c (y + 9) ((40 * t) + i))) (vU) (vL (c (y + 9) ((40 * u) + k))) (vU) (vL (am_wl ((1000000000000 : Int).tdiv (c (y + 9) ((40 * u) + k))))) (vU) (vI v_t) (vI (am_w ((am_w ((c_t (y + 8) ((40 * t) + i)) + (c_t (y + 8) ((40 * u) + k)))) + (c_t y 15)))) c_k (aq_smt (aq_smt hs (aq_smi s_t (fun a h => by unfold mo_S; omega))) (aq_smi s_k (fun a h => mo_S3 h))) (by omega) (by omega) (by omega) (by omega) (mo_qt (mo_qt hq (mo_qk hk_t)) q_k) (Or.inl rfl) (by omega) K0
            · refine am_E.go (t2 := (369, [vR y, vI sa, vI w, vI t, vI u, vI nn, vI x, vI i, vI k, vL (c (y + 9) ((40 * t) + i)), vU, vL (c (y + 9) ((40 * u) + k)), vU, vL (am_wl ((1000000000000 : Int).tdiv (c (y + 9) ((40 * u) + k)))), vU, vI v_t, vI (am_w ((am_w ((c_t (y + 8) ((40 * t) + i)) + (c_t (y + 8) ((40 * u) + k)))) + (c_t y 15)))], [vI 1], aq_h m s F c_k)) rfl rfl ?_
              refine am_E.go (t2 := (373, [vR y, vI sa, vI w, vI t, vI u, vI nn, vI x, vI i, vI k, vL (c (y + 9) ((40 * t) + i)), vU, vL (c (y + 9) ((40 * u) + k)), vU, vL (am_wl ((1000000000000 : Int).tdiv (c (y + 9) ((40 * u) + k)))), vU, vI v_t, vI (am_w ((am_w ((c_t (y + 8) ((40 * t) + i)) + (c_t (y + 8) ((40 * u) + k)))) + (c_t y 15)))], [vI 1], aq_h m s F c_k)) rfl rfl ?_
              refine am_E.go (t2 := (375, [vR y, vI sa, vI w, vI t, vI u, vI nn, vI 1, vI i, vI k, vL (c (y + 9) ((40 * t) + i)), vU, vL (c (y + 9) ((40 * u) + k)), vU, vL (am_wl ((1000000000000 : Int).tdiv (c (y + 9) ((40 * u) + k)))), vU, vI v_t, vI (am_w ((am_w ((c_t (y + 8) ((40 * t) + i)) + (c_t (y + 8) ((40 * u) + k)))) + (c_t y 15)))], [], aq_h m s F c_k)) rfl rfl ?_
              refine ae_iinc rfl rfl (am_ri (by omega) (by omega)) ?_
              show am_E _ (378, [vR y, vI sa, vI w, vI t, vI u, vI nn, vI 1, vI i, vI (k + 1), vL (c (y + 9) ((40 * t) + i)), vU, vL (c (y + 9) ((40 * u) + k)), vU, vL (am_wl ((1000000000000 : Int).tdiv (c (y + 9) ((40 * u) + k)))), vU, vI v_t, vI (am_w ((am_w ((c_t (y + 8) ((40 * t) + i)) + (c_t (y + 8) ((40 * u) + k)))) + (c_t y 15)))], [], aq_h m s F c_k) _
              refine am_E.go (t2 := (206, [vR y, vI sa, vI w, vI t, vI u, vI nn, vI 1, vI i, vI (k + 1), vL (c (y + 9) ((40 * t) + i)), vU, vL (c (y + 9) ((40 * u) + k)), vU, vL (am_wl ((1000000000000 : Int).tdiv (c (y + 9) ((40 * u) + k)))), vU, vI v_t, vI (am_w ((am_w ((c_t (y + 8) ((40 * t) + i)) + (c_t (y + 8) ((40 * u) + k)))) + (c_t y 15)))], [], aq_h m s F c_k)) rfl rfl ?_
              exact qk_work_i ⟨hm, hFo, hG5, hG6, hG7, hG8, hG9, hG10, hG11, hG12, hG13, hG14, hG15, hG16, hG17, hG18, hG19, hG20, hG21, hG22, hG23⟩ ⟨hT1, hTt⟩ hI hs0 hs1 ht0 ht1 hu0 hu1 hnt hnu d 1 i (k + 1) (vL (c (y + 9) ((40 * t) + i))) (vU) (vL (c (y + 9) ((40 * u) + k))) (vU) (vL (am_wl ((1000000000000 : Int).tdiv (c (y + 9) ((40 * u) + k))))) (vU) (vI v_t) (vI (am_w ((am_w ((c_t (y + 8) ((40 * t) + i)) + (c_t (y + 8) ((40 * u) + k)))) + (c_t y 15)))) c_k (aq_smt (aq_smt hs (aq_smi s_t (fun a h => by unfold mo_S; omega))) (aq_smi s_k (fun a h => mo_S3 h))) (by omega) (by omega) (by omega) (by omega) (mo_qt (mo_qt hq (mo_qk hk_t)) q_k) (Or.inr ⟨rfl, R_k (by omega)⟩) (by omega) K0
        · refine am_E.go (t2 := (264, [vR y, vI sa, vI w, vI t, vI u, vI nn, vI x, vI i, vI k, vL (c (y + 9) ((40 * t) + i)), vU, vL (c (y + 9) ((40 * u) + k)), vU, v13, v14, v15, v16], [vL (c (y + 9) ((40 * u) + k)), vL 1000000000000], aq_h m s F c)) rfl rfl ?_
          refine am_E.go (t2 := (265, [vR y, vI sa, vI w, vI t, vI u, vI nn, vI x, vI i, vI k, vL (c (y + 9) ((40 * t) + i)), vU, vL (c (y + 9) ((40 * u) + k)), vU, v13, v14, v15, v16], [vL (am_wl (-(c (y + 9) ((40 * u) + k)))), vL 1000000000000], aq_h m s F c)) rfl rfl ?_
          refine am_E.go (t2 := (270, [vR y, vI sa, vI w, vI t, vI u, vI nn, vI x, vI i, vI k, vL (c (y + 9) ((40 * t) + i)), vU, vL (c (y + 9) ((40 * u) + k)), vU, v13, v14, v15, v16], [vL (am_wl (-(c (y + 9) ((40 * u) + k)))), vL 1000000000000], aq_h m s F c)) rfl rfl ?_
          refine ae_binl (z := am_wl ((1000000000000 : Int).tdiv (am_wl (-(c (y + 9) ((40 * u) + k)))))) rfl rfl (am_divl_s (by have := am_wl_id (x := -(c (y + 9) ((40 * u) + k))) (am_rl (by omega) (by omega)); omega)) ?_
          show am_E _ (271, [vR y, vI sa, vI w, vI t, vI u, vI nn, vI x, vI i, vI k, vL (c (y + 9) ((40 * t) + i)), vU, vL (c (y + 9) ((40 * u) + k)), vU, v13, v14, v15, v16], [vL (am_wl ((1000000000000 : Int).tdiv (am_wl (-(c (y + 9) ((40 * u) + k))))))], aq_h m s F c) _
          refine am_E.go (t2 := (273, [vR y, vI sa, vI w, vI t, vI u, vI nn, vI x, vI i, vI k, vL (c (y + 9) ((40 * t) + i)), vU, vL (c (y + 9) ((40 * u) + k)), vU, vL (am_wl ((1000000000000 : Int).tdiv (am_wl (-(c (y + 9) ((40 * u) + k)))))), vU, v15, v16], [], aq_h m s F c)) rfl rfl ?_
          refine am_E.go (t2 := (274, [vR y, vI sa, vI w, vI t, vI u, vI nn, vI x, vI i, vI k, vL (c (y + 9) ((40 * t) + i)), vU, vL (c (y + 9) ((40 * u) + k)), vU, vL (am_wl ((1000000000000 : Int).tdiv (am_wl (-(c (y + 9) ((40 * u) + k)))))), vU, v15, v16], [vR y], aq_h m s F c)) rfl rfl ?_
          refine am_E.go (t2 := (276, [vR y, vI sa, vI w, vI t, vI u, vI nn, vI x, vI i, vI k, vL (c (y + 9) ((40 * t) + i)), vU, vL (c (y + 9) ((40 * u) + k)), vU, vL (am_wl ((1000000000000 : Int).tdiv (am_wl (-(c (y + 9) ((40 * u) + k)))))), vU, v15, v16], [vI nn, vR y], aq_h m s F c)) rfl rfl ?_
          refine am_E.go (t2 := (277, [vR y, vI sa, vI w, vI t, vI u, vI nn, vI x, vI i, vI k, vL (c (y + 9) ((40 * t) + i)), vU, vL (c (y + 9) ((40 * u) + k)), vU, vL (am_wl ((1000000000000 : Int).tdiv (am_wl (-(c (y + 9) ((40 * u) + k)))))), vU, v15, v16], [vR y, vI nn, vR y], aq_h m s F c)) rfl rfl ?_
          refine aq_gf (v := vR (y + 7)) rfl (by omega) hFo (by decide) rfl ?_
          show am_E _ (280, [vR y, vI sa, vI w, vI t, vI u, vI nn, vI x, vI i, vI k, vL (c (y + 9) ((40 * t) + i)), vU, vL (c (y + 9) ((40 * u) + k)), vU, vL (am_wl ((1000000000000 : Int).tdiv (am_wl (-(c (y + 9) ((40 * u) + k)))))), vU, v15, v16], [vR (y + 7), vI nn, vR y], aq_h m s F c) _
          refine am_E.go (t2 := (282, [vR y, vI sa, vI w, vI t, vI u, vI nn, vI x, vI i, vI k, vL (c (y + 9) ((40 * t) + i)), vU, vL (c (y + 9) ((40 * u) + k)), vU, vL (am_wl ((1000000000000 : Int).tdiv (am_wl (-(c (y + 9) ((40 * u) + k)))))), vU, v15, v16], [vI 40, vR (y + 7), vI nn, vR y], aq_h m s F c)) rfl rfl ?_
          refine am_E.go (t2 := (283, [vR y, vI sa, vI w, vI t, vI u, vI nn, vI x, vI i, vI k, vL (c (y + 9) ((40 * t) + i)), vU, vL (c (y + 9) ((40 * u) + k)), vU, vL (am_wl ((1000000000000 : Int).tdiv (am_wl (-(c (y + 9) ((40 * u) + k)))))), vU, v15, v16], [vI t, vI 40, vR (y + 7), vI nn, vR y], aq_h m s F c)) rfl rfl ?_
          refine ae_mul rfl (am_ri (by omega) (by omega)) ?_
          show am_E _ (284, [vR y, vI sa, vI w, vI t, vI u, vI nn, vI x, vI i, vI k, vL (c (y + 9) ((40 * t) + i)), vU, vL (c (y + 9) ((40 * u) + k)), vU, vL (am_wl ((1000000000000 : Int).tdiv (am_wl (-(c (y + 9) ((40 * u) + k)))))), vU, v15, v16], [vI (40 * t), vR (y + 7), vI nn, vR y], aq_h m s F c) _
          refine am_E.go (t2 := (286, [vR y, vI sa, vI w, vI t, vI u, vI nn, vI x, vI i, vI k, vL (c (y + 9) ((40 * t) + i)), vU, vL (c (y + 9) ((40 * u) + k)), vU, vL (am_wl ((1000000000000 : Int).tdiv (am_wl (-(c (y + 9) ((40 * u) + k)))))), vU, v15, v16], [vI i, vI (40 * t), vR (y + 7), vI nn, vR y], aq_h m s F c)) rfl rfl ?_
          refine ae_add rfl (am_ri (by omega) (by omega)) ?_
          show am_E _ (287, [vR y, vI sa, vI w, vI t, vI u, vI nn, vI x, vI i, vI k, vL (c (y + 9) ((40 * t) + i)), vU, vL (c (y + 9) ((40 * u) + k)), vU, vL (am_wl ((1000000000000 : Int).tdiv (am_wl (-(c (y + 9) ((40 * u) + k)))))), vU, v15, v16], [vI ((40 * t) + i), vR (y + 7), vI nn, vR y], aq_h m s F c) _
          refine aq_al (ok := fun k => k == 0) (v := vI (c (y + 7) ((40 * t) + i))) rfl rfl (by omega) hG7 rfl (by omega) (by omega) rfl ?_
          show am_E _ (288, [vR y, vI sa, vI w, vI t, vI u, vI nn, vI x, vI i, vI k, vL (c (y + 9) ((40 * t) + i)), vU, vL (c (y + 9) ((40 * u) + k)), vU, vL (am_wl ((1000000000000 : Int).tdiv (am_wl (-(c (y + 9) ((40 * u) + k)))))), vU, v15, v16], [vI (c (y + 7) ((40 * t) + i)), vI nn, vR y], aq_h m s F c) _
          have f_14 := hs (y + 7) (mo_n (by decide) (by decide)) ((40 * t) + i)
          have f_14b := hu5t i (by omega) (by omega)
          refine am_E.go (t2 := (289, [vR y, vI sa, vI w, vI t, vI u, vI nn, vI x, vI i, vI k, vL (c (y + 9) ((40 * t) + i)), vU, vL (c (y + 9) ((40 * u) + k)), vU, vL (am_wl ((1000000000000 : Int).tdiv (am_wl (-(c (y + 9) ((40 * u) + k)))))), vU, v15, v16], [vR y, vI (c (y + 7) ((40 * t) + i)), vI nn, vR y], aq_h m s F c)) rfl rfl ?_
          refine aq_gf (v := vR (y + 7)) rfl (by omega) hFo (by decide) rfl ?_
          show am_E _ (292, [vR y, vI sa, vI w, vI t, vI u, vI nn, vI x, vI i, vI k, vL (c (y + 9) ((40 * t) + i)), vU, vL (c (y + 9) ((40 * u) + k)), vU, vL (am_wl ((1000000000000 : Int).tdiv (am_wl (-(c (y + 9) ((40 * u) + k)))))), vU, v15, v16], [vR (y + 7), vI (c (y + 7) ((40 * t) + i)), vI nn, vR y], aq_h m s F c) _
          refine am_E.go (t2 := (294, [vR y, vI sa, vI w, vI t, vI u, vI nn, vI x, vI i, vI k, vL (c (y + 9) ((40 * t) + i)), vU, vL (c (y + 9) ((40 * u) + k)), vU, vL (am_wl ((1000000000000 : Int).tdiv (am_wl (-(c (y + 9) ((40 * u) + k)))))), vU, v15, v16], [vI 40, vR (y + 7), vI (c (y + 7) ((40 * t) + i)), vI nn, vR y], aq_h m s F c)) rfl rfl ?_
          refine am_E.go (t2 := (296, [vR y, vI sa, vI w, vI t, vI u, vI nn, vI x, vI i, vI k, vL (c (y + 9) ((40 * t) + i)), vU, vL (c (y + 9) ((40 * u) + k)), vU, vL (am_wl ((1000000000000 : Int).tdiv (am_wl (-(c (y + 9) ((40 * u) + k)))))), vU, v15, v16], [vI u, vI 40, vR (y + 7), vI (c (y + 7) ((40 * t) + i)), vI nn, vR y], aq_h m s F c)) rfl rfl ?_
          refine ae_mul rfl (am_ri (by omega) (by omega)) ?_
          show am_E _ (297, [vR y, vI sa, vI w, vI t, vI u, vI nn, vI x, vI i, vI k, vL (c (y + 9) ((40 * t) + i)), vU, vL (c (y + 9) ((40 * u) + k)), vU, vL (am_wl ((1000000000000 : Int).tdiv (am_wl (-(c (y + 9) ((40 * u) + k)))))), vU, v15, v16], [vI (40 * u), vR (y + 7), vI (c (y + 7) ((40 * t) + i)), vI nn, vR y], aq_h m s F c) _
          refine am_E.go (t2 := (299, [vR y, vI sa, vI w, vI t, vI u, vI nn, vI x, vI i, vI k, vL (c (y + 9) ((40 * t) + i)), vU, vL (c (y + 9) ((40 * u) + k)), vU, vL (am_wl ((1000000000000 : Int).tdiv (am_wl (-(c (y + 9) ((40 * u) + k)))))), vU, v15, v16], [vI k, vI (40 * u), vR (y + 7), vI (c (y + 7) ((40 * t) + i)), vI nn, vR y], aq_h m s F c)) rfl rfl ?_
          refine ae_add rfl (am_ri (by omega) (by omega)) ?_
          show am_E _ (300, [vR y, vI sa, vI w, vI t, vI u, vI nn, vI x, vI i, vI k, vL (c (y + 9) ((40 * t) + i)), vU, vL (c (y + 9) ((40 * u) + k)), vU, vL (am_wl ((1000000000000 : Int).tdiv (am_wl (-(c (y + 9) ((40 * u) + k)))))), vU, v15, v16], [vI ((40 * u) + k), vR (y + 7), vI (c (y + 7) ((40 * t) + i)), vI nn, vR y], aq_h m s F c) _
          refine aq_al (ok := fun k => k == 0) (v := vI (c (y + 7) ((40 * u) + k))) rfl rfl (by omega) hG7 rfl (by omega) (by omega) rfl ?_
          show am_E _ (301, [vR y, vI sa, vI w, vI t, vI u, vI nn, vI x, vI i, vI k, vL (c (y + 9) ((40 * t) + i)), vU, vL (c (y + 9) ((40 * u) + k)), vU, vL (am_wl ((1000000000000 : Int).tdiv (am_wl (-(c (y + 9) ((40 * u) + k)))))), vU, v15, v16], [vI (c (y + 7) ((40 * u) + k)), vI (c (y + 7) ((40 * t) + i)), vI nn, vR y], aq_h m s F c) _
          have f_15 := hs (y + 7) (mo_n (by decide) (by decide)) ((40 * u) + k)
          have f_15b := hu5u k (by omega) (by omega)
          refine aq_callv (y := 4) (as2 := [vI nn, vI (c (y + 7) ((40 * t) + i)), vI (c (y + 7) ((40 * u) + k))]) (rest := []) rfl rfl (by decide) (Nat.le_of_ble_eq_true rfl) rfl rfl (Nat.le_of_ble_eq_true rfl) (by omega) hFo rfl (Nat.le_of_ble_eq_true rfl) (qm_stacked (S := fun a => a = y ∨ a = y + 12 ∨ a = y + 13) ⟨hm, hFo, hG5, hG6, hG7, hG8, hG9, hG10, hG11, hG12, hG13, hG14, hG15, hG16, hG17, hG18, hG19, hG20, hG21, hG22, hG23⟩ (Or.inl rfl) (Or.inr (Or.inl rfl)) (Or.inr (Or.inr rfl)) ⟨hT1, hTt⟩ (by omega) (by omega) (by omega) (by omega) (by omega) (by omega)) ?_
          rintro r5 h5 ⟨c_t, rfl, s_t, v_t, rfl, hv1_t, hv2_t, hr1_t, hr2_t, hk_t, _⟩
          show am_E _ (304, [vR y, vI sa, vI w, vI t, vI u, vI nn, vI x, vI i, vI k, vL (c (y + 9) ((40 * t) + i)), vU, vL (c (y + 9) ((40 * u) + k)), vU, vL (am_wl ((1000000000000 : Int).tdiv (am_wl (-(c (y + 9) ((40 * u) + k)))))), vU, v15, v16], [vI v_t], aq_h m s F c_t) _
          have R_t : mo_R y (bx_K nn) c_t := mo_Rc hk_t.2.2 (s_t _ (by omega)) (s_t _ (by omega)) R_c
          refine am_E.go (t2 := (306, [vR y, vI sa, vI w, vI t, vI u, vI nn, vI x, vI i, vI k, vL (c (y + 9) ((40 * t) + i)), vU, vL (c (y + 9) ((40 * u) + k)), vU, vL (am_wl ((1000000000000 : Int).tdiv (am_wl (-(c (y + 9) ((40 * u) + k)))))), vU, vI v_t, v16], [], aq_h m s F c_t)) rfl rfl ?_
          refine am_E.go (t2 := (307, [vR y, vI sa, vI w, vI t, vI u, vI nn, vI x, vI i, vI k, vL (c (y + 9) ((40 * t) + i)), vU, vL (c (y + 9) ((40 * u) + k)), vU, vL (am_wl ((1000000000000 : Int).tdiv (am_wl (-(c (y + 9) ((40 * u) + k)))))), vU, vI v_t, v16], [vR y], aq_h m s F c_t)) rfl rfl ?_
          refine aq_gf (v := vR (y + 8)) rfl (by omega) hFo (by decide) rfl ?_
          show am_E _ (310, [vR y, vI sa, vI w, vI t, vI u, vI nn, vI x, vI i, vI k, vL (c (y + 9) ((40 * t) + i)), vU, vL (c (y + 9) ((40 * u) + k)), vU, vL (am_wl ((1000000000000 : Int).tdiv (am_wl (-(c (y + 9) ((40 * u) + k)))))), vU, vI v_t, v16], [vR (y + 8)], aq_h m s F c_t) _
          refine am_E.go (t2 := (312, [vR y, vI sa, vI w, vI t, vI u, vI nn, vI x, vI i, vI k, vL (c (y + 9) ((40 * t) + i)), vU, vL (c (y + 9) ((40 * u) + k)), vU, vL (am_wl ((1000000000000 : Int).tdiv (am_wl (-(c (y + 9) ((40 * u) + k)))))), vU, vI v_t, v16], [vI 40, vR (y + 8)], aq_h m s F c_t)) rfl rfl ?_
          refine am_E.go (t2 := (313, [vR y, vI sa, vI w, vI t, vI u, vI nn, vI x, vI i, vI k, vL (c (y + 9) ((40 * t) + i)), vU, vL (c (y + 9) ((40 * u) + k)), vU, vL (am_wl ((1000000000000 : Int).tdiv (am_wl (-(c (y + 9) ((40 * u) + k)))))), vU, vI v_t, v16], [vI t, vI 40, vR (y + 8)], aq_h m s F c_t)) rfl rfl ?_
          refine ae_mul rfl (am_ri (by omega) (by omega)) ?_
          show am_E _ (314, [vR y, vI sa, vI w, vI t, vI u, vI nn, vI x, vI i, vI k, vL (c (y + 9) ((40 * t) + i)), vU, vL (c (y + 9) ((40 * u) + k)), vU, vL (am_wl ((1000000000000 : Int).tdiv (am_wl (-(c (y + 9) ((40 * u) + k)))))), vU, vI v_t, v16], [vI (40 * t), vR (y + 8)], aq_h m s F c_t) _
          refine am_E.go (t2 := (316, [vR y, vI sa, vI w, vI t, vI u, vI nn, vI x, vI i, vI k, vL (c (y + 9) ((40 * t) + i)), vU, vL (c (y + 9) ((40 * u) + k)), vU, vL (am_wl ((1000000000000 : Int).tdiv (am_wl (-(c (y + 9) ((40 * u) + k)))))), vU, vI v_t, v16], [vI i, vI (40 * t), vR (y + 8)], aq_h m s F c_t)) rfl rfl ?_
          refine ae_add rfl (am_ri (by omega) (by omega)) ?_
          show am_E _ (317, [vR y, vI sa, vI w, vI t, vI u, vI nn, vI x, vI i, vI k, vL (c (y + 9) ((40 * t) + i)), vU, vL (c (y + 9) ((40 * u) + k)), vU, vL (am_wl ((1000000000000 : Int).tdiv (am_wl (-(c (y + 9) ((40 * u) + k)))))), vU, vI v_t, v16], [vI ((40 * t) + i), vR (y + 8)], aq_h m s F c_t) _
          refine aq_al (ok := fun k => k == 0) (v := vI (c_t (y + 8) ((40 * t) + i))) rfl rfl (by omega) hG8 rfl (by omega) (by omega) rfl ?_
          show am_E _ (318, [vR y, vI sa, vI w, vI t, vI u, vI nn, vI x, vI i, vI k, vL (c (y + 9) ((40 * t) + i)), vU, vL (c (y + 9) ((40 * u) + k)), vU, vL (am_wl ((1000000000000 : Int).tdiv (am_wl (-(c (y + 9) ((40 * u) + k)))))), vU, vI v_t, v16], [vI (c_t (y + 8) ((40 * t) + i))], aq_h m s F c_t) _
          refine am_E.go (t2 := (319, [vR y, vI sa, vI w, vI t, vI u, vI nn, vI x, vI i, vI k, vL (c (y + 9) ((40 * t) + i)), vU, vL (c (y + 9) ((40 * u) + k)), vU, vL (am_wl ((1000000000000 : Int).tdiv (am_wl (-(c (y + 9) ((40 * u) + k)))))), vU, vI v_t, v16], [vR y, vI (c_t (y + 8) ((40 * t) + i))], aq_h m s F c_t)) rfl rfl ?_
          refine aq_gf (v := vR (y + 8)) rfl (by omega) hFo (by decide) rfl ?_
          show am_E _ (322, [vR y, vI sa, vI w, vI t, vI u, vI nn, vI x, vI i, vI k, vL (c (y + 9) ((40 * t) + i)), vU, vL (c (y + 9) ((40 * u) + k)), vU, vL (am_wl ((1000000000000 : Int).tdiv (am_wl (-(c (y + 9) ((40 * u) + k)))))), vU, vI v_t, v16], [vR (y + 8), vI (c_t (y + 8) ((40 * t) + i))], aq_h m s F c_t) _
          refine am_E.go (t2 := (324, [vR y, vI sa, vI w, vI t, vI u, vI nn, vI x, vI i, vI k, vL (c (y + 9) ((40 * t) + i)), vU, vL (c (y + 9) ((40 * u) + k)), vU, vL (am_wl ((1000000000000 : Int).tdiv (am_wl (-(c (y + 9) ((40 * u) + k)))))), vU, vI v_t, v16], [vI 40, vR (y + 8), vI (c_t (y + 8) ((40 * t) + i))], aq_h m s F c_t)) rfl rfl ?_
          refine am_E.go (t2 := (326, [vR y, vI sa, vI w, vI t, vI u, vI nn, vI x, vI i, vI k, vL (c (y + 9) ((40 * t) + i)), vU, vL (c (y + 9) ((40 * u) + k)), vU, vL (am_wl ((1000000000000 : Int).tdiv (am_wl (-(c (y + 9) ((40 * u) + k)))))), vU, vI v_t, v16], [vI u, vI 40, vR (y + 8), vI (c_t (y + 8) ((40 * t) + i))], aq_h m s F c_t)) rfl rfl ?_
          refine ae_mul rfl (am_ri (by omega) (by omega)) ?_
          show am_E _ (327, [vR y, vI sa, vI w, vI t, vI u, vI nn, vI x, vI i, vI k, vL (c (y + 9) ((40 * t) + i)), vU, vL (c (y + 9) ((40 * u) + k)), vU, vL (am_wl ((1000000000000 : Int).tdiv (am_wl (-(c (y + 9) ((40 * u) + k)))))), vU, vI v_t, v16], [vI (40 * u), vR (y + 8), vI (c_t (y + 8) ((40 * t) + i))], aq_h m s F c_t) _
          refine am_E.go (t2 := (329, [vR y, vI sa, vI w, vI t, vI u, vI nn, vI x, vI i, vI k, vL (c (y + 9) ((40 * t) + i)), vU, vL (c (y + 9) ((40 * u) + k)), vU, vL (am_wl ((1000000000000 : Int).tdiv (am_wl (-(c (y + 9) ((40 * u) + k)))))), vU, vI v_t, v16], [vI k, vI (40 * u), vR (y + 8), vI (c_t (y + 8) ((40 * t) + i))], aq_h m s F c_t)) rfl rfl ?_
          refine ae_add rfl (am_ri (by omega) (by omega)) ?_
          show am_E _ (330, [vR y, vI sa, vI w, vI t, vI u, vI nn, vI x, vI i, vI k, vL (c (y + 9) ((40 * t) + i)), vU, vL (c (y + 9) ((40 * u) + k)), vU, vL (am_wl ((1000000000000 : Int).tdiv (am_wl (-(c (y + 9) ((40 * u) + k)))))), vU, vI v_t, v16], [vI ((40 * u) + k), vR (y + 8), vI (c_t (y + 8) ((40 * t) + i))], aq_h m s F c_t) _
          refine aq_al (ok := fun k => k == 0) (v := vI (c_t (y + 8) ((40 * u) + k))) rfl rfl (by omega) hG8 rfl (by omega) (by omega) rfl ?_
          show am_E _ (331, [vR y, vI sa, vI w, vI t, vI u, vI nn, vI x, vI i, vI k, vL (c (y + 9) ((40 * t) + i)), vU, vL (c (y + 9) ((40 * u) + k)), vU, vL (am_wl ((1000000000000 : Int).tdiv (am_wl (-(c (y + 9) ((40 * u) + k)))))), vU, vI v_t, v16], [vI (c_t (y + 8) ((40 * u) + k)), vI (c_t (y + 8) ((40 * t) + i))], aq_h m s F c_t) _
          refine am_E.go (t2 := (332, [vR y, vI sa, vI w, vI t, vI u, vI nn, vI x, vI i, vI k, vL (c (y + 9) ((40 * t) + i)), vU, vL (c (y + 9) ((40 * u) + k)), vU, vL (am_wl ((1000000000000 : Int).tdiv (am_wl (-(c (y + 9) ((40 * u) + k)))))), vU, vI v_t, v16], [vI (am_w ((c_t (y + 8) ((40 * t) + i)) + (c_t (y + 8) ((40 * u) + k))))], aq_h m s F c_t)) rfl rfl ?_
          refine am_E.go (t2 := (333, [vR y, vI sa, vI w, vI t, vI u, vI nn, vI x, vI i, vI k, vL (c (y + 9) ((40 * t) + i)), vU, vL (c (y + 9) ((40 * u) + k)), vU, vL (am_wl ((1000000000000 : Int).tdiv (am_wl (-(c (y + 9) ((40 * u) + k)))))), vU, vI v_t, v16], [vR y, vI (am_w ((c_t (y + 8) ((40 * t) + i)) + (c_t (y + 8) ((40 * u) + k))))], aq_h m s F c_t)) rfl rfl ?_
          refine aq_gf (v := vI (c_t y 15)) rfl (by omega) hFo (by decide) rfl ?_
          show am_E _ (336, [vR y, vI sa, vI w, vI t, vI u, vI nn, vI x, vI i, vI k, vL (c (y + 9) ((40 * t) + i)), vU, vL (c (y + 9) ((40 * u) + k)), vU, vL (am_wl ((1000000000000 : Int).tdiv (am_wl (-(c (y + 9) ((40 * u) + k)))))), vU, vI v_t, v16], [vI (c_t y 15), vI (am_w ((c_t (y + 8) ((40 * t) + i)) + (c_t (y + 8) ((40 * u) + k))))], aq_h m s F c_t) _
          skip
          refine am_E.go (t2 := (337, [vR y, vI sa, vI w, vI t, vI u, vI nn, vI x, vI i, vI k, vL (c (y + 9) ((40 * t) + i)), vU, vL (c (y + 9) ((40 * u) + k)), vU, vL (am_wl ((1000000000000 : Int).tdiv (am_wl (-(c (y + 9) ((40 * u) + k)))))), vU, vI v_t, v16], [vI (am_w ((am_w ((c_t (y + 8) ((40 * t) + i)) + (c_t (y + 8) ((40 * u) + k)))) + (c_t y 15)))], aq_h m s F c_t)) rfl rfl ?_
          refine am_E.go (t2 := (339, [vR y, vI sa, vI w, vI t, vI u, vI nn, vI x, vI i, vI k, vL (c (y + 9) ((40 * t) + i)), vU, vL (c (y + 9) ((40 * u) + k)), vU, vL (am_wl ((1000000000000 : Int).tdiv (am_wl (-(c (y + 9) ((40 * u) + k)))))), vU, vI v_t, vI (am_w ((am_w ((c_t (y + 8) ((40 * t) + i)) + (c_t (y + 8) ((40 * u) + k)))) + (c_t y 15)))], [], aq_h m s F c_t)) rfl rfl ?_
          refine am_E.go (t2 := (341, [vR y, vI sa, vI w, vI t, vI u, vI nn, vI x, vI i, vI k, vL (c (y + 9) ((40 * t) + i)), vU, vL (c (y + 9) ((40 * u) + k)), vU, vL (am_wl ((1000000000000 : Int).tdiv (am_wl (-(c (y + 9) ((40 * u) + k)))))), vU, vI v_t, vI (am_w ((am_w ((c_t (y + 8) ((40 * t) + i)) + (c_t (y + 8) ((40 * u) + k)))) + (c_t y 15)))], [vL (c (y + 9) ((40 * t) + i))], aq_h m s F c_t)) rfl rfl ?_
          refine am_E.go (t2 := (343, [vR y, vI sa, vI w, vI t, vI u, vI nn, vI x, vI i, vI k, vL (c (y + 9) ((40 * t) + i)), vU, vL (c (y + 9) ((40 * u) + k)), vU, vL (am_wl ((1000000000000 : Int).tdiv (am_wl (-(c (y + 9) ((40 * u) + k)))))), vU, vI v_t, vI (am_w ((am_w ((c_t (y + 8) ((40 * t) + i)) + (c_t (y + 8) ((40 * u) + k)))) + (c_t y 15)))], [vL (am_wl ((1000000000000 : Int).tdiv (am_wl (-(c (y + 9) ((40 * u) + k)))))), vL (c (y + 9) ((40 * t) + i))], aq_h m s F c_t)) rfl rfl ?_
          refine am_E.go (t2 := (344, [vR y, vI sa, vI w, vI t, vI u, vI nn, vI x, vI i, vI k, vL (c (y + 9) ((40 * t) + i)), vU, vL (c (y + 9) ((40 * u) + k)), vU, vL (am_wl ((1000000000000 : Int).tdiv (am_wl (-(c (y + 9) ((40 * u) + k)))))), vU, vI v_t, vI (am_w ((am_w ((c_t (y + 8) ((40 * t) + i)) + (c_t (y + 8) ((40 * u) + k)))) + (c_t y 15)))], [vL (am_wl (-(am_wl ((1000000000000 : Int).tdiv (am_wl (-(c (y + 9) ((40 * u) + k)))))))), vL (c (y + 9) ((40 * t) + i))], aq_h m s F c_t)) rfl rfl ?_
          refine am_E.go (t2 := (346, [vR y, vI sa, vI w, vI t, vI u, vI nn, vI x, vI i, vI k, vL (c (y + 9) ((40 * t) + i)), vU, vL (c (y + 9) ((40 * u) + k)), vU, vL (am_wl ((1000000000000 : Int).tdiv (am_wl (-(c (y + 9) ((40 * u) + k)))))), vU, vI v_t, vI (am_w ((am_w ((c_t (y + 8) ((40 * t) + i)) + (c_t (y + 8) ((40 * u) + k)))) + (c_t y 15)))], [vL (am_wl ((1000000000000 : Int).tdiv (am_wl (-(c (y + 9) ((40 * u) + k)))))), vL (am_wl (-(am_wl ((1000000000000 : Int).tdiv (am_wl (-(c (y + 9) ((40 * u) + k)))))))), vL (c (y + 9) ((40 * t) + i))], aq_h m s F c_t)) rfl rfl ?_
          refine am_E.call rfl rfl rfl (Nat.le_of_ble_eq_true rfl) (qm_in) ?_
          rintro r5 h5 ⟨rfl, v_17, rfl, hv_17⟩
          show am_E _ (349, [vR y, vI sa, vI w, vI t, vI u, vI nn, vI x, vI i, vI k, vL (c (y + 9) ((40 * t) + i)), vU, vL (c (y + 9) ((40 * u) + k)), vU, vL (am_wl ((1000000000000 : Int).tdiv (am_wl (-(c (y + 9) ((40 * u) + k)))))), vU, vI v_t, vI (am_w ((am_w ((c_t (y + 8) ((40 * t) + i)) + (c_t (y + 8) ((40 * u) + k)))) + (c_t y 15)))], [vI v_17], aq_h m s F c_t) _
          refine ae_if0 rfl (fun (q_18 : v_17 = 0) => ?_) (fun (q_18 : v_17 ≠ 0) => ?_)
          · refine am_E.go (t2 := (373, [vR y, vI sa, vI w, vI t, vI u, vI nn, vI x, vI i, vI k, vL (c (y + 9) ((40 * t) + i)), vU, vL (c (y + 9) ((40 * u) + k)), vU, vL (am_wl ((1000000000000 : Int).tdiv (am_wl (-(c (y + 9) ((40 * u) + k)))))), vU, vI v_t, vI (am_w ((am_w ((c_t (y + 8) ((40 * t) + i)) + (c_t (y + 8) ((40 * u) + k)))) + (c_t y 15)))], [vI 0], aq_h m s F c_t)) rfl rfl ?_
            refine am_E.go (t2 := (375, [vR y, vI sa, vI w, vI t, vI u, vI nn, vI 0, vI i, vI k, vL (c (y + 9) ((40 * t) + i)), vU, vL (c (y + 9) ((40 * u) + k)), vU, vL (am_wl ((1000000000000 : Int).tdiv (am_wl (-(c (y + 9) ((40 * u) + k)))))), vU, vI v_t, vI (am_w ((am_w ((c_t (y + 8) ((40 * t) + i)) + (c_t (y + 8) ((40 * u) + k)))) + (c_t y 15)))], [], aq_h m s F c_t)) rfl rfl ?_
            refine ae_iinc rfl rfl (am_ri (by omega) (by omega)) ?_
            show am_E _ (378, [vR y, vI sa, vI w, vI t, vI u, vI nn, vI 0, vI i, vI (k + 1), vL (c (y + 9) ((40 * t) + i)), vU, vL (c (y + 9) ((40 * u) + k)), vU, vL (am_wl ((1000000000000 : Int).tdiv (am_wl (-(c (y + 9) ((40 * u) + k)))))), vU, vI v_t, vI (am_w ((am_w ((c_t (y + 8) ((40 * t) + i)) + (c_t (y + 8) ((40 * u) + k)))) + (c_t y 15)))], [], aq_h m s F c_t) _
            refine am_E.go (t2 := (206, [vR y, vI sa, vI w, vI t, vI u, vI nn, vI 0, vI i, vI (k + 1), vL (c (y + 9) ((40 * t) + i)), vU, vL (c (y + 9) ((40 * u) + k)), vU, vL (am_wl ((1000000000000 : Int).tdiv (am_wl (-(c (y + 9) ((40 * u) + k)))))), vU, vI v_t, vI (am_w ((am_w ((c_t (y + 8) ((40 * t) + i)) + (c_t (y + 8) ((40 * u) + k)))) + (c_t y 15)))], [], aq_h m s F c_t)) rfl rfl ?_
            exact qk_work_i ⟨hm, hFo, hG5, hG6, hG7, hG8, hG9, hG10, hG11, hG12, hG13, hG14, hG15, hG16, hG17, hG18, hG19, hG20, hG21, hG22, hG23⟩ ⟨hT1, hTt⟩ hI hs0 hs1 ht0 ht1 hu0 hu1 hnt hnu d 0 i (k + 1) (vL (c (y + 9) ((40 * t) + i))) (vU) (vL (c (y + 9) ((40 * u) + k))) (vU) (vL (am_wl ((1000000000000 : Int).tdiv (am_wl (-(c (y + 9) ((40 * u) + k))))))) (vU) (vI v_t) (vI (am_w ((am_w ((c_t (y + 8) ((40 * t) + i)) + (c_t (y + 8) ((40 * u) + k)))) + (c_t y 15)))) c_t (aq_smt hs (aq_smi s_t (fun a h => by unfold mo_S; omega))) (by omega) (by omega) (by omega) (by omega) (mo_qt hq (mo_qk hk_t)) (Or.inl rfl) (by omega) K0
          · refine am_E.go (t2 := (353, [vR y, vI sa, vI w, vI t, vI u, vI nn, vI x, vI i, vI k, vL (c (y + 9) ((40 * t) + i)), vU, vL (c (y + 9) ((40 * u) + k)), vU, vL (am_wl ((1000000000000 : Int).tdiv (am_wl (-(c (y + 9) ((40 * u) + k)))))), vU, vI v_t, vI (am_w ((am_w ((c_t (y + 8) ((40 * t) + i)) + (c_t (y + 8) ((40 * u) + k)))) + (c_t y 15)))], [vR y], aq_h m s F c_t)) rfl rfl ?_
            refine am_E.go (t2 := (355, [vR y, vI sa, vI w, vI t, vI u, vI nn, vI x, vI i, vI k, vL (c (y + 9) ((40 * t) + i)), vU, vL (c (y + 9) ((40 * u) + k)), vU, vL (am_wl ((1000000000000 : Int).tdiv (am_wl (-(c (y + 9) ((40 * u) + k)))))), vU, vI v_t, vI (am_w ((am_w ((c_t (y + 8) ((40 * t) + i)) + (c_t (y + 8) ((40 * u) + k)))) + (c_t y 15)))], [vI v_t, vR y], aq_h m s F c_t)) rfl rfl ?_
            refine am_E.go (t2 := (357, [vR y, vI sa, vI w, vI t, vI u, vI nn, vI x, vI i, vI k, vL (c (y + 9) ((40 * t) + i)), vU, vL (c (y + 9) ((40 * u) + k)), vU, vL (am_wl ((1000000000000 : Int).tdiv (am_wl (-(c (y + 9) ((40 * u) + k)))))), vU, vI v_t, vI (am_w ((am_w ((c_t (y + 8) ((40 * t) + i)) + (c_t (y + 8) ((40 * u) + k)))) + (c_t y 15)))], [vI (am_w ((am_w ((c_t (y + 8) ((40 * t) + i)) + (c_t (y + 8) ((40 * u) + k)))) + (c_t y 15))), vI v_t, vR y], aq_h m s F c_t)) rfl rfl ?_
            refine am_E.go (t2 := (359, [vR y, vI sa, vI w, vI t, vI u, vI nn, vI x, vI i, vI k, vL (c (y + 9) ((40 * t) + i)), vU, vL (c (y + 9) ((40 * u) + k)), vU, vL (am_wl ((1000000000000 : Int).tdiv (am_wl (-(c (y + 9) ((40 * u) + k)))))), vU, vI v_t, vI (am_w ((am_w ((c_t (y + 8) ((40 * t) + i)) + (c_t (y + 8) ((40 * u) + k)))) + (c_t y 15)))], [vL (c (y + 9) ((40 * t) + i)), vI (am_w ((am_w ((c_t (y + 8) ((40 * t) + i)) + (c_t (y + 8) ((40 * u) + k)))) + (c_t y 15))), vI v_t, vR y], aq_h m s F c_t)) rfl rfl ?_
            refine am_E.go (t2 := (361, [vR y, vI sa, vI w, vI t, vI u, vI nn, vI x, vI i, vI k, vL (c (y + 9) ((40 * t) + i)), vU, vL (c (y + 9) ((40 * u) + k)), vU, vL (am_wl ((1000000000000 : Int).tdiv (am_wl (-(c (y + 9) ((40 * u) + k)))))), vU, vI v_t, vI (am_w ((am_w ((c_t (y + 8) ((40 * t) + i)) + (c_t (y + 8) ((40 * u) + k)))) + (c_t y 15)))], [vL (c (y + 9) ((40 * u) + k)), vL (c (y + 9) ((40 * t) + i)), vI (am_w ((am_w ((c_t (y + 8) ((40 * t) + i)) + (c_t (y + 8) ((40 * u) + k)))) + (c_t y 15))), vI v_t, vR y], aq_h m s F c_t)) rfl rfl ?_
            refine am_E.go (t2 := (362, [vR y, vI sa, vI w, vI t, vI u, vI nn, vI x, vI i, vI k, vL (c (y + 9) ((40 * t) + i)), vU, vL (c (y + 9) ((40 * u) + k)), vU, vL (am_wl ((1000000000000 : Int).tdiv (am_wl (-(c (y + 9) ((40 * u) + k)))))), vU, vI v_t, vI (am_w ((am_w ((c_t (y + 8) ((40 * t) + i)) + (c_t (y + 8) ((40 * u) + k)))) + (c_t y 15)))], [vL (am_wl ((c (y + 9) ((40 * t) + i)) * (c (y + 9) ((40 * u) + k)))), vI (am_w ((am_w ((c_t (y + 8) ((40 * t) + i)) + (c_t (y + 8) ((40 * u) + k)))) + (c_t y 15))), vI v_t, vR y], aq_h m s F c_t)) rfl rfl ?_
            refine aq_callv (y := 4) (as2 := [vI v_t, vI (am_w ((am_w ((c_t (y + 8) ((40 * t) + i)) + (c_t (y + 8) ((40 * u) + k)))) + (c_t y 15))), vL (am_wl ((c (y + 9) ((40 * t) + i)) * (c (y + 9) ((40 * u) + k))))]) (rest := []) rfl rfl (by decide) (Nat.le_of_ble_eq_true rfl) rfl rfl (Nat.le_of_ble_eq_true rfl) (by omega) hFo rfl (Nat.le_of_ble_eq_true rfl) (qm_comes ⟨hm, hFo, hG5, hG6, hG7, hG8, hG9, hG10, hG11, hG12, hG13, hG14, hG15, hG16, hG17, hG18, hG19, hG20, hG21, hG22, hG23⟩ (K := bx_K nn) (by omega) (by omega) R_t) ?_
            rintro r5 h5 ⟨c_k, rfl, s_k, v_k, rfl, hv_k, q_k, R_k⟩
            show am_E _ (365, [vR y, vI sa, vI w, vI t, vI u, vI nn, vI x, vI i, vI k, vL (c (y + 9) ((40 * t) + i)), vU, vL (c (y + 9) ((40 * u) + k)), vU, vL (am_wl ((1000000000000 : Int).tdiv (am_wl (-(c (y + 9) ((40 * u) + k)))))), vU, vI v_t, vI (am_w ((am_w ((c_t (y + 8) ((40 * t) + i)) + (c_t (y + 8) ((40 * u) + k)))) + (c_t y 15)))], [vI v_k], aq_h m s F c_k) _
            refine ae_if0 rfl (fun (q_19 : v_k = 0) => ?_) (fun (q_19 : v_k ≠ 0) => ?_)
            · refine am_E.go (t2 := (373, [vR y, vI sa, vI w, vI t, vI u, vI nn, vI x, vI i, vI k, vL (c (y + 9) ((40 * t) + i)), vU, vL (c (y + 9) ((40 * u) + k)), vU, vL (am_wl ((1000000000000 : Int).tdiv (am_wl (-(c (y + 9) ((40 * u) + k)))))), vU, vI v_t, vI (am_w ((am_w ((c_t (y + 8) ((40 * t) + i)) + (c_t (y + 8) ((40 * u) + k)))) + (c_t y 15)))], [vI 0], aq_h m s F c_k)) rfl rfl ?_
              refine am_E.go (t2 := (375, [vR y, vI sa, vI w, vI t, vI u, vI nn, vI 0, vI i, vI k, vL (c (y + 9) ((40 * t) + i)), vU, vL (c (y + 9) ((40 * u) + k)), vU, vL (am_wl ((1000000000000 : Int).tdiv (am_wl (-(c (y + 9) ((40 * u) + k)))))), vU, vI v_t, vI (am_w ((am_w ((c_t (y + 8) ((40 * t) + i)) + (c_t (y + 8) ((40 * u) + k)))) + (c_t y 15)))], [], aq_h m s F c_k)) rfl rfl ?_
              refine ae_iinc rfl rfl (am_ri (by omega) (by omega)) ?_
              show am_E _ (378, [vR y, vI sa, vI w, vI t, vI u, vI nn, vI 0, vI i, vI (k + 1), vL (c (y + 9) ((40 * t) + i)), vU, vL (c (y + 9) ((40 * u) + k)), vU, vL (am_wl ((1000000000000 : Int).tdiv (am_wl (-(c (y + 9) ((40 * u) + k)))))), vU, vI v_t, vI (am_w ((am_w ((c_t (y + 8) ((40 * t) + i)) + (c_t (y + 8) ((40 * u) + k)))) + (c_t y 15)))], [], aq_h m s F c_k) _
              refine am_E.go (t2 := (206, [vR y, vI sa, vI w, vI t, vI u, vI nn, vI 0, vI i, vI (k + 1), vL (c (y + 9) ((40 * t) + i)), vU, vL (c (y + 9) ((40 * u) + k)), vU, vL (am_wl ((1000000000000 : Int).tdiv (am_wl (-(c (y + 9) ((40 * u) + k)))))), vU, vI v_t, vI (am_w ((am_w ((c_t (y + 8) ((40 * t) + i)) + (c_t (y + 8) ((40 * u) + k)))) + (c_t y 15)))], [], aq_h m s F c_k)) rfl rfl ?_
              exact qk_work_i ⟨hm, hFo, hG5, hG6, hG7, hG8, hG9, hG10, hG11, hG12, hG13, hG14, hG15, hG16, hG17, hG18, hG19, hG20, hG21, hG22, hG23⟩ ⟨hT1, hTt⟩ hI hs0 hs1 ht0 ht1 hu0 hu1 hnt hnu d 0 i (k + 1) (vL (c (y + 9) ((40 * t) + i))) (vU) (vL (c (y + 9) ((40 * u) + k))) (vU) (vL (am_wl ((1000000000000 : Int).tdiv (am_wl (-(c (y + 9) ((40 * u) + k))))))) (vU) (vI v_t) (vI (am_w ((am_w ((c_t (y + 8) ((40 * t) + i)) + (c_t (y + 8) ((40 * u) + k)))) + (c_t y 15)))) c_k (aq_smt (aq_smt hs (aq_smi s_t (fun a h => by unfold mo_S; omega))) (aq_smi s_k (fun a h => mo_S3 h))) (by omega) (by omega) (by omega) (by omega) (mo_qt (mo_qt hq (mo_qk hk_t)) q_k) (Or.inl rfl) (by omega) K0
            · refine am_E.go (t2 := (369, [vR y, vI sa, vI w, vI t, vI u, vI nn, vI x, vI i, vI k, vL (c (y + 9) ((40 * t) + i)), vU, vL (c (y + 9) ((40 * u) + k)), vU, vL (am_wl ((1000000000000 : Int).tdiv (am_wl (-(c (y + 9) ((40 * u) + k)))))), vU, vI v_t, vI (am_w ((am_w ((c_t (y + 8) ((40 * t) + i)) + (c_t (y + 8) ((40 * u) + k)))) + (c_t y 15)))], [vI 1], aq_h m s F c_k)) rfl rfl ?_
              refine am_E.go (t2 := (373, [vR y, vI sa, vI w, vI t, vI u, vI nn, vI x, vI i, vI k, vL (c (y + 9) ((40 * t) + i)), vU, vL (c (y + 9) ((40 * u) + k)), vU, vL (am_wl ((1000000000000 : Int).tdiv (am_wl (-(c (y + 9) ((40 * u) + k)))))), vU, vI v_t, vI (am_w ((am_w ((c_t (y + 8) ((40 * t) + i)) + (c_t (y + 8) ((40 * u) + k)))) + (c_t y 15)))], [vI 1], aq_h m s F c_k)) rfl rfl ?_
              refine am_E.go (t2 := (375, [vR y, vI sa, vI w, vI t, vI u, vI nn, vI 1, vI i, vI k, vL (c (y + 9) ((40 * t) + i)), vU, vL (c (y + 9) ((40 * u) + k)), vU, vL (am_wl ((1000000000000 : Int).tdiv (am_wl (-(c (y + 9) ((40 * u) + k)))))), vU, vI v_t, vI (am_w ((am_w ((c_t (y + 8) ((40 * t) + i)) + (c_t (y + 8) ((40 * u) + k)))) + (c_t y 15)))], [], aq_h m s F c_k)) rfl rfl ?_
              refine ae_iinc rfl rfl (am_ri (by omega) (by omega)) ?_
              show am_E _ (378, [vR y, vI sa, vI w, vI t, vI u, vI nn, vI 1, vI i, vI (k + 1), vL (c (y + 9) ((40 * t) + i)), vU, vL (c (y + 9) ((40 * u) + k)), vU, vL (am_wl ((1000000000000 : Int).tdiv (am_wl (-(c (y + 9) ((40 * u) + k)))))), vU, vI v_t, vI (am_w ((am_w ((c_t (y + 8) ((40 * t) + i)) + (c_t (y + 8) ((40 * u) + k)))) + (c_t y 15)))], [], aq_h m s F c_k) _
              refine am_E.go (t2 := (206, [vR y, vI sa, vI w, vI t, vI u, vI nn, vI 1, vI i, vI (k + 1), vL (c (y + 9) ((40 * t) + i)), vU, vL (c (y + 9) ((40 * u) + k)), vU, vL (am_wl ((1000000000000 : Int).tdiv (am_wl (-(c (y + 9) ((40 * u) + k)))))), vU, vI v_t, vI (am_w ((am_w ((c_t (y + 8) ((40 * t) + i)) + (c_t (y + 8) ((40 * u) + k)))) + (c_t y 15)))], [], aq_h m s F c_k)) rfl rfl ?_
              exact qk_work_i ⟨hm, hFo, hG5, hG6, hG7, hG8, hG9, hG10, hG11, hG12, hG13, hG14, hG15, hG16, hG17, hG18, hG19, hG20, hG21, hG22, hG23⟩ ⟨hT1, hTt⟩ hI hs0 hs1 ht0 ht1 hu0 hu1 hnt hnu d 1 i (k + 1) (vL (c (y + 9) ((40 * t) + i))) (vU) (vL (c (y + 9) ((40 * u) + k))) (vU) (vL (am_wl ((1000000000000 : Int).tdiv (am_wl (-(c (y + 9) ((40 * u) + k))))))) (vU) (vI v_t) (vI (am_w ((am_w ((c_t (y + 8) ((40 * t) + i)) + (c_t (y + 8) ((40 * u) + k)))) + (c_t y 15)))) c_k (aq_smt (aq_smt hs (aq_smi s_t (fun a h => by unfold mo_S; omega))) (aq_smi s_k (fun a h => mo_S3 h))) (by omega) (by omega) (by omega) (by omega) (mo_qt (mo_qt hq (mo_qk hk_t)) q_k) (Or.inr ⟨rfl, R_k (by omega)⟩) (by omega) K0

theorem qk_work_o {m s : Nat} {F : aq_F} {c0 : aq_C} {y : Nat} (hO : mo_0 m F y) {tbl : Int → Int} (hT : mo_T F y tbl) (hI : mo_I y c0) {t u w nn sa : Int} (hs0 : 0 ≤ sa) (hs1 : sa < 8) (ht0 : 0 ≤ t) (ht1 : t < 8) (hu0 : 0 ≤ u) (hu1 : u < 8) (hnt : c0 (y + 5) t = nn) (hnu : c0 (y + 5) u = nn) : ∀ (d : Nat) (x : Int) (i : Int) (v8 : am_V) (v9 : am_V) (v10 : am_V) (v11 : am_V) (v12 : am_V) (v13 : am_V) (v14 : am_V) (v15 : am_V) (v16 : am_V) (c : aq_C) (hs : aq_sm (mo_S y) c0 c) (h0 : 0 ≤ i) (h1 : i ≤ c0 (y + 6) t) (hq : mo_q y c0 c) (hw : x = 0 ∨ (x = 1 ∧ mo_R y (bx_K nn) c)) (hd : c0 (y + 6) t - i < (d : Int)), am_E ac_X5_work (187, [vR y, vI sa, vI w, vI t, vI u, vI nn, vI x, vI i, v8, v9, v10, v11, v12, v13, v14, v15, v16], [], aq_h m s F c) (aq_Z m s F (fun a => y ≤ a ∧ a < y + 24 ∧ a ≠ y + 10) c0 (fun r d => aq_vi r ∧ mo_I y d))
  | 0, x, i, v8, v9, v10, v11, v12, v13, v14, v15, v16, c, hs, h0, h1, hq, hw, hd => by exfalso; omega
  | d + 1, x, i, v8, v9, v10, v11, v12, v13, v14, v15, v16, c, hs, h0, h1, hq, hw, hd => by
    obtain ⟨hm, hFo, hG5, hG6, hG7, hG8, hG9, hG10, hG11, hG12, hG13, hG14, hG15, hG16, hG17, hG18, hG19, hG20, hG21, hG22, hG23⟩ := hO
    obtain ⟨hT1, hTt⟩ := hT
    obtain ⟨hu1t, hu2t, hu3t, hu4t, hu5t⟩ := hI.2 t (by omega) (by omega)
    obtain ⟨hu1u, hu2u, hu3u, hu4u, hu5u⟩ := hI.2 u (by omega) (by omega)
    have hKt : bx_K (c0 (y + 5) t) = bx_K nn := by rw [hnt]
    have hKu : bx_K (c0 (y + 5) u) = bx_K nn := by rw [hnu]
    refine am_E.go (t2 := (189, [vR y, vI sa, vI w, vI t, vI u, vI nn, vI x, vI i, v8, v9, v10, v11, v12, v13, v14, v15, v16], [vI i], aq_h m s F c)) rfl rfl ?_
    refine am_E.go (t2 := (190, [vR y, vI sa, vI w, vI t, vI u, vI nn, vI x, vI i, v8, v9, v10, v11, v12, v13, v14, v15, v16], [vR y, vI i], aq_h m s F c)) rfl rfl ?_
    refine aq_gf (v := vR (y + 6)) rfl (by omega) hFo (by decide) rfl ?_
    show am_E _ (193, [vR y, vI sa, vI w, vI t, vI u, vI nn, vI x, vI i, v8, v9, v10, v11, v12, v13, v14, v15, v16], [vR (y + 6), vI i], aq_h m s F c) _
    refine am_E.go (t2 := (194, [vR y, vI sa, vI w, vI t, vI u, vI nn, vI x, vI i, v8, v9, v10, v11, v12, v13, v14, v15, v16], [vI t, vR (y + 6), vI i], aq_h m s F c)) rfl rfl ?_
    refine aq_al (ok := fun k => k == 0) (v := vI (c (y + 6) t)) rfl rfl (by omega) hG6 rfl (by omega) (by omega) rfl ?_
    show am_E _ (195, [vR y, vI sa, vI w, vI t, vI u, vI nn, vI x, vI i, v8, v9, v10, v11, v12, v13, v14, v15, v16], [vI (c (y + 6) t), vI i], aq_h m s F c) _
    have f_1 := hs (y + 6) (mo_n (by decide) (by decide)) t
    refine ae_icmp rfl (fun (q_2 : (c (y + 6) t) ≤ i) => ?_) (fun (q_2 : i < (c (y + 6) t)) => ?_)
    · refine am_E.go (t2 := (389, [vR y, vI sa, vI w, vI t, vI u, vI nn, vI x, vI i, v8, v9, v10, v11, v12, v13, v14, v15, v16], [vI x], aq_h m s F c)) rfl rfl ?_
      refine ae_if0 rfl (fun (q_3 : x = 0) => ?_) (fun (q_3 : x ≠ 0) => ?_)
      · refine am_E.go (t2 := (404, [vR y, vI sa, vI w, vI t, vI u, vI nn, vI x, vI i, v8, v9, v10, v11, v12, v13, v14, v15, v16], [vI (-5)], aq_h m s F c)) rfl rfl ?_
        refine am_E.ret rfl rfl ?_
        exact ⟨_, rfl, aq_smi hs (fun a h => mo_Sc h), ⟨_, rfl⟩, mo_Iw hI hs hq⟩
      · refine am_E.go (t2 := (393, [vR y, vI sa, vI w, vI t, vI u, vI nn, vI x, vI i, v8, v9, v10, v11, v12, v13, v14, v15, v16], [vR y], aq_h m s F c)) rfl rfl ?_
        refine am_E.go (t2 := (394, [vR y, vI sa, vI w, vI t, vI u, vI nn, vI x, vI i, v8, v9, v10, v11, v12, v13, v14, v15, v16], [vI sa, vR y], aq_h m s F c)) rfl rfl ?_
        refine am_E.go (t2 := (396, [vR y, vI sa, vI w, vI t, vI u, vI nn, vI x, vI i, v8, v9, v10, v11, v12, v13, v14, v15, v16], [vI nn, vI sa, vR y], aq_h m s F c)) rfl rfl ?_
        refine aq_callv (y := 3) (as2 := [vI sa, vI nn]) (rest := []) rfl rfl (by decide) (Nat.le_of_ble_eq_true rfl) rfl rfl (Nat.le_of_ble_eq_true rfl) (by omega) hFo rfl (Nat.le_of_ble_eq_true rfl) (qm_store ⟨hm, hFo, hG5, hG6, hG7, hG8, hG9, hG10, hG11, hG12, hG13, hG14, hG15, hG16, hG17, hG18, hG19, hG20, hG21, hG22, hG23⟩ (by omega) (by omega) (by omega) (by omega) (mo_Iw hI hs hq) (by rcases hw with h | h; exact absurd h (by omega); exact h.2)) ?_
        rintro r5 h5 ⟨c_b, rfl, s_b, rfl, hI_b⟩
        show am_E _ (399, [vR y, vI sa, vI w, vI t, vI u, vI nn, vI x, vI i, v8, v9, v10, v11, v12, v13, v14, v15, v16], [vI (c y 17)], aq_h m s F c_b) _
        refine am_E.go (t2 := (404, [vR y, vI sa, vI w, vI t, vI u, vI nn, vI x, vI i, v8, v9, v10, v11, v12, v13, v14, v15, v16], [vI (c y 17)], aq_h m s F c_b)) rfl rfl ?_
        refine am_E.ret rfl rfl ?_
        exact ⟨_, rfl, (aq_smt (aq_smi hs (fun a h => mo_Sc h)) (aq_smi s_b (fun a h => by omega))), ⟨_, rfl⟩, hI_b⟩
    · refine am_E.go (t2 := (200, [vR y, vI sa, vI w, vI t, vI u, vI nn, vI x, vI i, v8, v9, v10, v11, v12, v13, v14, v15, v16], [vI x], aq_h m s F c)) rfl rfl ?_
      refine ae_if0 rfl (fun (q_4 : x = 0) => ?_) (fun (q_4 : x ≠ 0) => ?_)
      · refine am_E.go (t2 := (389, [vR y, vI sa, vI w, vI t, vI u, vI nn, vI x, vI i, v8, v9, v10, v11, v12, v13, v14, v15, v16], [vI x], aq_h m s F c)) rfl rfl ?_
        refine ae_if0 rfl (fun (q_5 : x = 0) => ?_) (fun (q_5 : x ≠ 0) => ?_)
        · refine am_E.go (t2 := (404, [vR y, vI sa, vI w, vI t, vI u, vI nn, vI x, vI i, v8, v9, v10, v11, v12, v13, v14, v15, v16], [vI (-5)], aq_h m s F c)) rfl rfl ?_
          refine am_E.ret rfl rfl ?_
          exact ⟨_, rfl, aq_smi hs (fun a h => mo_Sc h), ⟨_, rfl⟩, mo_Iw hI hs hq⟩
        · refine am_E.go (t2 := (393, [vR y, vI sa, vI w, vI t, vI u, vI nn, vI x, vI i, v8, v9, v10, v11, v12, v13, v14, v15, v16], [vR y], aq_h m s F c)) rfl rfl ?_
          refine am_E.go (t2 := (394, [vR y, vI sa, vI w, vI t, vI u, vI nn, vI x, vI i, v8, v9, v10, v11, v12, v13, v14, v15, v16], [vI sa, vR y], aq_h m s F c)) rfl rfl ?_
          refine am_E.go (t2 := (396, [vR y, vI sa, vI w, vI t, vI u, vI nn, vI x, vI i, v8, v9, v10, v11, v12, v13, v14, v15, v16], [vI nn, vI sa, vR y], aq_h m s F c)) rfl rfl ?_
          refine aq_callv (y := 3) (as2 := [vI sa, vI nn]) (rest := []) rfl rfl (by decide) (Nat.le_of_ble_eq_true rfl) rfl rfl (Nat.le_of_ble_eq_true rfl) (by omega) hFo rfl (Nat.le_of_ble_eq_true rfl) (qm_store ⟨hm, hFo, hG5, hG6, hG7, hG8, hG9, hG10, hG11, hG12, hG13, hG14, hG15, hG16, hG17, hG18, hG19, hG20, hG21, hG22, hG23⟩ (by omega) (by omega) (by omega) (by omega) (mo_Iw hI hs hq) (by rcases hw with h | h; exact absurd h (by omega); exact h.2)) ?_
          rintro r5 h5 ⟨c_b, rfl, s_b, rfl, hI_b⟩
          show am_E _ (399, [vR y, vI sa, vI w, vI t, vI u, vI nn, vI x, vI i, v8, v9, v10, v11, v12, v13, v14, v15, v16], [vI (c y 17)], aq_h m s F c_b) _
          refine am_E.go (t2 := (404, [vR y, vI sa, vI w, vI t, vI u, vI nn, vI x, vI i, v8, v9, v10, v11, v12, v13, v14, v15, v16], [vI (c y 17)], aq_h m s F c_b)) rfl rfl ?_
          refine am_E.ret rfl rfl ?_
          exact ⟨_, rfl, (aq_smt (aq_smi hs (fun a h => mo_Sc h)) (aq_smi s_b (fun a h => by omega))), ⟨_, rfl⟩, hI_b⟩
      · refine am_E.go (t2 := (204, [vR y, vI sa, vI w, vI t, vI u, vI nn, vI x, vI i, v8, v9, v10, v11, v12, v13, v14, v15, v16], [vI 0], aq_h m s F c)) rfl rfl ?_
        refine am_E.go (t2 := (206, [vR y, vI sa, vI w, vI t, vI u, vI nn, vI x, vI i, vI 0, v9, v10, v11, v12, v13, v14, v15, v16], [], aq_h m s F c)) rfl rfl ?_
        refine qk_work_i ⟨hm, hFo, hG5, hG6, hG7, hG8, hG9, hG10, hG11, hG12, hG13, hG14, hG15, hG16, hG17, hG18, hG19, hG20, hG21, hG22, hG23⟩ ⟨hT1, hTt⟩ hI hs0 hs1 ht0 ht1 hu0 hu1 hnt hnu 41 x i 0 (v9) (v10) (v11) (v12) (v13) (v14) (v15) (v16) c hs (by omega) (by omega) (by omega) (by omega) hq hw (by omega) ?_
        · intro x2_206 k2_206 v92_206 v102_206 v112_206 v122_206 v132_206 v142_206 v152_206 v162_206 c_6 sc_6 hq2_206 hw2_206
          refine ae_iinc rfl rfl (am_ri (by omega) (by omega)) ?_
          show am_E _ (384, [vR y, vI sa, vI w, vI t, vI u, vI nn, vI x2_206, vI (i + 1), vI k2_206, v92_206, v102_206, v112_206, v122_206, v132_206, v142_206, v152_206, v162_206], [], aq_h m s F c_6) _
          refine am_E.go (t2 := (187, [vR y, vI sa, vI w, vI t, vI u, vI nn, vI x2_206, vI (i + 1), vI k2_206, v92_206, v102_206, v112_206, v122_206, v132_206, v142_206, v152_206, v162_206], [], aq_h m s F c_6)) rfl rfl ?_
          exact qk_work_o ⟨hm, hFo, hG5, hG6, hG7, hG8, hG9, hG10, hG11, hG12, hG13, hG14, hG15, hG16, hG17, hG18, hG19, hG20, hG21, hG22, hG23⟩ ⟨hT1, hTt⟩ hI hs0 hs1 ht0 ht1 hu0 hu1 hnt hnu d x2_206 (i + 1) (vI k2_206) (v92_206) (v102_206) (v112_206) (v122_206) (v132_206) (v142_206) (v152_206) (v162_206) c_6 sc_6 (by omega) (by omega) hq2_206 hw2_206 (by omega)

theorem qk_X5_work {m s : Nat} {F : aq_F} {c : aq_C} {y : Nat} (hC : mo_C m F y) (hI : mo_I y c) {sa w t u : Int} : am_E ac_X5_work (0, [vR y, vI sa, vI w, vI t, vI u, vU, vU, vU, vU, vU, vU, vU, vU, vU, vU, vU, vU], [], aq_h m s F c) (aq_Z m s F (fun a => y ≤ a ∧ a < y + 24 ∧ a ≠ y + 10) c (fun r d => aq_vi r ∧ mo_I y d)) := by
  obtain ⟨⟨hm, hFo, hG5, hG6, hG7, hG8, hG9, hG10, hG11, hG12, hG13, hG14, hG15, hG16, hG17, hG18, hG19, hG20, hG21, hG22, hG23⟩, ⟨tbl, hT1, hTt⟩, ⟨tA, tB, tD, hL1, hL2, hL3, hLt⟩⟩ := hC
  refine am_E.go (t2 := (1, [vR y, vI sa, vI w, vI t, vI u, vU, vU, vU, vU, vU, vU, vU, vU, vU, vU, vU, vU], [vI sa], aq_h m s F c)) rfl rfl ?_
  refine am_E.call rfl rfl rfl (Nat.le_of_ble_eq_true rfl) (qm_isSum) ?_
  rintro r5 h5 ⟨rfl, v_1, rfl, hv_1⟩
  show am_E _ (4, [vR y, vI sa, vI w, vI t, vI u, vU, vU, vU, vU, vU, vU, vU, vU, vU, vU, vU, vU], [vI v_1], aq_h m s F c) _
  refine ae_if0 rfl (fun (q_2 : v_1 = 0) => ?_) (fun (q_2 : v_1 ≠ 0) => ?_)
  · refine am_E.go (t2 := (35, [vR y, vI sa, vI w, vI t, vI u, vU, vU, vU, vU, vU, vU, vU, vU, vU, vU, vU, vU], [vI (-1)], aq_h m s F c)) rfl rfl ?_
    refine am_E.ret rfl rfl ?_
    exact ⟨_, rfl, aq_sm0, ⟨_, rfl⟩, hI⟩
  · refine am_E.go (t2 := (8, [vR y, vI sa, vI w, vI t, vI u, vU, vU, vU, vU, vU, vU, vU, vU, vU, vU, vU, vU], [vI w], aq_h m s F c)) rfl rfl ?_
    refine am_E.go (t2 := (9, [vR y, vI sa, vI w, vI t, vI u, vU, vU, vU, vU, vU, vU, vU, vU, vU, vU, vU, vU], [vL w], aq_h m s F c)) rfl rfl ?_
    refine am_E.go (t2 := (10, [vR y, vI sa, vI w, vI t, vI u, vU, vU, vU, vU, vU, vU, vU, vU, vU, vU, vU, vU], [vL 0, vL w], aq_h m s F c)) rfl rfl ?_
    refine am_E.go (t2 := (13, [vR y, vI sa, vI w, vI t, vI u, vU, vU, vU, vU, vU, vU, vU, vU, vU, vU, vU, vU], [vL 2, vL 0, vL w], aq_h m s F c)) rfl rfl ?_
    refine am_E.call rfl rfl rfl (Nat.le_of_ble_eq_true rfl) (qm_in) ?_
    rintro r5 h5 ⟨rfl, v_3, rfl, hv_3⟩
    show am_E _ (16, [vR y, vI sa, vI w, vI t, vI u, vU, vU, vU, vU, vU, vU, vU, vU, vU, vU, vU, vU], [vI v_3], aq_h m s F c) _
    refine ae_if0 rfl (fun (q_4 : v_3 = 0) => ?_) (fun (q_4 : v_3 ≠ 0) => ?_)
    · refine am_E.go (t2 := (35, [vR y, vI sa, vI w, vI t, vI u, vU, vU, vU, vU, vU, vU, vU, vU, vU, vU, vU, vU], [vI (-1)], aq_h m s F c)) rfl rfl ?_
      refine am_E.ret rfl rfl ?_
      exact ⟨_, rfl, aq_sm0, ⟨_, rfl⟩, hI⟩
    · refine am_E.go (t2 := (20, [vR y, vI sa, vI w, vI t, vI u, vU, vU, vU, vU, vU, vU, vU, vU, vU, vU, vU, vU], [vI t], aq_h m s F c)) rfl rfl ?_
      refine am_E.call rfl rfl rfl (Nat.le_of_ble_eq_true rfl) (qm_isSum) ?_
      rintro r5 h5 ⟨rfl, v_5, rfl, hv_5⟩
      show am_E _ (23, [vR y, vI sa, vI w, vI t, vI u, vU, vU, vU, vU, vU, vU, vU, vU, vU, vU, vU, vU], [vI v_5], aq_h m s F c) _
      refine ae_if0 rfl (fun (q_6 : v_5 = 0) => ?_) (fun (q_6 : v_5 ≠ 0) => ?_)
      · refine am_E.go (t2 := (35, [vR y, vI sa, vI w, vI t, vI u, vU, vU, vU, vU, vU, vU, vU, vU, vU, vU, vU, vU], [vI (-1)], aq_h m s F c)) rfl rfl ?_
        refine am_E.ret rfl rfl ?_
        exact ⟨_, rfl, aq_sm0, ⟨_, rfl⟩, hI⟩
      · refine am_E.go (t2 := (28, [vR y, vI sa, vI w, vI t, vI u, vU, vU, vU, vU, vU, vU, vU, vU, vU, vU, vU, vU], [vI u], aq_h m s F c)) rfl rfl ?_
        refine am_E.call rfl rfl rfl (Nat.le_of_ble_eq_true rfl) (qm_isSum) ?_
        rintro r5 h5 ⟨rfl, v_7, rfl, hv_7⟩
        show am_E _ (31, [vR y, vI sa, vI w, vI t, vI u, vU, vU, vU, vU, vU, vU, vU, vU, vU, vU, vU, vU], [vI v_7], aq_h m s F c) _
        refine ae_if0 rfl (fun (q_8 : v_7 ≠ 0) => ?_) (fun (q_8 : v_7 = 0) => ?_)
        · refine am_E.go (t2 := (37, [vR y, vI sa, vI w, vI t, vI u, vU, vU, vU, vU, vU, vU, vU, vU, vU, vU, vU, vU], [vR y], aq_h m s F c)) rfl rfl ?_
          refine aq_gf (v := vR (y + 5)) rfl (by omega) hFo (by decide) rfl ?_
          show am_E _ (40, [vR y, vI sa, vI w, vI t, vI u, vU, vU, vU, vU, vU, vU, vU, vU, vU, vU, vU, vU], [vR (y + 5)], aq_h m s F c) _
          refine am_E.go (t2 := (41, [vR y, vI sa, vI w, vI t, vI u, vU, vU, vU, vU, vU, vU, vU, vU, vU, vU, vU, vU], [vI t, vR (y + 5)], aq_h m s F c)) rfl rfl ?_
          refine aq_al (ok := fun k => k == 0) (v := vI (c (y + 5) t)) rfl rfl (by omega) hG5 rfl (by omega) (by omega) rfl ?_
          show am_E _ (42, [vR y, vI sa, vI w, vI t, vI u, vU, vU, vU, vU, vU, vU, vU, vU, vU, vU, vU, vU], [vI (c (y + 5) t)], aq_h m s F c) _
          obtain ⟨hu1t, hu2t, hu3t, hu4t, hu5t⟩ := hI.2 t (by omega) (by omega)
          refine am_E.go (t2 := (43, [vR y, vI sa, vI w, vI t, vI u, vU, vU, vU, vU, vU, vU, vU, vU, vU, vU, vU, vU], [vR y, vI (c (y + 5) t)], aq_h m s F c)) rfl rfl ?_
          refine aq_gf (v := vR (y + 5)) rfl (by omega) hFo (by decide) rfl ?_
          show am_E _ (46, [vR y, vI sa, vI w, vI t, vI u, vU, vU, vU, vU, vU, vU, vU, vU, vU, vU, vU, vU], [vR (y + 5), vI (c (y + 5) t)], aq_h m s F c) _
          refine am_E.go (t2 := (48, [vR y, vI sa, vI w, vI t, vI u, vU, vU, vU, vU, vU, vU, vU, vU, vU, vU, vU, vU], [vI u, vR (y + 5), vI (c (y + 5) t)], aq_h m s F c)) rfl rfl ?_
          refine aq_al (ok := fun k => k == 0) (v := vI (c (y + 5) u)) rfl rfl (by omega) hG5 rfl (by omega) (by omega) rfl ?_
          show am_E _ (49, [vR y, vI sa, vI w, vI t, vI u, vU, vU, vU, vU, vU, vU, vU, vU, vU, vU, vU, vU], [vI (c (y + 5) u), vI (c (y + 5) t)], aq_h m s F c) _
          obtain ⟨hu1u, hu2u, hu3u, hu4u, hu5u⟩ := hI.2 u (by omega) (by omega)
          refine ae_icmp rfl (fun (q_11 : (c (y + 5) t) = (c (y + 5) u)) => ?_) (fun (q_11 : (c (y + 5) t) ≠ (c (y + 5) u)) => ?_)
          · refine am_E.go (t2 := (56, [vR y, vI sa, vI w, vI t, vI u, vU, vU, vU, vU, vU, vU, vU, vU, vU, vU, vU, vU], [vR y], aq_h m s F c)) rfl rfl ?_
            refine aq_gf (v := vR (y + 5)) rfl (by omega) hFo (by decide) rfl ?_
            show am_E _ (59, [vR y, vI sa, vI w, vI t, vI u, vU, vU, vU, vU, vU, vU, vU, vU, vU, vU, vU, vU], [vR (y + 5)], aq_h m s F c) _
            refine am_E.go (t2 := (60, [vR y, vI sa, vI w, vI t, vI u, vU, vU, vU, vU, vU, vU, vU, vU, vU, vU, vU, vU], [vI t, vR (y + 5)], aq_h m s F c)) rfl rfl ?_
            refine aq_al (ok := fun k => k == 0) (v := vI (c (y + 5) t)) rfl rfl (by omega) hG5 rfl (by omega) (by omega) rfl ?_
            show am_E _ (61, [vR y, vI sa, vI w, vI t, vI u, vU, vU, vU, vU, vU, vU, vU, vU, vU, vU, vU, vU], [vI (c (y + 5) t)], aq_h m s F c) _
            obtain ⟨hu1t, hu2t, hu3t, hu4t, hu5t⟩ := hI.2 t (by omega) (by omega)
            refine am_E.go (t2 := (63, [vR y, vI sa, vI w, vI t, vI u, vI (c (y + 5) t), vU, vU, vU, vU, vU, vU, vU, vU, vU, vU, vU], [], aq_h m s F c)) rfl rfl ?_
            refine am_E.go (t2 := (64, [vR y, vI sa, vI w, vI t, vI u, vI (c (y + 5) t), vU, vU, vU, vU, vU, vU, vU, vU, vU, vU, vU], [vI 1], aq_h m s F c)) rfl rfl ?_
            refine am_E.go (t2 := (66, [vR y, vI sa, vI w, vI t, vI u, vI (c (y + 5) t), vI 1, vU, vU, vU, vU, vU, vU, vU, vU, vU, vU], [], aq_h m s F c)) rfl rfl ?_
            refine am_E.go (t2 := (67, [vR y, vI sa, vI w, vI t, vI u, vI (c (y + 5) t), vI 1, vU, vU, vU, vU, vU, vU, vU, vU, vU, vU], [vI w], aq_h m s F c)) rfl rfl ?_
            refine am_E.go (t2 := (68, [vR y, vI sa, vI w, vI t, vI u, vI (c (y + 5) t), vI 1, vU, vU, vU, vU, vU, vU, vU, vU, vU, vU], [vI 2, vI w], aq_h m s F c)) rfl rfl ?_
            refine ae_icmp rfl (fun (q_13 : 2 ≤ w) => ?_) (fun (q_13 : w < 2) => ?_)
            · refine am_E.go (t2 := (180, [vR y, vI sa, vI w, vI t, vI u, vI (c (y + 5) t), vI 1, vU, vU, vU, vU, vU, vU, vU, vU, vU, vU], [vR y], aq_h m s F c)) rfl rfl ?_
              refine am_E.go (t2 := (181, [vR y, vI sa, vI w, vI t, vI u, vI (c (y + 5) t), vI 1, vU, vU, vU, vU, vU, vU, vU, vU, vU, vU], [vI 0, vR y], aq_h m s F c)) rfl rfl ?_
              refine aq_pf rfl (by omega) hFo (by decide) rfl rfl ?_
              show am_E _ (184, [vR y, vI sa, vI w, vI t, vI u, vI (c (y + 5) t), vI 1, vU, vU, vU, vU, vU, vU, vU, vU, vU, vU], [], aq_h m s F (aq_u c y 17 0)) _
              generalize hdc_14 : aq_u c y 17 0 = c_14
              have sc_14 := aq_smu (aq_sm0 (c := c) (S := mo_S y)) hdc_14 mo_S0
              have q_z : mo_q y c c_14 := mo_qu mo_q0 hdc_14 (Or.inr (by decide))
              have e_z : c_14 y 17 = 0 := by rw [← hdc_14, aq_us]
              have R_z : mo_R y (bx_K (c (y + 5) t)) c_14 := ⟨by omega, by omega, fun j h5 h6 => absurd h6 (by omega)⟩
              refine am_E.go (t2 := (185, [vR y, vI sa, vI w, vI t, vI u, vI (c (y + 5) t), vI 1, vU, vU, vU, vU, vU, vU, vU, vU, vU, vU], [vI 0], aq_h m s F c_14)) rfl rfl ?_
              refine am_E.go (t2 := (187, [vR y, vI sa, vI w, vI t, vI u, vI (c (y + 5) t), vI 1, vI 0, vU, vU, vU, vU, vU, vU, vU, vU, vU], [], aq_h m s F c_14)) rfl rfl ?_
              exact qk_work_o ⟨hm, hFo, hG5, hG6, hG7, hG8, hG9, hG10, hG11, hG12, hG13, hG14, hG15, hG16, hG17, hG18, hG19, hG20, hG21, hG22, hG23⟩ ⟨hT1, hTt⟩ hI (by omega) (by omega) (by omega) (by omega) (by omega) (by omega) rfl (by omega) 41 1 0 (vU) (vU) (vU) (vU) (vU) (vU) (vU) (vU) (vU) c_14 sc_14 (by omega) (by omega) q_z (Or.inr ⟨rfl, R_z⟩) (by omega)
            · refine am_E.go (t2 := (72, [vR y, vI sa, vI w, vI t, vI u, vI (c (y + 5) t), vI 1, vU, vU, vU, vU, vU, vU, vU, vU, vU, vU], [vR y], aq_h m s F c)) rfl rfl ?_
              refine am_E.go (t2 := (73, [vR y, vI sa, vI w, vI t, vI u, vI (c (y + 5) t), vI 1, vU, vU, vU, vU, vU, vU, vU, vU, vU, vU], [vI t, vR y], aq_h m s F c)) rfl rfl ?_
              refine aq_callv (y := 2) (as2 := [vI t]) (rest := []) rfl rfl (by decide) (Nat.le_of_ble_eq_true rfl) rfl rfl (Nat.le_of_ble_eq_true rfl) (by omega) hFo rfl (Nat.le_of_ble_eq_true rfl) (qm_load ⟨hm, hFo, hG5, hG6, hG7, hG8, hG9, hG10, hG11, hG12, hG13, hG14, hG15, hG16, hG17, hG18, hG19, hG20, hG21, hG22, hG23⟩ (by omega) (by omega) (hI.2 _ (by omega) (by omega))) ?_
              rintro r5 h5 ⟨c_l, rfl, s_l, rfl, q_l, R_l⟩
              show am_E _ (76, [vR y, vI sa, vI w, vI t, vI u, vI (c (y + 5) t), vI 1, vU, vU, vU, vU, vU, vU, vU, vU, vU, vU], [], aq_h m s F c_l) _
              refine am_E.go (t2 := (77, [vR y, vI sa, vI w, vI t, vI u, vI (c (y + 5) t), vI 1, vU, vU, vU, vU, vU, vU, vU, vU, vU, vU], [vI 0], aq_h m s F c_l)) rfl rfl ?_
              refine am_E.go (t2 := (79, [vR y, vI sa, vI w, vI t, vI u, vI (c (y + 5) t), vI 1, vI 0, vU, vU, vU, vU, vU, vU, vU, vU, vU], [], aq_h m s F c_l)) rfl rfl ?_
              exact qk_work_a ⟨hm, hFo, hG5, hG6, hG7, hG8, hG9, hG10, hG11, hG12, hG13, hG14, hG15, hG16, hG17, hG18, hG19, hG20, hG21, hG22, hG23⟩ ⟨hT1, hTt⟩ hI (by omega) (by omega) (by omega) (by omega) (by omega) (by omega) rfl (by omega) 41 1 0 (vU) (vU) (vU) (vU) (vU) (vU) (vU) (vU) (vU) c_l (aq_smt (aq_sm0 (c := c) (S := mo_S y)) (aq_smi s_l (fun a h => mo_S3 h))) (by omega) (by omega) q_l (Or.inr ⟨rfl, R_l⟩) (by omega)
          · refine am_E.go (t2 := (54, [vR y, vI sa, vI w, vI t, vI u, vU, vU, vU, vU, vU, vU, vU, vU, vU, vU, vU, vU], [vI (-2)], aq_h m s F c)) rfl rfl ?_
            refine am_E.ret rfl rfl ?_
            exact ⟨_, rfl, aq_sm0, ⟨_, rfl⟩, hI⟩
        · refine am_E.go (t2 := (35, [vR y, vI sa, vI w, vI t, vI u, vU, vU, vU, vU, vU, vU, vU, vU, vU, vU, vU, vU], [vI (-1)], aq_h m s F c)) rfl rfl ?_
          refine am_E.ret rfl rfl ?_
          exact ⟨_, rfl, aq_sm0, ⟨_, rfl⟩, hI⟩
theorem qk_X5_halves {m s : Nat} {F : aq_F} {c : aq_C} {y : Nat} (hC : mo_C m F y) (hI : mo_I y c) {n t : Int} : am_E ac_X5_halves (0, [vR y, vI n, vI t], [], aq_h m s F c) (aq_Z m s F (fun a => y ≤ a ∧ a < y + 24 ∧ a ≠ y + 10) c (fun r d => aq_vi r ∧ mo_I y d)) := by
  obtain ⟨⟨hm, hFo, hG5, hG6, hG7, hG8, hG9, hG10, hG11, hG12, hG13, hG14, hG15, hG16, hG17, hG18, hG19, hG20, hG21, hG22, hG23⟩, ⟨tbl, hT1, hTt⟩, ⟨tA, tB, tD, hL1, hL2, hL3, hLt⟩⟩ := hC
  refine am_E.go (t2 := (1, [vR y, vI n, vI t], [vI n], aq_h m s F c)) rfl rfl ?_
  refine am_E.go (t2 := (2, [vR y, vI n, vI t], [vI t, vI n], aq_h m s F c)) rfl rfl ?_
  refine am_E.call rfl rfl rfl (Nat.le_of_ble_eq_true rfl) (qm_areHalves) ?_
  rintro r5 h5 ⟨rfl, v_1, rfl, hv_1⟩
  show am_E _ (5, [vR y, vI n, vI t], [vI v_1], aq_h m s F c) _
  refine ae_if0 rfl (fun (q_2 : v_1 = 0) => ?_) (fun (q_2 : v_1 ≠ 0) => ?_)
  · refine am_E.go (t2 := (23, [vR y, vI n, vI t], [vI (-1)], aq_h m s F c)) rfl rfl ?_
    refine am_E.ret rfl rfl ?_
    exact ⟨_, rfl, aq_smi (aq_sm0 (c := c) (S := mo_S y)) (fun a h => mo_Sc h), ⟨_, rfl⟩, mo_Ik hI (aq_sm0 (c := c) (S := mo_S y)) (mo_k0 (y := y) (c := c))⟩
  · refine am_E.go (t2 := (9, [vR y, vI n, vI t], [vR y], aq_h m s F c)) rfl rfl ?_
    refine am_E.go (t2 := (10, [vR y, vI n, vI t], [vI n, vR y], aq_h m s F c)) rfl rfl ?_
    refine am_E.go (t2 := (11, [vR y, vI n, vI t], [vI t, vI n, vR y], aq_h m s F c)) rfl rfl ?_
    refine am_E.go (t2 := (12, [vR y, vI n, vI t], [vI (-1), vI t, vI n, vR y], aq_h m s F c)) rfl rfl ?_
    refine am_E.go (t2 := (13, [vR y, vI n, vI t], [vR y, vI (-1), vI t, vI n, vR y], aq_h m s F c)) rfl rfl ?_
    refine aq_gf (v := vR (y + 18)) rfl (by omega) hFo (by decide) rfl ?_
    show am_E _ (16, [vR y, vI n, vI t], [vR (y + 18), vI (-1), vI t, vI n, vR y], aq_h m s F c) _
    refine aq_callv (y := 5) (as2 := [vI n, vI t, vI (-1), vR (y + 18)]) (rest := []) rfl rfl (by decide) (Nat.le_of_ble_eq_true rfl) rfl rfl (Nat.le_of_ble_eq_true rfl) (by omega) hFo rfl (Nat.le_of_ble_eq_true rfl) (qm_lay (y := y) (a := y + 18) (by omega) hFo (by omega) hG18 (n := n) (t := t) (by omega) (by omega) (by omega) (by omega) (Or.inl rfl)) ?_
    rintro r5 h5 ⟨c_3, rfl, sc_3, vc_3, rfl, hmc_3, hdc_3⟩
    show am_E _ (19, [vR y, vI n, vI t], [vI vc_3], aq_h m s F c_3) _
    have hm5 := hmc_3 rfl
    have hNb := hv_Nb n t
    refine am_E.go (t2 := (23, [vR y, vI n, vI t], [vI vc_3], aq_h m s F c_3)) rfl rfl ?_
    refine am_E.ret rfl rfl ?_
    exact ⟨_, rfl, aq_smi (aq_smt (aq_sm0 (c := c) (S := mo_S y)) (aq_smi sc_3 (fun a h => by unfold mo_S; omega))) (fun a h => mo_Sc h), ⟨_, rfl⟩, mo_Ik hI (aq_smt (aq_sm0 (c := c) (S := mo_S y)) (aq_smi sc_3 (fun a h => by unfold mo_S; omega))) (mo_ks (mo_k0 (y := y) (c := c)) sc_3 (by omega))⟩

theorem qk_X5_half {m s : Nat} {F : aq_F} {c : aq_C} {y : Nat} (hC : mo_C m F y) (hI : mo_I y c) {n t i p : Int} : am_E ac_X5_half (0, [vR y, vI n, vI t, vI i, vI p, vU], [], aq_h m s F c) (aq_Z m s F (fun a => y ≤ a ∧ a < y + 24 ∧ a ≠ y + 10) c (fun r d => aq_vi r ∧ mo_I y d)) := by
  obtain ⟨⟨hm, hFo, hG5, hG6, hG7, hG8, hG9, hG10, hG11, hG12, hG13, hG14, hG15, hG16, hG17, hG18, hG19, hG20, hG21, hG22, hG23⟩, ⟨tbl, hT1, hTt⟩, ⟨tA, tB, tD, hL1, hL2, hL3, hLt⟩⟩ := hC
  refine am_E.go (t2 := (1, [vR y, vI n, vI t, vI i, vI p, vU], [vI n], aq_h m s F c)) rfl rfl ?_
  refine am_E.go (t2 := (2, [vR y, vI n, vI t, vI i, vI p, vU], [vI t, vI n], aq_h m s F c)) rfl rfl ?_
  refine am_E.call rfl rfl rfl (Nat.le_of_ble_eq_true rfl) (qm_areHalves) ?_
  rintro r5 h5 ⟨rfl, v_1, rfl, hv_1⟩
  show am_E _ (5, [vR y, vI n, vI t, vI i, vI p, vU], [vI v_1], aq_h m s F c) _
  refine ae_if0 rfl (fun (q_2 : v_1 = 0) => ?_) (fun (q_2 : v_1 ≠ 0) => ?_)
  · refine am_E.go (t2 := (27, [vR y, vI n, vI t, vI i, vI p, vU], [vI (-1)], aq_h m s F c)) rfl rfl ?_
    refine am_E.ret rfl rfl ?_
    exact ⟨_, rfl, aq_smi (aq_sm0 (c := c) (S := mo_S y)) (fun a h => mo_Sc h), ⟨_, rfl⟩, mo_Ik hI (aq_sm0 (c := c) (S := mo_S y)) (mo_k0 (y := y) (c := c))⟩
  · refine am_E.go (t2 := (9, [vR y, vI n, vI t, vI i, vI p, vU], [vI i], aq_h m s F c)) rfl rfl ?_
    refine ae_if0 rfl (fun (q_3 : i < 0) => ?_) (fun (q_3 : 0 ≤ i) => ?_)
    · refine am_E.go (t2 := (27, [vR y, vI n, vI t, vI i, vI p, vU], [vI (-1)], aq_h m s F c)) rfl rfl ?_
      refine am_E.ret rfl rfl ?_
      exact ⟨_, rfl, aq_smi (aq_sm0 (c := c) (S := mo_S y)) (fun a h => mo_Sc h), ⟨_, rfl⟩, mo_Ik hI (aq_sm0 (c := c) (S := mo_S y)) (mo_k0 (y := y) (c := c))⟩
    · refine am_E.go (t2 := (14, [vR y, vI n, vI t, vI i, vI p, vU], [vI p], aq_h m s F c)) rfl rfl ?_
      refine am_E.go (t2 := (15, [vR y, vI n, vI t, vI i, vI p, vU], [vL p], aq_h m s F c)) rfl rfl ?_
      refine am_E.go (t2 := (16, [vR y, vI n, vI t, vI i, vI p, vU], [vL 0, vL p], aq_h m s F c)) rfl rfl ?_
      refine am_E.go (t2 := (17, [vR y, vI n, vI t, vI i, vI p, vU], [vI n, vL 0, vL p], aq_h m s F c)) rfl rfl ?_
      refine am_E.go (t2 := (18, [vR y, vI n, vI t, vI i, vI p, vU], [vI 1, vI n, vL 0, vL p], aq_h m s F c)) rfl rfl ?_
      refine ae_sub rfl (am_ri (by omega) (by omega)) ?_
      show am_E _ (19, [vR y, vI n, vI t, vI i, vI p, vU], [vI (n - 1), vL 0, vL p], aq_h m s F c) _
      refine am_E.go (t2 := (20, [vR y, vI n, vI t, vI i, vI p, vU], [vL (n - 1), vL 0, vL p], aq_h m s F c)) rfl rfl ?_
      refine am_E.call rfl rfl rfl (Nat.le_of_ble_eq_true rfl) (qm_in) ?_
      rintro r5 h5 ⟨rfl, v_4, rfl, hv_4⟩
      show am_E _ (23, [vR y, vI n, vI t, vI i, vI p, vU], [vI v_4], aq_h m s F c) _
      refine ae_if0 rfl (fun (q_5 : v_4 ≠ 0) => ?_) (fun (q_5 : v_4 = 0) => ?_)
      · refine am_E.go (t2 := (29, [vR y, vI n, vI t, vI i, vI p, vU], [vI i], aq_h m s F c)) rfl rfl ?_
        refine am_E.go (t2 := (30, [vR y, vI n, vI t, vI i, vI p, vU], [vR y, vI i], aq_h m s F c)) rfl rfl ?_
        refine am_E.go (t2 := (31, [vR y, vI n, vI t, vI i, vI p, vU], [vI n, vR y, vI i], aq_h m s F c)) rfl rfl ?_
        refine am_E.go (t2 := (32, [vR y, vI n, vI t, vI i, vI p, vU], [vI t, vI n, vR y, vI i], aq_h m s F c)) rfl rfl ?_
        refine am_E.go (t2 := (33, [vR y, vI n, vI t, vI i, vI p, vU], [vI (-1), vI t, vI n, vR y, vI i], aq_h m s F c)) rfl rfl ?_
        refine am_E.go (t2 := (34, [vR y, vI n, vI t, vI i, vI p, vU], [vR y, vI (-1), vI t, vI n, vR y, vI i], aq_h m s F c)) rfl rfl ?_
        refine aq_gf (v := vR (y + 18)) rfl (by omega) hFo (by decide) rfl ?_
        show am_E _ (37, [vR y, vI n, vI t, vI i, vI p, vU], [vR (y + 18), vI (-1), vI t, vI n, vR y, vI i], aq_h m s F c) _
        refine aq_callv (y := 5) (as2 := [vI n, vI t, vI (-1), vR (y + 18)]) (rest := [vI i]) rfl rfl (by decide) (Nat.le_of_ble_eq_true rfl) rfl rfl (Nat.le_of_ble_eq_true rfl) (by omega) hFo rfl (Nat.le_of_ble_eq_true rfl) (qm_lay (y := y) (a := y + 18) (by omega) hFo (by omega) hG18 (n := n) (t := t) (by omega) (by omega) (by omega) (by omega) (Or.inl rfl)) ?_
        rintro r5 h5 ⟨c_6, rfl, sc_6, vc_6, rfl, hmc_6, hdc_6⟩
        show am_E _ (40, [vR y, vI n, vI t, vI i, vI p, vU], [vI vc_6, vI i], aq_h m s F c_6) _
        have hm5 := hmc_6 rfl
        have hNb := hv_Nb n t
        refine ae_icmp rfl (fun (q_7 : i < vc_6) => ?_) (fun (q_7 : vc_6 ≤ i) => ?_)
        · refine am_E.go (t2 := (47, [vR y, vI n, vI t, vI i, vI p, vU], [vR y], aq_h m s F c_6)) rfl rfl ?_
          refine am_E.go (t2 := (48, [vR y, vI n, vI t, vI i, vI p, vU], [vI n, vR y], aq_h m s F c_6)) rfl rfl ?_
          refine am_E.go (t2 := (49, [vR y, vI n, vI t, vI i, vI p, vU], [vI t, vI n, vR y], aq_h m s F c_6)) rfl rfl ?_
          refine am_E.go (t2 := (50, [vR y, vI n, vI t, vI i, vI p, vU], [vI i, vI t, vI n, vR y], aq_h m s F c_6)) rfl rfl ?_
          refine am_E.go (t2 := (51, [vR y, vI n, vI t, vI i, vI p, vU], [vR y, vI i, vI t, vI n, vR y], aq_h m s F c_6)) rfl rfl ?_
          refine aq_gf (v := vR (y + 18)) rfl (by omega) hFo (by decide) rfl ?_
          show am_E _ (54, [vR y, vI n, vI t, vI i, vI p, vU], [vR (y + 18), vI i, vI t, vI n, vR y], aq_h m s F c_6) _
          refine aq_callv (y := 5) (as2 := [vI n, vI t, vI i, vR (y + 18)]) (rest := []) rfl rfl (by decide) (Nat.le_of_ble_eq_true rfl) rfl rfl (Nat.le_of_ble_eq_true rfl) (by omega) hFo rfl (Nat.le_of_ble_eq_true rfl) (qm_lay (y := y) (a := y + 18) (by omega) hFo (by omega) hG18 (n := n) (t := t) (by omega) (by omega) (by omega) (by omega) (Or.inr ⟨by omega, by omega⟩)) ?_
          rintro r5 h5 ⟨c_8, rfl, sc_8, vc_8, rfl, hmc_8, hdc_8⟩
          show am_E _ (57, [vR y, vI n, vI t, vI i, vI p, vU], [vI vc_8], aq_h m s F c_8) _
          have hNb := hv_Nb n t
          refine am_E.go (t2 := (59, [vR y, vI n, vI t, vI i, vI p, vI vc_8], [], aq_h m s F c_8)) rfl rfl ?_
          refine am_E.go (t2 := (60, [vR y, vI n, vI t, vI i, vI p, vI vc_8], [vR y], aq_h m s F c_8)) rfl rfl ?_
          refine aq_gf (v := vR (y + 18)) rfl (by omega) hFo (by decide) rfl ?_
          show am_E _ (63, [vR y, vI n, vI t, vI i, vI p, vI vc_8], [vR (y + 18)], aq_h m s F c_8) _
          refine am_E.go (t2 := (65, [vR y, vI n, vI t, vI i, vI p, vI vc_8], [vI p, vR (y + 18)], aq_h m s F c_8)) rfl rfl ?_
          refine aq_al (ok := fun k => k == 0) (v := vI (c_8 (y + 18) p)) rfl rfl (by omega) hG18 rfl (by omega) (by omega) rfl ?_
          show am_E _ (66, [vR y, vI n, vI t, vI i, vI p, vI vc_8], [vI (c_8 (y + 18) p)], aq_h m s F c_8) _
          refine am_E.ret rfl rfl ?_
          exact ⟨_, rfl, aq_smi (aq_smt (aq_smt (aq_sm0 (c := c) (S := mo_S y)) (aq_smi sc_6 (fun a h => by unfold mo_S; omega))) (aq_smi sc_8 (fun a h => by unfold mo_S; omega))) (fun a h => mo_Sc h), ⟨_, rfl⟩, mo_Ik hI (aq_smt (aq_smt (aq_sm0 (c := c) (S := mo_S y)) (aq_smi sc_6 (fun a h => by unfold mo_S; omega))) (aq_smi sc_8 (fun a h => by unfold mo_S; omega))) (mo_ks (mo_ks (mo_k0 (y := y) (c := c)) sc_6 (by omega)) sc_8 (by omega))⟩
        · refine am_E.go (t2 := (45, [vR y, vI n, vI t, vI i, vI p, vU], [vI (-4)], aq_h m s F c_6)) rfl rfl ?_
          refine am_E.ret rfl rfl ?_
          exact ⟨_, rfl, aq_smi (aq_smt (aq_sm0 (c := c) (S := mo_S y)) (aq_smi sc_6 (fun a h => by unfold mo_S; omega))) (fun a h => mo_Sc h), ⟨_, rfl⟩, mo_Ik hI (aq_smt (aq_sm0 (c := c) (S := mo_S y)) (aq_smi sc_6 (fun a h => by unfold mo_S; omega))) (mo_ks (mo_k0 (y := y) (c := c)) sc_6 (by omega))⟩
      · refine am_E.go (t2 := (27, [vR y, vI n, vI t, vI i, vI p, vU], [vI (-1)], aq_h m s F c)) rfl rfl ?_
        refine am_E.ret rfl rfl ?_
        exact ⟨_, rfl, aq_smi (aq_sm0 (c := c) (S := mo_S y)) (fun a h => mo_Sc h), ⟨_, rfl⟩, mo_Ik hI (aq_sm0 (c := c) (S := mo_S y)) (mo_k0 (y := y) (c := c))⟩

theorem qk_X5_form {m s : Nat} {F : aq_F} {c : aq_C} {y : Nat} (hC : mo_C m F y) (hI : mo_I y c) {n t i j : Int} : am_E ac_X5_form (0, [vR y, vI n, vI t, vI i, vI j, vU, vU, vU], [], aq_h m s F c) (aq_Z m s F (fun a => y ≤ a ∧ a < y + 24 ∧ a ≠ y + 10) c (fun r d => aq_vi r ∧ mo_I y d)) :=
  (qm_form hC.1).imp (fun r h2 ⟨d, e1, e2, e3, _, v, e4, _⟩ => ⟨d, e1, aq_smi e2 (fun a h => mo_Sc h), ⟨v, e4⟩, mo_Ik hI e2 e3⟩)

theorem qk_free_w {m s : Nat} {F : aq_F} {c0 : aq_C} {y : Nat} (hO : mo_0 m F y) (hI : mo_I y c0) {n t v p mn lt : Int} (hn1 : 1 ≤ n) (hn4 : n ≤ 4) (ht0 : 0 ≤ t) (ht1 : t ≤ n) (hp0 : 2 ≤ p) (hp1 : p ≤ 997) (hP : nm_P p) (hmn0 : 0 ≤ mn) (hmn : mn ≤ 6) (hl0 : 0 ≤ lt) (hl1 : lt < p) : ∀ (d : Nat) (rk : Int) (cc : Int) (w : Int) (v10 : am_V) (v11 : am_V) (c : aq_C) (hs : aq_sm (mo_S y) c0 c) (h0 : 0 ≤ cc) (h1 : cc < mn) (h2 : 0 ≤ rk) (h3 : rk ≤ w) (h4 : w ≤ mn) (hob : mo_k y c0 c) (hfr : fr_ y p mn c) (hd : mn - w < (d : Int)) (K0 : ∀ (w2 : Int) (c2 : aq_C) (hs2 : aq_sm (mo_S y) c0 c2) (f1 : rk ≤ w2) (f2 : w2 ≤ mn) (f3 : w2 = mn ∨ c2 (y + 20) (6 * w2 + cc) ≠ 0) (hob2 : mo_k y c0 c2) (hfr2 : fr_ y p mn c2), am_E ac_X5_free (220, [vR y, vI n, vI t, vI v, vI p, vI mn, vI lt, vI rk, vI cc, vI w2, v10, v11], [], aq_h m s F c2) (aq_Z m s F (fun a => y ≤ a ∧ a < y + 24 ∧ a ≠ y + 10) c0 (fun r d => aq_vi r ∧ mo_I y d))), am_E ac_X5_free (191, [vR y, vI n, vI t, vI v, vI p, vI mn, vI lt, vI rk, vI cc, vI w, v10, v11], [], aq_h m s F c) (aq_Z m s F (fun a => y ≤ a ∧ a < y + 24 ∧ a ≠ y + 10) c0 (fun r d => aq_vi r ∧ mo_I y d))
  | 0, rk, cc, w, v10, v11, c, hs, h0, h1, h2, h3, h4, hob, hfr, hd, K0 => by exfalso; omega
  | d + 1, rk, cc, w, v10, v11, c, hs, h0, h1, h2, h3, h4, hob, hfr, hd, K0 => by
    obtain ⟨hm, hFo, hG5, hG6, hG7, hG8, hG9, hG10, hG11, hG12, hG13, hG14, hG15, hG16, hG17, hG18, hG19, hG20, hG21, hG22, hG23⟩ := hO
    refine am_E.go (t2 := (193, [vR y, vI n, vI t, vI v, vI p, vI mn, vI lt, vI rk, vI cc, vI w, v10, v11], [vI w], aq_h m s F c)) rfl rfl ?_
    refine am_E.go (t2 := (195, [vR y, vI n, vI t, vI v, vI p, vI mn, vI lt, vI rk, vI cc, vI w, v10, v11], [vI mn, vI w], aq_h m s F c)) rfl rfl ?_
    refine ae_icmp rfl (fun (q_1 : mn ≤ w) => ?_) (fun (q_1 : w < mn) => ?_)
    · exact K0 w c hs (by omega) (by omega) (by first | (exact Or.inl (by omega)) | (exact Or.inr (by assumption))) hob hfr
    · refine am_E.go (t2 := (199, [vR y, vI n, vI t, vI v, vI p, vI mn, vI lt, vI rk, vI cc, vI w, v10, v11], [vR y], aq_h m s F c)) rfl rfl ?_
      refine aq_gf (v := vR (y + 20)) rfl (by omega) hFo (by decide) rfl ?_
      show am_E _ (202, [vR y, vI n, vI t, vI v, vI p, vI mn, vI lt, vI rk, vI cc, vI w, v10, v11], [vR (y + 20)], aq_h m s F c) _
      refine am_E.go (t2 := (204, [vR y, vI n, vI t, vI v, vI p, vI mn, vI lt, vI rk, vI cc, vI w, v10, v11], [vI 6, vR (y + 20)], aq_h m s F c)) rfl rfl ?_
      refine am_E.go (t2 := (206, [vR y, vI n, vI t, vI v, vI p, vI mn, vI lt, vI rk, vI cc, vI w, v10, v11], [vI w, vI 6, vR (y + 20)], aq_h m s F c)) rfl rfl ?_
      refine ae_mul rfl (am_ri (by omega) (by omega)) ?_
      show am_E _ (207, [vR y, vI n, vI t, vI v, vI p, vI mn, vI lt, vI rk, vI cc, vI w, v10, v11], [vI (6 * w), vR (y + 20)], aq_h m s F c) _
      refine am_E.go (t2 := (209, [vR y, vI n, vI t, vI v, vI p, vI mn, vI lt, vI rk, vI cc, vI w, v10, v11], [vI cc, vI (6 * w), vR (y + 20)], aq_h m s F c)) rfl rfl ?_
      refine ae_add rfl (am_ri (by omega) (by omega)) ?_
      show am_E _ (210, [vR y, vI n, vI t, vI v, vI p, vI mn, vI lt, vI rk, vI cc, vI w, v10, v11], [vI ((6 * w) + cc), vR (y + 20)], aq_h m s F c) _
      refine aq_al (ok := fun k => k == 0) (v := vI (c (y + 20) ((6 * w) + cc))) rfl rfl (by omega) hG20 rfl (by omega) (by omega) rfl ?_
      show am_E _ (211, [vR y, vI n, vI t, vI v, vI p, vI mn, vI lt, vI rk, vI cc, vI w, v10, v11], [vI (c (y + 20) ((6 * w) + cc))], aq_h m s F c) _
      refine ae_if0 rfl (fun (q_2 : (c (y + 20) ((6 * w) + cc)) ≠ 0) => ?_) (fun (q_2 : (c (y + 20) ((6 * w) + cc)) = 0) => ?_)
      · exact K0 w c hs (by omega) (by omega) (by first | (exact Or.inl (by omega)) | (exact Or.inr (by assumption))) hob hfr
      · refine ae_iinc rfl rfl (am_ri (by omega) (by omega)) ?_
        show am_E _ (217, [vR y, vI n, vI t, vI v, vI p, vI mn, vI lt, vI rk, vI cc, vI (w + 1), v10, v11], [], aq_h m s F c) _
        refine am_E.go (t2 := (191, [vR y, vI n, vI t, vI v, vI p, vI mn, vI lt, vI rk, vI cc, vI (w + 1), v10, v11], [], aq_h m s F c)) rfl rfl ?_
        exact qk_free_w ⟨hm, hFo, hG5, hG6, hG7, hG8, hG9, hG10, hG11, hG12, hG13, hG14, hG15, hG16, hG17, hG18, hG19, hG20, hG21, hG22, hG23⟩ hI hn1 hn4 ht0 ht1 hp0 hp1 hP hmn0 hmn hl0 hl1 d rk cc (w + 1) (v10) (v11) c hs (by omega) (by omega) (by omega) (by omega) (by omega) hob hfr (by omega) K0

theorem qk_free_r {m s : Nat} {F : aq_F} {c0 : aq_C} {y : Nat} (hO : mo_0 m F y) (hI : mo_I y c0) {n t v p mn lt : Int} (hn1 : 1 ≤ n) (hn4 : n ≤ 4) (ht0 : 0 ≤ t) (ht1 : t ≤ n) (hp0 : 2 ≤ p) (hp1 : p ≤ 997) (hP : nm_P p) (hmn0 : 0 ≤ mn) (hmn : mn ≤ 6) (hl0 : 0 ≤ lt) (hl1 : lt < p) : ∀ (d : Nat) (rk : Int) (cc : Int) (v9 : am_V) (v10 : am_V) (v11 : am_V) (c : aq_C) (hs : aq_sm (mo_S y) c0 c) (h0 : 0 ≤ cc) (h1 : cc ≤ mn) (h2 : 0 ≤ rk) (h3 : rk ≤ cc) (hob : mo_k y c0 c) (hfr : fr_ y p mn c) (hd : mn - cc < (d : Int)), am_E ac_X5_free (180, [vR y, vI n, vI t, vI v, vI p, vI mn, vI lt, vI rk, vI cc, v9, v10, v11], [], aq_h m s F c) (aq_Z m s F (fun a => y ≤ a ∧ a < y + 24 ∧ a ≠ y + 10) c0 (fun r d => aq_vi r ∧ mo_I y d))
  | 0, rk, cc, v9, v10, v11, c, hs, h0, h1, h2, h3, hob, hfr, hd => by exfalso; omega
  | d + 1, rk, cc, v9, v10, v11, c, hs, h0, h1, h2, h3, hob, hfr, hd => by
    obtain ⟨hm, hFo, hG5, hG6, hG7, hG8, hG9, hG10, hG11, hG12, hG13, hG14, hG15, hG16, hG17, hG18, hG19, hG20, hG21, hG22, hG23⟩ := hO
    refine am_E.go (t2 := (182, [vR y, vI n, vI t, vI v, vI p, vI mn, vI lt, vI rk, vI cc, v9, v10, v11], [vI cc], aq_h m s F c)) rfl rfl ?_
    refine am_E.go (t2 := (184, [vR y, vI n, vI t, vI v, vI p, vI mn, vI lt, vI rk, vI cc, v9, v10, v11], [vI mn, vI cc], aq_h m s F c)) rfl rfl ?_
    refine ae_icmp rfl (fun (q_1 : mn ≤ cc) => ?_) (fun (q_1 : cc < mn) => ?_)
    · refine am_E.go (t2 := (252, [vR y, vI n, vI t, vI v, vI p, vI mn, vI lt, vI rk, vI cc, v9, v10, v11], [vI rk], aq_h m s F c)) rfl rfl ?_
      refine am_E.ret rfl rfl ?_
      exact ⟨_, rfl, aq_smi hs (fun a h => mo_Sc h), ⟨_, rfl⟩, mo_Ik hI hs hob⟩
    · refine am_E.go (t2 := (189, [vR y, vI n, vI t, vI v, vI p, vI mn, vI lt, vI rk, vI cc, v9, v10, v11], [vI rk], aq_h m s F c)) rfl rfl ?_
      refine am_E.go (t2 := (191, [vR y, vI n, vI t, vI v, vI p, vI mn, vI lt, vI rk, vI cc, vI rk, v10, v11], [], aq_h m s F c)) rfl rfl ?_
      refine qk_free_w ⟨hm, hFo, hG5, hG6, hG7, hG8, hG9, hG10, hG11, hG12, hG13, hG14, hG15, hG16, hG17, hG18, hG19, hG20, hG21, hG22, hG23⟩ hI hn1 hn4 ht0 ht1 hp0 hp1 hP hmn0 hmn hl0 hl1 8 rk cc rk (v10) (v11) c hs (by omega) (by omega) (by omega) (by omega) (by omega) hob hfr (by omega) ?_
      · intro w2_191 c_2 sc_2 f1_191 f2_191 f3_191 hob2_191 hfr2_191
        refine am_E.go (t2 := (222, [vR y, vI n, vI t, vI v, vI p, vI mn, vI lt, vI rk, vI cc, vI w2_191, (v10), (v11)], [vI w2_191], aq_h m s F c_2)) rfl rfl ?_
        refine am_E.go (t2 := (224, [vR y, vI n, vI t, vI v, vI p, vI mn, vI lt, vI rk, vI cc, vI w2_191, (v10), (v11)], [vI mn, vI w2_191], aq_h m s F c_2)) rfl rfl ?_
        refine ae_icmp rfl (fun (q_3 : mn ≤ w2_191) => ?_) (fun (q_3 : w2_191 < mn) => ?_)
        · refine ae_iinc rfl rfl (am_ri (by omega) (by omega)) ?_
          show am_E _ (247, [vR y, vI n, vI t, vI v, vI p, vI mn, vI lt, vI rk, vI (cc + 1), vI w2_191, (v10), (v11)], [], aq_h m s F c_2) _
          refine am_E.go (t2 := (180, [vR y, vI n, vI t, vI v, vI p, vI mn, vI lt, vI rk, vI (cc + 1), vI w2_191, (v10), (v11)], [], aq_h m s F c_2)) rfl rfl ?_
          exact qk_free_r ⟨hm, hFo, hG5, hG6, hG7, hG8, hG9, hG10, hG11, hG12, hG13, hG14, hG15, hG16, hG17, hG18, hG19, hG20, hG21, hG22, hG23⟩ hI hn1 hn4 ht0 ht1 hp0 hp1 hP hmn0 hmn hl0 hl1 d rk (cc + 1) (vI w2_191) ((v10)) ((v11)) c_2 sc_2 (by omega) (by omega) (by omega) (by omega) hob2_191 hfr2_191 (by omega)
        · refine am_E.go (t2 := (228, [vR y, vI n, vI t, vI v, vI p, vI mn, vI lt, vI rk, vI cc, vI w2_191, (v10), (v11)], [vR y], aq_h m s F c_2)) rfl rfl ?_
          refine am_E.go (t2 := (230, [vR y, vI n, vI t, vI v, vI p, vI mn, vI lt, vI rk, vI cc, vI w2_191, (v10), (v11)], [vI mn, vR y], aq_h m s F c_2)) rfl rfl ?_
          refine am_E.go (t2 := (232, [vR y, vI n, vI t, vI v, vI p, vI mn, vI lt, vI rk, vI cc, vI w2_191, (v10), (v11)], [vI rk, vI mn, vR y], aq_h m s F c_2)) rfl rfl ?_
          refine am_E.go (t2 := (234, [vR y, vI n, vI t, vI v, vI p, vI mn, vI lt, vI rk, vI cc, vI w2_191, (v10), (v11)], [vI w2_191, vI rk, vI mn, vR y], aq_h m s F c_2)) rfl rfl ?_
          refine am_E.go (t2 := (236, [vR y, vI n, vI t, vI v, vI p, vI mn, vI lt, vI rk, vI cc, vI w2_191, (v10), (v11)], [vI cc, vI w2_191, vI rk, vI mn, vR y], aq_h m s F c_2)) rfl rfl ?_
          refine am_E.go (t2 := (238, [vR y, vI n, vI t, vI v, vI p, vI mn, vI lt, vI rk, vI cc, vI w2_191, (v10), (v11)], [vI p, vI cc, vI w2_191, vI rk, vI mn, vR y], aq_h m s F c_2)) rfl rfl ?_
          refine aq_callv (y := 6) (as2 := [vI mn, vI rk, vI w2_191, vI cc, vI p]) (rest := []) rfl rfl (by decide) (Nat.le_of_ble_eq_true rfl) rfl rfl (Nat.le_of_ble_eq_true rfl) (by omega) hFo rfl (Nat.le_of_ble_eq_true rfl) (qm_reduce ⟨hm, hFo, hG5, hG6, hG7, hG8, hG9, hG10, hG11, hG12, hG13, hG14, hG15, hG16, hG17, hG18, hG19, hG20, hG21, hG22, hG23⟩ (mn := mn) (rk := rk) (rw_ := w2_191) (cc := cc) (p := p) hp0 hp1 hmn (by omega) (by omega) (by omega) (by omega) (by omega) (by omega) hP hfr2_191 (by rcases f3_191 with h | h; exact absurd h (by omega); exact h)) ?_
          rintro r5 h5 ⟨c_r, rfl, s_r, rfl, fr_r⟩
          show am_E _ (241, [vR y, vI n, vI t, vI v, vI p, vI mn, vI lt, vI rk, vI cc, vI w2_191, (v10), (v11)], [], aq_h m s F c_r) _
          refine ae_iinc rfl rfl (am_ri (by omega) (by omega)) ?_
          show am_E _ (244, [vR y, vI n, vI t, vI v, vI p, vI mn, vI lt, vI (rk + 1), vI cc, vI w2_191, (v10), (v11)], [], aq_h m s F c_r) _
          refine ae_iinc rfl rfl (am_ri (by omega) (by omega)) ?_
          show am_E _ (247, [vR y, vI n, vI t, vI v, vI p, vI mn, vI lt, vI (rk + 1), vI (cc + 1), vI w2_191, (v10), (v11)], [], aq_h m s F c_r) _
          refine am_E.go (t2 := (180, [vR y, vI n, vI t, vI v, vI p, vI mn, vI lt, vI (rk + 1), vI (cc + 1), vI w2_191, (v10), (v11)], [], aq_h m s F c_r)) rfl rfl ?_
          exact qk_free_r ⟨hm, hFo, hG5, hG6, hG7, hG8, hG9, hG10, hG11, hG12, hG13, hG14, hG15, hG16, hG17, hG18, hG19, hG20, hG21, hG22, hG23⟩ hI hn1 hn4 ht0 ht1 hp0 hp1 hP hmn0 hmn hl0 hl1 d (rk + 1) (cc + 1) (vI w2_191) ((v10)) ((v11)) c_r (aq_smt sc_2 (aq_smi s_r (fun a h => by unfold mo_S; omega))) (by omega) (by omega) (by omega) (by omega) (mo_ks hob2_191 s_r (by omega)) fr_r (by omega)

theorem qk_free_e {m s : Nat} {F : aq_F} {c0 : aq_C} {y : Nat} (hO : mo_0 m F y) (hI : mo_I y c0) {n t v p mn lt : Int} (hn1 : 1 ≤ n) (hn4 : n ≤ 4) (ht0 : 0 ≤ t) (ht1 : t ≤ n) (hp0 : 2 ≤ p) (hp1 : p ≤ 997) (hP : nm_P p) (hmn0 : 0 ≤ mn) (hmn : mn ≤ 6) (hl0 : 0 ≤ lt) (hl1 : lt < p) : ∀ (d : Nat) (i : Int) (j : Int) (pw : Int) (e : Int) (k : Int) (c : aq_C) (hs : aq_sm (mo_S y) c0 c) (h0 : 0 ≤ e) (h1 : e < p) (h2 : 0 ≤ k) (h3 : k ≤ 4) (h4 : pw ≤ 4) (hob : mo_k y c0 c) (hff : ff_ y p mn i j c) (hd : max 0 (pw - k) < (d : Int)) (K0 : ∀ (e2 : Int) (k2 : Int) (c2 : aq_C) (hs2 : aq_sm (mo_S y) c0 c2) (f1 : 0 ≤ e2) (f2 : e2 < p) (hob2 : mo_k y c0 c2) (hff2 : ff_ y p mn i j c2), am_E ac_X5_free (147, [vR y, vI n, vI t, vI v, vI p, vI mn, vI lt, vI i, vI j, vI pw, vI e2, vI k2], [], aq_h m s F c2) (aq_Z m s F (fun a => y ≤ a ∧ a < y + 24 ∧ a ≠ y + 10) c0 (fun r d => aq_vi r ∧ mo_I y d))), am_E ac_X5_free (124, [vR y, vI n, vI t, vI v, vI p, vI mn, vI lt, vI i, vI j, vI pw, vI e, vI k], [], aq_h m s F c) (aq_Z m s F (fun a => y ≤ a ∧ a < y + 24 ∧ a ≠ y + 10) c0 (fun r d => aq_vi r ∧ mo_I y d))
  | 0, i, j, pw, e, k, c, hs, h0, h1, h2, h3, h4, hob, hff, hd, K0 => by exfalso; omega
  | d + 1, i, j, pw, e, k, c, hs, h0, h1, h2, h3, h4, hob, hff, hd, K0 => by
    obtain ⟨hm, hFo, hG5, hG6, hG7, hG8, hG9, hG10, hG11, hG12, hG13, hG14, hG15, hG16, hG17, hG18, hG19, hG20, hG21, hG22, hG23⟩ := hO
    refine am_E.go (t2 := (126, [vR y, vI n, vI t, vI v, vI p, vI mn, vI lt, vI i, vI j, vI pw, vI e, vI k], [vI k], aq_h m s F c)) rfl rfl ?_
    refine am_E.go (t2 := (128, [vR y, vI n, vI t, vI v, vI p, vI mn, vI lt, vI i, vI j, vI pw, vI e, vI k], [vI pw, vI k], aq_h m s F c)) rfl rfl ?_
    refine ae_icmp rfl (fun (q_1 : pw ≤ k) => ?_) (fun (q_1 : k < pw) => ?_)
    · exact K0 e k c hs (by omega) (by omega) hob hff
    · refine am_E.go (t2 := (133, [vR y, vI n, vI t, vI v, vI p, vI mn, vI lt, vI i, vI j, vI pw, vI e, vI k], [vI e], aq_h m s F c)) rfl rfl ?_
      refine am_E.go (t2 := (135, [vR y, vI n, vI t, vI v, vI p, vI mn, vI lt, vI i, vI j, vI pw, vI e, vI k], [vI lt, vI e], aq_h m s F c)) rfl rfl ?_
      have u_2 := nm_mul (a := e) (b := lt) (by omega) (by omega) (by omega) (by omega)
      refine ae_mul rfl (am_ri (by omega) (by omega)) ?_
      show am_E _ (136, [vR y, vI n, vI t, vI v, vI p, vI mn, vI lt, vI i, vI j, vI pw, vI e, vI k], [vI (e * lt)], aq_h m s F c) _
      refine am_E.go (t2 := (138, [vR y, vI n, vI t, vI v, vI p, vI mn, vI lt, vI i, vI j, vI pw, vI e, vI k], [vI p, vI (e * lt)], aq_h m s F c)) rfl rfl ?_
      have eu_3 := nm_em (a := (e * lt)) (p := p) (by omega)
      refine ae_bin (z := (e * lt) % p) rfl rfl (am_rem_e (by omega) (by omega)) ?_
      generalize (e * lt) % p = u_3 at eu_3 ⊢
      refine am_E.go (t2 := (141, [vR y, vI n, vI t, vI v, vI p, vI mn, vI lt, vI i, vI j, vI pw, vI u_3, vI k], [], aq_h m s F c)) rfl rfl ?_
      refine ae_iinc rfl rfl (am_ri (by omega) (by omega)) ?_
      show am_E _ (144, [vR y, vI n, vI t, vI v, vI p, vI mn, vI lt, vI i, vI j, vI pw, vI u_3, vI (k + 1)], [], aq_h m s F c) _
      refine am_E.go (t2 := (124, [vR y, vI n, vI t, vI v, vI p, vI mn, vI lt, vI i, vI j, vI pw, vI u_3, vI (k + 1)], [], aq_h m s F c)) rfl rfl ?_
      exact qk_free_e ⟨hm, hFo, hG5, hG6, hG7, hG8, hG9, hG10, hG11, hG12, hG13, hG14, hG15, hG16, hG17, hG18, hG19, hG20, hG21, hG22, hG23⟩ hI hn1 hn4 ht0 ht1 hp0 hp1 hP hmn0 hmn hl0 hl1 d i j pw u_3 (k + 1) c hs (by omega) (by omega) (by omega) (by omega) (by omega) hob hff (by omega) K0

theorem qk_free_j {m s : Nat} {F : aq_F} {c0 : aq_C} {y : Nat} (hO : mo_0 m F y) (hI : mo_I y c0) {n t v p mn lt : Int} (hn1 : 1 ≤ n) (hn4 : n ≤ 4) (ht0 : 0 ≤ t) (ht1 : t ≤ n) (hp0 : 2 ≤ p) (hp1 : p ≤ 997) (hP : nm_P p) (hmn0 : 0 ≤ mn) (hmn : mn ≤ 6) (hl0 : 0 ≤ lt) (hl1 : lt < p) : ∀ (d : Nat) (i : Int) (j : Int) (v9 : am_V) (v10 : am_V) (v11 : am_V) (c : aq_C) (hs : aq_sm (mo_S y) c0 c) (h0 : 0 ≤ j) (h1 : j ≤ mn) (h2 : 0 ≤ i) (h3 : i < mn) (hob : mo_k y c0 c) (hff : ff_ y p mn i j c) (hd : mn - j < (d : Int)) (K0 : ∀ (j2 : Int) (v92 : am_V) (v102 : am_V) (v112 : am_V) (c2 : aq_C) (hs2 : aq_sm (mo_S y) c0 c2) (hob2 : mo_k y c0 c2) (hff2 : ff_ y p mn (i + 1) 0 c2), am_E ac_X5_free (168, [vR y, vI n, vI t, vI v, vI p, vI mn, vI lt, vI i, vI j2, v92, v102, v112], [], aq_h m s F c2) (aq_Z m s F (fun a => y ≤ a ∧ a < y + 24 ∧ a ≠ y + 10) c0 (fun r d => aq_vi r ∧ mo_I y d))), am_E ac_X5_free (85, [vR y, vI n, vI t, vI v, vI p, vI mn, vI lt, vI i, vI j, v9, v10, v11], [], aq_h m s F c) (aq_Z m s F (fun a => y ≤ a ∧ a < y + 24 ∧ a ≠ y + 10) c0 (fun r d => aq_vi r ∧ mo_I y d))
  | 0, i, j, v9, v10, v11, c, hs, h0, h1, h2, h3, hob, hff, hd, K0 => by exfalso; omega
  | d + 1, i, j, v9, v10, v11, c, hs, h0, h1, h2, h3, hob, hff, hd, K0 => by
    obtain ⟨hm, hFo, hG5, hG6, hG7, hG8, hG9, hG10, hG11, hG12, hG13, hG14, hG15, hG16, hG17, hG18, hG19, hG20, hG21, hG22, hG23⟩ := hO
    refine am_E.go (t2 := (87, [vR y, vI n, vI t, vI v, vI p, vI mn, vI lt, vI i, vI j, v9, v10, v11], [vI j], aq_h m s F c)) rfl rfl ?_
    refine am_E.go (t2 := (89, [vR y, vI n, vI t, vI v, vI p, vI mn, vI lt, vI i, vI j, v9, v10, v11], [vI mn, vI j], aq_h m s F c)) rfl rfl ?_
    refine ae_icmp rfl (fun (q_1 : mn ≤ j) => ?_) (fun (q_1 : j < mn) => ?_)
    · exact K0 j (v9) (v10) (v11) c hs hob (fun a b a1 a2 a3 a4 => hff a b a1 a2 a3 (by omega))
    · refine am_E.go (t2 := (93, [vR y, vI n, vI t, vI v, vI p, vI mn, vI lt, vI i, vI j, v9, v10, v11], [vR y], aq_h m s F c)) rfl rfl ?_
      refine am_E.go (t2 := (94, [vR y, vI n, vI t, vI v, vI p, vI mn, vI lt, vI i, vI j, v9, v10, v11], [vI n, vR y], aq_h m s F c)) rfl rfl ?_
      refine am_E.go (t2 := (95, [vR y, vI n, vI t, vI v, vI p, vI mn, vI lt, vI i, vI j, v9, v10, v11], [vI t, vI n, vR y], aq_h m s F c)) rfl rfl ?_
      refine am_E.go (t2 := (97, [vR y, vI n, vI t, vI v, vI p, vI mn, vI lt, vI i, vI j, v9, v10, v11], [vI i, vI t, vI n, vR y], aq_h m s F c)) rfl rfl ?_
      refine am_E.go (t2 := (99, [vR y, vI n, vI t, vI v, vI p, vI mn, vI lt, vI i, vI j, v9, v10, v11], [vI j, vI i, vI t, vI n, vR y], aq_h m s F c)) rfl rfl ?_
      refine aq_callv (y := 5) (as2 := [vI n, vI t, vI i, vI j]) (rest := []) rfl rfl (by decide) (Nat.le_of_ble_eq_true rfl) rfl rfl (Nat.le_of_ble_eq_true rfl) (by omega) hFo rfl (Nat.le_of_ble_eq_true rfl) (qm_form ⟨hm, hFo, hG5, hG6, hG7, hG8, hG9, hG10, hG11, hG12, hG13, hG14, hG15, hG16, hG17, hG18, hG19, hG20, hG21, hG22, hG23⟩) ?_
      rintro r5 h5 ⟨c_q, rfl, s_q, k_q, e_q, v_q, rfl, hv1, hv2⟩
      show am_E _ (102, [vR y, vI n, vI t, vI v, vI p, vI mn, vI lt, vI i, vI j, v9, v10, v11], [vI v_q], aq_h m s F c_q) _
      refine am_E.go (t2 := (104, [vR y, vI n, vI t, vI v, vI p, vI mn, vI lt, vI i, vI j, vI v_q, v10, v11], [], aq_h m s F c_q)) rfl rfl ?_
      refine am_E.go (t2 := (106, [vR y, vI n, vI t, vI v, vI p, vI mn, vI lt, vI i, vI j, vI v_q, v10, v11], [vI v_q], aq_h m s F c_q)) rfl rfl ?_
      refine am_E.go (t2 := (108, [vR y, vI n, vI t, vI v, vI p, vI mn, vI lt, vI i, vI j, vI v_q, v10, v11], [vI (-4), vI v_q], aq_h m s F c_q)) rfl rfl ?_
      refine ae_icmp rfl (fun (q_2 : v_q ≠ (-4)) => ?_) (fun (q_2 : v_q = (-4)) => ?_)
      · refine am_E.go (t2 := (116, [vR y, vI n, vI t, vI v, vI p, vI mn, vI lt, vI i, vI j, vI v_q, v10, v11], [vI 1], aq_h m s F c_q)) rfl rfl ?_
        refine am_E.go (t2 := (118, [vR y, vI n, vI t, vI v, vI p, vI mn, vI lt, vI i, vI j, vI v_q, v10, v11], [vI p, vI 1], aq_h m s F c_q)) rfl rfl ?_
        have eu_3 := nm_em (a := (1 : Int)) (p := p) (by omega)
        refine ae_bin (z := (1 : Int) % p) rfl rfl (am_rem_e (by omega) (by omega)) ?_
        generalize (1 : Int) % p = u_3 at eu_3 ⊢
        refine am_E.go (t2 := (121, [vR y, vI n, vI t, vI v, vI p, vI mn, vI lt, vI i, vI j, vI v_q, vI u_3, v11], [], aq_h m s F c_q)) rfl rfl ?_
        refine am_E.go (t2 := (122, [vR y, vI n, vI t, vI v, vI p, vI mn, vI lt, vI i, vI j, vI v_q, vI u_3, v11], [vI 0], aq_h m s F c_q)) rfl rfl ?_
        refine am_E.go (t2 := (124, [vR y, vI n, vI t, vI v, vI p, vI mn, vI lt, vI i, vI j, vI v_q, vI u_3, vI 0], [], aq_h m s F c_q)) rfl rfl ?_
        refine qk_free_e ⟨hm, hFo, hG5, hG6, hG7, hG8, hG9, hG10, hG11, hG12, hG13, hG14, hG15, hG16, hG17, hG18, hG19, hG20, hG21, hG22, hG23⟩ hI hn1 hn4 ht0 ht1 hp0 hp1 hP hmn0 hmn hl0 hl1 6 i j v_q u_3 0 c_q (aq_smt hs s_q) (by omega) (by omega) (by omega) (by omega) (by omega) (mo_kt hob k_q) (ff_c hff e_q) (by omega) ?_
        · intro e2_124 k2_124 c_4 sc_4 f1_124 f2_124 hob2_124 hff2_124
          refine am_E.go (t2 := (148, [vR y, vI n, vI t, vI v, vI p, vI mn, vI lt, vI i, vI j, vI v_q, vI e2_124, vI k2_124], [vR y], aq_h m s F c_4)) rfl rfl ?_
          refine aq_gf (v := vR (y + 20)) rfl (by omega) hFo (by decide) rfl ?_
          show am_E _ (151, [vR y, vI n, vI t, vI v, vI p, vI mn, vI lt, vI i, vI j, vI v_q, vI e2_124, vI k2_124], [vR (y + 20)], aq_h m s F c_4) _
          refine am_E.go (t2 := (153, [vR y, vI n, vI t, vI v, vI p, vI mn, vI lt, vI i, vI j, vI v_q, vI e2_124, vI k2_124], [vI 6, vR (y + 20)], aq_h m s F c_4)) rfl rfl ?_
          refine am_E.go (t2 := (155, [vR y, vI n, vI t, vI v, vI p, vI mn, vI lt, vI i, vI j, vI v_q, vI e2_124, vI k2_124], [vI i, vI 6, vR (y + 20)], aq_h m s F c_4)) rfl rfl ?_
          refine ae_mul rfl (am_ri (by omega) (by omega)) ?_
          show am_E _ (156, [vR y, vI n, vI t, vI v, vI p, vI mn, vI lt, vI i, vI j, vI v_q, vI e2_124, vI k2_124], [vI (6 * i), vR (y + 20)], aq_h m s F c_4) _
          refine am_E.go (t2 := (158, [vR y, vI n, vI t, vI v, vI p, vI mn, vI lt, vI i, vI j, vI v_q, vI e2_124, vI k2_124], [vI j, vI (6 * i), vR (y + 20)], aq_h m s F c_4)) rfl rfl ?_
          refine ae_add rfl (am_ri (by omega) (by omega)) ?_
          show am_E _ (159, [vR y, vI n, vI t, vI v, vI p, vI mn, vI lt, vI i, vI j, vI v_q, vI e2_124, vI k2_124], [vI ((6 * i) + j), vR (y + 20)], aq_h m s F c_4) _
          refine am_E.go (t2 := (161, [vR y, vI n, vI t, vI v, vI p, vI mn, vI lt, vI i, vI j, vI v_q, vI e2_124, vI k2_124], [vI e2_124, vI ((6 * i) + j), vR (y + 20)], aq_h m s F c_4)) rfl rfl ?_
          refine aq_as (kd := 0) rfl rfl (by omega) hG20 (by omega) (by omega) rfl rfl ?_
          show am_E _ (162, [vR y, vI n, vI t, vI v, vI p, vI mn, vI lt, vI i, vI j, vI v_q, vI e2_124, vI k2_124], [], aq_h m s F (aq_u c_4 (y + 20) ((6 * i) + j) e2_124)) _
          generalize hdc_5 : aq_u c_4 (y + 20) ((6 * i) + j) e2_124 = c_5
          have sc_5 := aq_smu sc_4 hdc_5 (mo_Sk (by decide) (by decide))
          have hobc_5 := mo_ku hob2_124 hdc_5 (Or.inl (by omega))
          have hffc_5 := ff_u hff2_124 hdc_5 (by omega) (by omega) hmn (by omega) (by omega)
          refine ae_iinc rfl rfl (am_ri (by omega) (by omega)) ?_
          show am_E _ (165, [vR y, vI n, vI t, vI v, vI p, vI mn, vI lt, vI i, vI (j + 1), vI v_q, vI e2_124, vI k2_124], [], aq_h m s F c_5) _
          refine am_E.go (t2 := (85, [vR y, vI n, vI t, vI v, vI p, vI mn, vI lt, vI i, vI (j + 1), vI v_q, vI e2_124, vI k2_124], [], aq_h m s F c_5)) rfl rfl ?_
          exact qk_free_j ⟨hm, hFo, hG5, hG6, hG7, hG8, hG9, hG10, hG11, hG12, hG13, hG14, hG15, hG16, hG17, hG18, hG19, hG20, hG21, hG22, hG23⟩ hI hn1 hn4 ht0 ht1 hp0 hp1 hP hmn0 hmn hl0 hl1 d i (j + 1) (vI v_q) (vI e2_124) (vI k2_124) c_5 sc_5 (by omega) (by omega) (by omega) (by omega) hobc_5 hffc_5 (by omega) K0
      · refine am_E.go (t2 := (112, [vR y, vI n, vI t, vI v, vI p, vI mn, vI lt, vI i, vI j, vI v_q, v10, v11], [vI 0], aq_h m s F c_q)) rfl rfl ?_
        refine am_E.go (t2 := (119, [vR y, vI n, vI t, vI v, vI p, vI mn, vI lt, vI i, vI j, vI v_q, v10, v11], [vI 0], aq_h m s F c_q)) rfl rfl ?_
        refine am_E.go (t2 := (121, [vR y, vI n, vI t, vI v, vI p, vI mn, vI lt, vI i, vI j, vI v_q, vI 0, v11], [], aq_h m s F c_q)) rfl rfl ?_
        refine am_E.go (t2 := (122, [vR y, vI n, vI t, vI v, vI p, vI mn, vI lt, vI i, vI j, vI v_q, vI 0, v11], [vI 0], aq_h m s F c_q)) rfl rfl ?_
        refine am_E.go (t2 := (124, [vR y, vI n, vI t, vI v, vI p, vI mn, vI lt, vI i, vI j, vI v_q, vI 0, vI 0], [], aq_h m s F c_q)) rfl rfl ?_
        refine qk_free_e ⟨hm, hFo, hG5, hG6, hG7, hG8, hG9, hG10, hG11, hG12, hG13, hG14, hG15, hG16, hG17, hG18, hG19, hG20, hG21, hG22, hG23⟩ hI hn1 hn4 ht0 ht1 hp0 hp1 hP hmn0 hmn hl0 hl1 6 i j v_q 0 0 c_q (aq_smt hs s_q) (by omega) (by omega) (by omega) (by omega) (by omega) (mo_kt hob k_q) (ff_c hff e_q) (by omega) ?_
        · intro e2_124 k2_124 c_6 sc_6 f1_124 f2_124 hob2_124 hff2_124
          refine am_E.go (t2 := (148, [vR y, vI n, vI t, vI v, vI p, vI mn, vI lt, vI i, vI j, vI v_q, vI e2_124, vI k2_124], [vR y], aq_h m s F c_6)) rfl rfl ?_
          refine aq_gf (v := vR (y + 20)) rfl (by omega) hFo (by decide) rfl ?_
          show am_E _ (151, [vR y, vI n, vI t, vI v, vI p, vI mn, vI lt, vI i, vI j, vI v_q, vI e2_124, vI k2_124], [vR (y + 20)], aq_h m s F c_6) _
          refine am_E.go (t2 := (153, [vR y, vI n, vI t, vI v, vI p, vI mn, vI lt, vI i, vI j, vI v_q, vI e2_124, vI k2_124], [vI 6, vR (y + 20)], aq_h m s F c_6)) rfl rfl ?_
          refine am_E.go (t2 := (155, [vR y, vI n, vI t, vI v, vI p, vI mn, vI lt, vI i, vI j, vI v_q, vI e2_124, vI k2_124], [vI i, vI 6, vR (y + 20)], aq_h m s F c_6)) rfl rfl ?_
          refine ae_mul rfl (am_ri (by omega) (by omega)) ?_
          show am_E _ (156, [vR y, vI n, vI t, vI v, vI p, vI mn, vI lt, vI i, vI j, vI v_q, vI e2_124, vI k2_124], [vI (6 * i), vR (y + 20)], aq_h m s F c_6) _
          refine am_E.go (t2 := (158, [vR y, vI n, vI t, vI v, vI p, vI mn, vI lt, vI i, vI j, vI v_q, vI e2_124, vI k2_124], [vI j, vI (6 * i), vR (y + 20)], aq_h m s F c_6)) rfl rfl ?_
          refine ae_add rfl (am_ri (by omega) (by omega)) ?_
          show am_E _ (159, [vR y, vI n, vI t, vI v, vI p, vI mn, vI lt, vI i, vI j, vI v_q, vI e2_124, vI k2_124], [vI ((6 * i) + j), vR (y + 20)], aq_h m s F c_6) _
          refine am_E.go (t2 := (161, [vR y, vI n, vI t, vI v, vI p, vI mn, vI lt, vI i, vI j, vI v_q, vI e2_124, vI k2_124], [vI e2_124, vI ((6 * i) + j), vR (y + 20)], aq_h m s F c_6)) rfl rfl ?_
          refine aq_as (kd := 0) rfl rfl (by omega) hG20 (by omega) (by omega) rfl rfl ?_
          show am_E _ (162, [vR y, vI n, vI t, vI v, vI p, vI mn, vI lt, vI i, vI j, vI v_q, vI e2_124, vI k2_124], [], aq_h m s F (aq_u c_6 (y + 20) ((6 * i) + j) e2_124)) _
          generalize hdc_7 : aq_u c_6 (y + 20) ((6 * i) + j) e2_124 = c_7
          have sc_7 := aq_smu sc_6 hdc_7 (mo_Sk (by decide) (by decide))
          have hobc_7 := mo_ku hob2_124 hdc_7 (Or.inl (by omega))
          have hffc_7 := ff_u hff2_124 hdc_7 (by omega) (by omega) hmn (by omega) (by omega)
          refine ae_iinc rfl rfl (am_ri (by omega) (by omega)) ?_
          show am_E _ (165, [vR y, vI n, vI t, vI v, vI p, vI mn, vI lt, vI i, vI (j + 1), vI v_q, vI e2_124, vI k2_124], [], aq_h m s F c_7) _
          refine am_E.go (t2 := (85, [vR y, vI n, vI t, vI v, vI p, vI mn, vI lt, vI i, vI (j + 1), vI v_q, vI e2_124, vI k2_124], [], aq_h m s F c_7)) rfl rfl ?_
          exact qk_free_j ⟨hm, hFo, hG5, hG6, hG7, hG8, hG9, hG10, hG11, hG12, hG13, hG14, hG15, hG16, hG17, hG18, hG19, hG20, hG21, hG22, hG23⟩ hI hn1 hn4 ht0 ht1 hp0 hp1 hP hmn0 hmn hl0 hl1 d i (j + 1) (vI v_q) (vI e2_124) (vI k2_124) c_7 sc_7 (by omega) (by omega) (by omega) (by omega) hobc_7 hffc_7 (by omega) K0

theorem qk_free_i {m s : Nat} {F : aq_F} {c0 : aq_C} {y : Nat} (hO : mo_0 m F y) (hI : mo_I y c0) {n t v p mn lt : Int} (hn1 : 1 ≤ n) (hn4 : n ≤ 4) (ht0 : 0 ≤ t) (ht1 : t ≤ n) (hp0 : 2 ≤ p) (hp1 : p ≤ 997) (hP : nm_P p) (hmn0 : 0 ≤ mn) (hmn : mn ≤ 6) (hl0 : 0 ≤ lt) (hl1 : lt < p) : ∀ (d : Nat) (i : Int) (v8 : am_V) (v9 : am_V) (v10 : am_V) (v11 : am_V) (c : aq_C) (hs : aq_sm (mo_S y) c0 c) (h0 : 0 ≤ i) (h1 : i ≤ mn) (hob : mo_k y c0 c) (hff : ff_ y p mn i 0 c) (hd : mn - i < (d : Int)), am_E ac_X5_free (75, [vR y, vI n, vI t, vI v, vI p, vI mn, vI lt, vI i, v8, v9, v10, v11], [], aq_h m s F c) (aq_Z m s F (fun a => y ≤ a ∧ a < y + 24 ∧ a ≠ y + 10) c0 (fun r d => aq_vi r ∧ mo_I y d))
  | 0, i, v8, v9, v10, v11, c, hs, h0, h1, hob, hff, hd => by exfalso; omega
  | d + 1, i, v8, v9, v10, v11, c, hs, h0, h1, hob, hff, hd => by
    obtain ⟨hm, hFo, hG5, hG6, hG7, hG8, hG9, hG10, hG11, hG12, hG13, hG14, hG15, hG16, hG17, hG18, hG19, hG20, hG21, hG22, hG23⟩ := hO
    refine am_E.go (t2 := (77, [vR y, vI n, vI t, vI v, vI p, vI mn, vI lt, vI i, v8, v9, v10, v11], [vI i], aq_h m s F c)) rfl rfl ?_
    refine am_E.go (t2 := (79, [vR y, vI n, vI t, vI v, vI p, vI mn, vI lt, vI i, v8, v9, v10, v11], [vI mn, vI i], aq_h m s F c)) rfl rfl ?_
    refine ae_icmp rfl (fun (q_1 : mn ≤ i) => ?_) (fun (q_1 : i < mn) => ?_)
    · refine am_E.go (t2 := (175, [vR y, vI n, vI t, vI v, vI p, vI mn, vI lt, vI i, v8, v9, v10, v11], [vI 0], aq_h m s F c)) rfl rfl ?_
      refine am_E.go (t2 := (177, [vR y, vI n, vI t, vI v, vI p, vI mn, vI lt, vI 0, v8, v9, v10, v11], [], aq_h m s F c)) rfl rfl ?_
      refine am_E.go (t2 := (178, [vR y, vI n, vI t, vI v, vI p, vI mn, vI lt, vI 0, v8, v9, v10, v11], [vI 0], aq_h m s F c)) rfl rfl ?_
      refine am_E.go (t2 := (180, [vR y, vI n, vI t, vI v, vI p, vI mn, vI lt, vI 0, vI 0, v9, v10, v11], [], aq_h m s F c)) rfl rfl ?_
      exact qk_free_r ⟨hm, hFo, hG5, hG6, hG7, hG8, hG9, hG10, hG11, hG12, hG13, hG14, hG15, hG16, hG17, hG18, hG19, hG20, hG21, hG22, hG23⟩ hI hn1 hn4 ht0 ht1 hp0 hp1 hP hmn0 hmn hl0 hl1 8 0 0 (v9) (v10) (v11) c hs (by omega) (by omega) (by omega) (by omega) hob (fun a b a1 a2 a3 a4 => hff a b a1 a3 a4 (by omega)) (by omega)
    · refine am_E.go (t2 := (83, [vR y, vI n, vI t, vI v, vI p, vI mn, vI lt, vI i, v8, v9, v10, v11], [vI 0], aq_h m s F c)) rfl rfl ?_
      refine am_E.go (t2 := (85, [vR y, vI n, vI t, vI v, vI p, vI mn, vI lt, vI i, vI 0, v9, v10, v11], [], aq_h m s F c)) rfl rfl ?_
      refine qk_free_j ⟨hm, hFo, hG5, hG6, hG7, hG8, hG9, hG10, hG11, hG12, hG13, hG14, hG15, hG16, hG17, hG18, hG19, hG20, hG21, hG22, hG23⟩ hI hn1 hn4 ht0 ht1 hp0 hp1 hP hmn0 hmn hl0 hl1 8 i 0 (v9) (v10) (v11) c hs (by omega) (by omega) (by omega) (by omega) hob hff (by omega) ?_
      · intro j2_85 v92_85 v102_85 v112_85 c_2 sc_2 hob2_85 hff2_85
        refine ae_iinc rfl rfl (am_ri (by omega) (by omega)) ?_
        show am_E _ (171, [vR y, vI n, vI t, vI v, vI p, vI mn, vI lt, vI (i + 1), vI j2_85, v92_85, v102_85, v112_85], [], aq_h m s F c_2) _
        refine am_E.go (t2 := (75, [vR y, vI n, vI t, vI v, vI p, vI mn, vI lt, vI (i + 1), vI j2_85, v92_85, v102_85, v112_85], [], aq_h m s F c_2)) rfl rfl ?_
        exact qk_free_i ⟨hm, hFo, hG5, hG6, hG7, hG8, hG9, hG10, hG11, hG12, hG13, hG14, hG15, hG16, hG17, hG18, hG19, hG20, hG21, hG22, hG23⟩ hI hn1 hn4 ht0 ht1 hp0 hp1 hP hmn0 hmn hl0 hl1 d (i + 1) (vI j2_85) (v92_85) (v102_85) (v112_85) c_2 sc_2 (by omega) (by omega) hob2_85 hff2_85 (by omega)

theorem qk_X5_free {m s : Nat} {F : aq_F} {c : aq_C} {y : Nat} (hC : mo_C m F y) (hI : mo_I y c) {n t v p : Int} : am_E ac_X5_free (0, [vR y, vI n, vI t, vI v, vI p, vU, vU, vU, vU, vU, vU, vU], [], aq_h m s F c) (aq_Z m s F (fun a => y ≤ a ∧ a < y + 24 ∧ a ≠ y + 10) c (fun r d => aq_vi r ∧ mo_I y d)) := by
  obtain ⟨⟨hm, hFo, hG5, hG6, hG7, hG8, hG9, hG10, hG11, hG12, hG13, hG14, hG15, hG16, hG17, hG18, hG19, hG20, hG21, hG22, hG23⟩, ⟨tbl, hT1, hTt⟩, ⟨tA, tB, tD, hL1, hL2, hL3, hLt⟩⟩ := hC
  refine am_E.go (t2 := (1, [vR y, vI n, vI t, vI v, vI p, vU, vU, vU, vU, vU, vU, vU], [vI n], aq_h m s F c)) rfl rfl ?_
  refine am_E.go (t2 := (2, [vR y, vI n, vI t, vI v, vI p, vU, vU, vU, vU, vU, vU, vU], [vI t, vI n], aq_h m s F c)) rfl rfl ?_
  refine am_E.call rfl rfl rfl (Nat.le_of_ble_eq_true rfl) (qm_areHalves) ?_
  rintro r5 h5 ⟨rfl, v_1, rfl, hv_1⟩
  show am_E _ (5, [vR y, vI n, vI t, vI v, vI p, vU, vU, vU, vU, vU, vU, vU], [vI v_1], aq_h m s F c) _
  refine ae_if0 rfl (fun (q_2 : v_1 = 0) => ?_) (fun (q_2 : v_1 ≠ 0) => ?_)
  · refine am_E.go (t2 := (46, [vR y, vI n, vI t, vI v, vI p, vU, vU, vU, vU, vU, vU, vU], [vI (-1)], aq_h m s F c)) rfl rfl ?_
    refine am_E.ret rfl rfl ?_
    exact ⟨_, rfl, aq_smi (aq_sm0 (c := c) (S := mo_S y)) (fun a h => mo_Sc h), ⟨_, rfl⟩, mo_Ik hI (aq_sm0 (c := c) (S := mo_S y)) (mo_k0 (y := y) (c := c))⟩
  · refine am_E.go (t2 := (9, [vR y, vI n, vI t, vI v, vI p, vU, vU, vU, vU, vU, vU, vU], [vI v], aq_h m s F c)) rfl rfl ?_
    refine am_E.go (t2 := (10, [vR y, vI n, vI t, vI v, vI p, vU, vU, vU, vU, vU, vU, vU], [vL v], aq_h m s F c)) rfl rfl ?_
    refine am_E.go (t2 := (13, [vR y, vI n, vI t, vI v, vI p, vU, vU, vU, vU, vU, vU, vU], [vL (-1000), vL v], aq_h m s F c)) rfl rfl ?_
    refine am_E.go (t2 := (16, [vR y, vI n, vI t, vI v, vI p, vU, vU, vU, vU, vU, vU, vU], [vL 1000, vL (-1000), vL v], aq_h m s F c)) rfl rfl ?_
    refine am_E.call rfl rfl rfl (Nat.le_of_ble_eq_true rfl) (qm_in) ?_
    rintro r5 h5 ⟨rfl, v_3, rfl, hv_3⟩
    show am_E _ (19, [vR y, vI n, vI t, vI v, vI p, vU, vU, vU, vU, vU, vU, vU], [vI v_3], aq_h m s F c) _
    refine ae_if0 rfl (fun (q_4 : v_3 = 0) => ?_) (fun (q_4 : v_3 ≠ 0) => ?_)
    · refine am_E.go (t2 := (46, [vR y, vI n, vI t, vI v, vI p, vU, vU, vU, vU, vU, vU, vU], [vI (-1)], aq_h m s F c)) rfl rfl ?_
      refine am_E.ret rfl rfl ?_
      exact ⟨_, rfl, aq_smi (aq_sm0 (c := c) (S := mo_S y)) (fun a h => mo_Sc h), ⟨_, rfl⟩, mo_Ik hI (aq_sm0 (c := c) (S := mo_S y)) (mo_k0 (y := y) (c := c))⟩
    · refine am_E.go (t2 := (24, [vR y, vI n, vI t, vI v, vI p, vU, vU, vU, vU, vU, vU, vU], [vI p], aq_h m s F c)) rfl rfl ?_
      refine am_E.go (t2 := (25, [vR y, vI n, vI t, vI v, vI p, vU, vU, vU, vU, vU, vU, vU], [vL p], aq_h m s F c)) rfl rfl ?_
      refine am_E.go (t2 := (28, [vR y, vI n, vI t, vI v, vI p, vU, vU, vU, vU, vU, vU, vU], [vL 2, vL p], aq_h m s F c)) rfl rfl ?_
      refine am_E.go (t2 := (31, [vR y, vI n, vI t, vI v, vI p, vU, vU, vU, vU, vU, vU, vU], [vL 997, vL 2, vL p], aq_h m s F c)) rfl rfl ?_
      refine am_E.call rfl rfl rfl (Nat.le_of_ble_eq_true rfl) (qm_in) ?_
      rintro r5 h5 ⟨rfl, v_5, rfl, hv_5⟩
      show am_E _ (34, [vR y, vI n, vI t, vI v, vI p, vU, vU, vU, vU, vU, vU, vU], [vI v_5], aq_h m s F c) _
      refine ae_if0 rfl (fun (q_6 : v_5 = 0) => ?_) (fun (q_6 : v_5 ≠ 0) => ?_)
      · refine am_E.go (t2 := (46, [vR y, vI n, vI t, vI v, vI p, vU, vU, vU, vU, vU, vU, vU], [vI (-1)], aq_h m s F c)) rfl rfl ?_
        refine am_E.ret rfl rfl ?_
        exact ⟨_, rfl, aq_smi (aq_sm0 (c := c) (S := mo_S y)) (fun a h => mo_Sc h), ⟨_, rfl⟩, mo_Ik hI (aq_sm0 (c := c) (S := mo_S y)) (mo_k0 (y := y) (c := c))⟩
      · refine am_E.go (t2 := (39, [vR y, vI n, vI t, vI v, vI p, vU, vU, vU, vU, vU, vU, vU], [vI p], aq_h m s F c)) rfl rfl ?_
        refine am_E.call rfl rfl rfl (Nat.le_of_ble_eq_true rfl) (qm_isPrime (by omega) (by omega)) ?_
        rintro r5 h5 ⟨rfl, v_p, rfl, hv_p⟩
        show am_E _ (42, [vR y, vI n, vI t, vI v, vI p, vU, vU, vU, vU, vU, vU, vU], [vI v_p], aq_h m s F c) _
        refine ae_if0 rfl (fun (q_7 : v_p ≠ 0) => ?_) (fun (q_7 : v_p = 0) => ?_)
        · refine am_E.go (t2 := (48, [vR y, vI n, vI t, vI v, vI p, vU, vU, vU, vU, vU, vU, vU], [vR y], aq_h m s F c)) rfl rfl ?_
          refine am_E.go (t2 := (49, [vR y, vI n, vI t, vI v, vI p, vU, vU, vU, vU, vU, vU, vU], [vI n, vR y], aq_h m s F c)) rfl rfl ?_
          refine am_E.go (t2 := (50, [vR y, vI n, vI t, vI v, vI p, vU, vU, vU, vU, vU, vU, vU], [vI t, vI n, vR y], aq_h m s F c)) rfl rfl ?_
          refine am_E.go (t2 := (51, [vR y, vI n, vI t, vI v, vI p, vU, vU, vU, vU, vU, vU, vU], [vI (-1), vI t, vI n, vR y], aq_h m s F c)) rfl rfl ?_
          refine am_E.go (t2 := (52, [vR y, vI n, vI t, vI v, vI p, vU, vU, vU, vU, vU, vU, vU], [vR y, vI (-1), vI t, vI n, vR y], aq_h m s F c)) rfl rfl ?_
          refine aq_gf (v := vR (y + 18)) rfl (by omega) hFo (by decide) rfl ?_
          show am_E _ (55, [vR y, vI n, vI t, vI v, vI p, vU, vU, vU, vU, vU, vU, vU], [vR (y + 18), vI (-1), vI t, vI n, vR y], aq_h m s F c) _
          refine aq_callv (y := 5) (as2 := [vI n, vI t, vI (-1), vR (y + 18)]) (rest := []) rfl rfl (by decide) (Nat.le_of_ble_eq_true rfl) rfl rfl (Nat.le_of_ble_eq_true rfl) (by omega) hFo rfl (Nat.le_of_ble_eq_true rfl) (qm_lay (y := y) (a := y + 18) (by omega) hFo (by omega) hG18 (n := n) (t := t) (by omega) (by omega) (by omega) (by omega) (Or.inl rfl)) ?_
          rintro r5 h5 ⟨c_8, rfl, sc_8, vc_8, rfl, hmc_8, hdc_8⟩
          show am_E _ (58, [vR y, vI n, vI t, vI v, vI p, vU, vU, vU, vU, vU, vU, vU], [vI vc_8], aq_h m s F c_8) _
          have hm5 := hmc_8 rfl
          have hNb := hv_Nb n t
          have hPp : nm_P p := by rcases hv_p with h | h; exact absurd h (by omega); exact h.2
          refine am_E.go (t2 := (60, [vR y, vI n, vI t, vI v, vI p, vI vc_8, vU, vU, vU, vU, vU, vU], [], aq_h m s F c_8)) rfl rfl ?_
          refine am_E.go (t2 := (61, [vR y, vI n, vI t, vI v, vI p, vI vc_8, vU, vU, vU, vU, vU, vU], [vI v], aq_h m s F c_8)) rfl rfl ?_
          refine am_E.go (t2 := (63, [vR y, vI n, vI t, vI v, vI p, vI vc_8, vU, vU, vU, vU, vU, vU], [vI p, vI v], aq_h m s F c_8)) rfl rfl ?_
          have e_tm := nm_tm (v := v) (p := p) (by omega)
          refine ae_bin (z := v.tmod p) rfl rfl (am_rem_s (by omega)) ?_
          generalize v.tmod p = vt at e_tm ⊢
          refine am_E.go (t2 := (66, [vR y, vI n, vI t, vI v, vI p, vI vc_8, vU, vU, vU, vU, vU, vU], [vI p, vI vt], aq_h m s F c_8)) rfl rfl ?_
          refine ae_add rfl (am_ri (by omega) (by omega)) ?_
          show am_E _ (67, [vR y, vI n, vI t, vI v, vI p, vI vc_8, vU, vU, vU, vU, vU, vU], [vI (vt + p)], aq_h m s F c_8) _
          refine am_E.go (t2 := (69, [vR y, vI n, vI t, vI v, vI p, vI vc_8, vU, vU, vU, vU, vU, vU], [vI p, vI (vt + p)], aq_h m s F c_8)) rfl rfl ?_
          have eu_9 := nm_em (a := (vt + p)) (p := p) (by omega)
          refine ae_bin (z := (vt + p) % p) rfl rfl (am_rem_e (by omega) (by omega)) ?_
          generalize (vt + p) % p = u_9 at eu_9 ⊢
          refine am_E.go (t2 := (72, [vR y, vI n, vI t, vI v, vI p, vI vc_8, vI u_9, vU, vU, vU, vU, vU], [], aq_h m s F c_8)) rfl rfl ?_
          refine am_E.go (t2 := (73, [vR y, vI n, vI t, vI v, vI p, vI vc_8, vI u_9, vU, vU, vU, vU, vU], [vI 0], aq_h m s F c_8)) rfl rfl ?_
          refine am_E.go (t2 := (75, [vR y, vI n, vI t, vI v, vI p, vI vc_8, vI u_9, vI 0, vU, vU, vU, vU], [], aq_h m s F c_8)) rfl rfl ?_
          exact qk_free_i ⟨hm, hFo, hG5, hG6, hG7, hG8, hG9, hG10, hG11, hG12, hG13, hG14, hG15, hG16, hG17, hG18, hG19, hG20, hG21, hG22, hG23⟩ hI (by omega) (by omega) (by omega) (by omega) (by omega) (by omega) hPp (by omega) (by omega) (by omega) (by omega) 8 0 (vU) (vU) (vU) (vU) c_8 (aq_smt (aq_sm0 (c := c) (S := mo_S y)) (aq_smi sc_8 (fun a h => by unfold mo_S; omega))) (by omega) (by omega) (mo_ks (mo_k0 (y := y) (c := c)) sc_8 (by omega)) (fun a b a1 a2 a3 a4 => absurd a4 (by omega)) (by omega)
        · refine am_E.go (t2 := (46, [vR y, vI n, vI t, vI v, vI p, vU, vU, vU, vU, vU, vU, vU], [vI (-1)], aq_h m s F c)) rfl rfl ?_
          refine am_E.ret rfl rfl ?_
          exact ⟨_, rfl, aq_smi (aq_sm0 (c := c) (S := mo_S y)) (fun a h => mo_Sc h), ⟨_, rfl⟩, mo_Ik hI (aq_sm0 (c := c) (S := mo_S y)) (mo_k0 (y := y) (c := c))⟩
