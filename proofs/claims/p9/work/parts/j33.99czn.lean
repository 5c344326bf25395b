theorem mo_Sb {y a : Nat} (h : mo_S y a) : a = y ∨ (y + 10 ≤ a ∧ a < y + 24) := by
  unfold mo_S at h
  omega
theorem qg_many_l {m s : Nat} {F : aq_F} {c : aq_C} {y : Nat} (hI : mo_I y c) (hO : mo_0 m F y) {tbl : Int → Int} (hT : mo_T F y tbl) {n q : Int} (hn1 : 1 ≤ n) (hn4 : n ≤ 4) : ∀ (d : Nat) (x : Int) (bb : Int) (h0 : 0 ≤ bb) (h1 : bb ≤ bx_K n) (hd : bx_K n - bb < (d : Int)), am_E ac_X5_many (24, [vR y, vI n, vI q, vI x, vI bb], [], aq_h m s F c) (aq_Z m s F (fun a => a = y ∨ (y + 10 ≤ a ∧ a < y + 24)) c (fun r d => aq_vi r ∧ mo_I y d))
  | 0, x, bb, h0, h1, hd => by exfalso; omega
  | d + 1, x, bb, h0, h1, hd => by
    obtain ⟨hm, hFo, hG5, hG6, hG7, hG8, hG9, hG10, hG11, hG12, hG13, hG14, hG15, hG16, hG17, hG18, hG19, hG20, hG21, hG22, hG23⟩ := hO
    obtain ⟨hT1, hTt⟩ := hT
    have hfs := mo_fs n
    refine am_E.go (t2 := (26, [vR y, vI n, vI q, vI x, vI bb], [vI bb], aq_h m s F c)) rfl rfl ?_
    refine am_E.go (t2 := (27, [vR y, vI n, vI q, vI x, vI bb], [vI n, vI bb], aq_h m s F c)) rfl rfl ?_
    refine am_E.call rfl rfl rfl (Nat.le_of_ble_eq_true rfl) (qm_boxes) ?_
    rintro r5 h5 ⟨rfl, v_1, rfl, hv_1⟩
    show am_E _ (30, [vR y, vI n, vI q, vI x, vI bb], [vI v_1, vI bb], aq_h m s F c) _
    refine ae_icmp rfl (fun (q_2 : v_1 ≤ bb) => ?_) (fun (q_2 : bb < v_1) => ?_)
    · refine am_E.go (t2 := (62, [vR y, vI n, vI q, vI x, vI bb], [vI x], aq_h m s F c)) rfl rfl ?_
      refine am_E.ret rfl rfl ?_
      exact ⟨_, rfl, aq_sm0, ⟨_, rfl⟩, hI⟩
    · refine am_E.go (t2 := (34, [vR y, vI n, vI q, vI x, vI bb], [vI x], aq_h m s F c)) rfl rfl ?_
      refine am_E.go (t2 := (35, [vR y, vI n, vI q, vI x, vI bb], [vI q, vI x], aq_h m s F c)) rfl rfl ?_
      refine ae_if0 rfl (fun (q_3 : q = 0) => ?_) (fun (q_3 : q ≠ 0) => ?_)
      · refine am_E.go (t2 := (49, [vR y, vI n, vI q, vI x, vI bb], [vI 1, vI x], aq_h m s F c)) rfl rfl ?_
        refine am_E.go (t2 := (53, [vR y, vI n, vI q, vI x, vI bb], [vI 1, vI x], aq_h m s F c)) rfl rfl ?_
        refine am_E.go (t2 := (54, [vR y, vI n, vI q, vI x, vI bb], [vI (am_w (x + 1))], aq_h m s F c)) rfl rfl ?_
        refine am_E.go (t2 := (55, [vR y, vI n, vI q, vI (am_w (x + 1)), vI bb], [], aq_h m s F c)) rfl rfl ?_
        refine ae_iinc rfl rfl (am_ri (by omega) (by omega)) ?_
        show am_E _ (58, [vR y, vI n, vI q, vI (am_w (x + 1)), vI (bb + 1)], [], aq_h m s F c) _
        refine am_E.go (t2 := (24, [vR y, vI n, vI q, vI (am_w (x + 1)), vI (bb + 1)], [], aq_h m s F c)) rfl rfl ?_
        exact qg_many_l hI ⟨hm, hFo, hG5, hG6, hG7, hG8, hG9, hG10, hG11, hG12, hG13, hG14, hG15, hG16, hG17, hG18, hG19, hG20, hG21, hG22, hG23⟩ ⟨hT1, hTt⟩ (by omega) (by omega) d (am_w (x + 1)) (bb + 1) (by omega) (by omega) (by omega)
      · refine am_E.go (t2 := (39, [vR y, vI n, vI q, vI x, vI bb], [vR y, vI x], aq_h m s F c)) rfl rfl ?_
        refine am_E.go (t2 := (40, [vR y, vI n, vI q, vI x, vI bb], [vI n, vR y, vI x], aq_h m s F c)) rfl rfl ?_
        refine am_E.go (t2 := (42, [vR y, vI n, vI q, vI x, vI bb], [vI bb, vI n, vR y, vI x], aq_h m s F c)) rfl rfl ?_
        refine aq_callv (y := 3) (as2 := [vI n, vI bb]) (rest := [vI x]) rfl rfl (by decide) (Nat.le_of_ble_eq_true rfl) rfl rfl (Nat.le_of_ble_eq_true rfl) (by omega) hFo rfl (Nat.le_of_ble_eq_true rfl) (qm_isPlane ⟨hm, hFo, hG5, hG6, hG7, hG8, hG9, hG10, hG11, hG12, hG13, hG14, hG15, hG16, hG17, hG18, hG19, hG20, hG21, hG22, hG23⟩ ⟨hT1, hTt⟩ (by omega) (by omega) (by omega) (by omega)) ?_
        rintro r5 h5 ⟨rfl, v_4, rfl, hv_4⟩
        show am_E _ (45, [vR y, vI n, vI q, vI x, vI bb], [vI v_4, vI x], aq_h m s F c) _
        refine ae_if0 rfl (fun (q_5 : v_4 = 0) => ?_) (fun (q_5 : v_4 ≠ 0) => ?_)
        · refine am_E.go (t2 := (53, [vR y, vI n, vI q, vI x, vI bb], [vI 0, vI x], aq_h m s F c)) rfl rfl ?_
          refine am_E.go (t2 := (54, [vR y, vI n, vI q, vI x, vI bb], [vI (am_w (x + 0))], aq_h m s F c)) rfl rfl ?_
          refine am_E.go (t2 := (55, [vR y, vI n, vI q, vI (am_w (x + 0)), vI bb], [], aq_h m s F c)) rfl rfl ?_
          refine ae_iinc rfl rfl (am_ri (by omega) (by omega)) ?_
          show am_E _ (58, [vR y, vI n, vI q, vI (am_w (x + 0)), vI (bb + 1)], [], aq_h m s F c) _
          refine am_E.go (t2 := (24, [vR y, vI n, vI q, vI (am_w (x + 0)), vI (bb + 1)], [], aq_h m s F c)) rfl rfl ?_
          exact qg_many_l hI ⟨hm, hFo, hG5, hG6, hG7, hG8, hG9, hG10, hG11, hG12, hG13, hG14, hG15, hG16, hG17, hG18, hG19, hG20, hG21, hG22, hG23⟩ ⟨hT1, hTt⟩ (by omega) (by omega) d (am_w (x + 0)) (bb + 1) (by omega) (by omega) (by omega)
        · refine am_E.go (t2 := (49, [vR y, vI n, vI q, vI x, vI bb], [vI 1, vI x], aq_h m s F c)) rfl rfl ?_
          refine am_E.go (t2 := (53, [vR y, vI n, vI q, vI x, vI bb], [vI 1, vI x], aq_h m s F c)) rfl rfl ?_
          refine am_E.go (t2 := (54, [vR y, vI n, vI q, vI x, vI bb], [vI (am_w (x + 1))], aq_h m s F c)) rfl rfl ?_
          refine am_E.go (t2 := (55, [vR y, vI n, vI q, vI (am_w (x + 1)), vI bb], [], aq_h m s F c)) rfl rfl ?_
          refine ae_iinc rfl rfl (am_ri (by omega) (by omega)) ?_
          show am_E _ (58, [vR y, vI n, vI q, vI (am_w (x + 1)), vI (bb + 1)], [], aq_h m s F c) _
          refine am_E.go (t2 := (24, [vR y, vI n, vI q, vI (am_w (x + 1)), vI (bb + 1)], [], aq_h m s F c)) rfl rfl ?_
          exact qg_many_l hI ⟨hm, hFo, hG5, hG6, hG7, hG8, hG9, hG10, hG11, hG12, hG13, hG14, hG15, hG16, hG17, hG18, hG19, hG20, hG21, hG22, hG23⟩ ⟨hT1, hTt⟩ (by omega) (by omega) d (am_w (x + 1)) (bb + 1) (by omega) (by omega) (by omega)

theorem qg_X5_many {m s : Nat} {F : aq_F} {c : aq_C} {y : Nat} (hC : mo_C m F y) (hI : mo_I y c) {n q : Int} : am_E ac_X5_many (0, [vR y, vI n, vI q, vU, vU], [], aq_h m s F c) (aq_Z m s F (fun a => a = y ∨ (y + 10 ≤ a ∧ a < y + 24)) c (fun r d => aq_vi r ∧ mo_I y d)) := by
  obtain ⟨⟨hm, hFo, hG5, hG6, hG7, hG8, hG9, hG10, hG11, hG12, hG13, hG14, hG15, hG16, hG17, hG18, hG19, hG20, hG21, hG22, hG23⟩, ⟨tbl, hT1, hTt⟩, ⟨tA, tB, tD, hL1, hL2, hL3, hLt⟩⟩ := hC
  have hfs := mo_fs n
  refine am_E.go (t2 := (1, [vR y, vI n, vI q, vU, vU], [vI n], aq_h m s F c)) rfl rfl ?_
  refine am_E.call rfl rfl rfl (Nat.le_of_ble_eq_true rfl) (qm_isWide) ?_
  rintro r5 h5 ⟨rfl, v_1, rfl, hv_1⟩
  show am_E _ (4, [vR y, vI n, vI q, vU, vU], [vI v_1], aq_h m s F c) _
  refine ae_if0 rfl (fun (q_2 : v_1 = 0) => ?_) (fun (q_2 : v_1 ≠ 0) => ?_)
  · refine am_E.go (t2 := (18, [vR y, vI n, vI q, vU, vU], [vI (-1)], aq_h m s F c)) rfl rfl ?_
    refine am_E.ret rfl rfl ?_
    exact ⟨_, rfl, (aq_sm0 (c := c) (S := fun a => a = y ∨ (y + 10 ≤ a ∧ a < y + 24))), ⟨_, rfl⟩, hI⟩
  · refine am_E.go (t2 := (8, [vR y, vI n, vI q, vU, vU], [vI q], aq_h m s F c)) rfl rfl ?_
    refine am_E.go (t2 := (9, [vR y, vI n, vI q, vU, vU], [vL q], aq_h m s F c)) rfl rfl ?_
    refine am_E.go (t2 := (10, [vR y, vI n, vI q, vU, vU], [vL 0, vL q], aq_h m s F c)) rfl rfl ?_
    refine am_E.go (t2 := (11, [vR y, vI n, vI q, vU, vU], [vL 1, vL 0, vL q], aq_h m s F c)) rfl rfl ?_
    refine am_E.call rfl rfl rfl (Nat.le_of_ble_eq_true rfl) (qm_in) ?_
    rintro r5 h5 ⟨rfl, v_3, rfl, hv_3⟩
    show am_E _ (14, [vR y, vI n, vI q, vU, vU], [vI v_3], aq_h m s F c) _
    refine ae_if0 rfl (fun (q_4 : v_3 ≠ 0) => ?_) (fun (q_4 : v_3 = 0) => ?_)
    · refine am_E.go (t2 := (20, [vR y, vI n, vI q, vU, vU], [vI 0], aq_h m s F c)) rfl rfl ?_
      refine am_E.go (t2 := (21, [vR y, vI n, vI q, vI 0, vU], [], aq_h m s F c)) rfl rfl ?_
      refine am_E.go (t2 := (22, [vR y, vI n, vI q, vI 0, vU], [vI 0], aq_h m s F c)) rfl rfl ?_
      refine am_E.go (t2 := (24, [vR y, vI n, vI q, vI 0, vI 0], [], aq_h m s F c)) rfl rfl ?_
      exact qg_many_l hI ⟨hm, hFo, hG5, hG6, hG7, hG8, hG9, hG10, hG11, hG12, hG13, hG14, hG15, hG16, hG17, hG18, hG19, hG20, hG21, hG22, hG23⟩ ⟨hT1, hTt⟩ (by omega) (by omega) 106 0 0 (by omega) (by omega) (by omega)
    · refine am_E.go (t2 := (18, [vR y, vI n, vI q, vU, vU], [vI (-1)], aq_h m s F c)) rfl rfl ?_
      refine am_E.ret rfl rfl ?_
      exact ⟨_, rfl, (aq_sm0 (c := c) (S := fun a => a = y ∨ (y + 10 ≤ a ∧ a < y + 24))), ⟨_, rfl⟩, hI⟩

theorem qg_X5_partner {m s : Nat} {F : aq_F} {c : aq_C} {y : Nat} (hC : mo_C m F y) (hI : mo_I y c) {n bb p : Int} : am_E ac_X5_partner (0, [vR y, vI n, vI bb, vI p], [], aq_h m s F c) (aq_Z m s F (fun a => a = y ∨ (y + 10 ≤ a ∧ a < y + 24)) c (fun r d => aq_vi r ∧ mo_I y d)) := by
  obtain ⟨⟨hm, hFo, hG5, hG6, hG7, hG8, hG9, hG10, hG11, hG12, hG13, hG14, hG15, hG16, hG17, hG18, hG19, hG20, hG21, hG22, hG23⟩, ⟨tbl, hT1, hTt⟩, ⟨tA, tB, tD, hL1, hL2, hL3, hLt⟩⟩ := hC
  have hfs := mo_fs n
  refine am_E.go (t2 := (1, [vR y, vI n, vI bb, vI p], [vI n], aq_h m s F c)) rfl rfl ?_
  refine am_E.go (t2 := (2, [vR y, vI n, vI bb, vI p], [vI bb, vI n], aq_h m s F c)) rfl rfl ?_
  refine am_E.call rfl rfl rfl (Nat.le_of_ble_eq_true rfl) (qm_isBox) ?_
  rintro r5 h5 ⟨rfl, v_1, rfl, hv_1⟩
  show am_E _ (5, [vR y, vI n, vI bb, vI p], [vI v_1], aq_h m s F c) _
  refine ae_if0 rfl (fun (q_2 : v_1 = 0) => ?_) (fun (q_2 : v_1 ≠ 0) => ?_)
  · refine am_E.go (t2 := (39, [vR y, vI n, vI bb, vI p], [vI (-1)], aq_h m s F c)) rfl rfl ?_
    refine am_E.ret rfl rfl ?_
    exact ⟨_, rfl, (aq_sm0 (c := c) (S := fun a => a = y ∨ (y + 10 ≤ a ∧ a < y + 24))), ⟨_, rfl⟩, hI⟩
  · refine am_E.go (t2 := (9, [vR y, vI n, vI bb, vI p], [vI p], aq_h m s F c)) rfl rfl ?_
    refine am_E.go (t2 := (10, [vR y, vI n, vI bb, vI p], [vL p], aq_h m s F c)) rfl rfl ?_
    refine am_E.go (t2 := (11, [vR y, vI n, vI bb, vI p], [vL 0, vL p], aq_h m s F c)) rfl rfl ?_
    refine am_E.go (t2 := (12, [vR y, vI n, vI bb, vI p], [vI 2, vL 0, vL p], aq_h m s F c)) rfl rfl ?_
    refine am_E.go (t2 := (13, [vR y, vI n, vI bb, vI p], [vI n, vI 2, vL 0, vL p], aq_h m s F c)) rfl rfl ?_
    refine ae_mul rfl (am_ri (by omega) (by omega)) ?_
    show am_E _ (14, [vR y, vI n, vI bb, vI p], [vI (2 * n), vL 0, vL p], aq_h m s F c) _
    refine am_E.go (t2 := (15, [vR y, vI n, vI bb, vI p], [vI 1, vI (2 * n), vL 0, vL p], aq_h m s F c)) rfl rfl ?_
    refine ae_sub rfl (am_ri (by omega) (by omega)) ?_
    show am_E _ (16, [vR y, vI n, vI bb, vI p], [vI ((2 * n) - 1), vL 0, vL p], aq_h m s F c) _
    refine am_E.go (t2 := (17, [vR y, vI n, vI bb, vI p], [vL ((2 * n) - 1), vL 0, vL p], aq_h m s F c)) rfl rfl ?_
    refine am_E.call rfl rfl rfl (Nat.le_of_ble_eq_true rfl) (qm_in) ?_
    rintro r5 h5 ⟨rfl, v_3, rfl, hv_3⟩
    show am_E _ (20, [vR y, vI n, vI bb, vI p], [vI v_3], aq_h m s F c) _
    refine ae_if0 rfl (fun (q_4 : v_3 = 0) => ?_) (fun (q_4 : v_3 ≠ 0) => ?_)
    · refine am_E.go (t2 := (39, [vR y, vI n, vI bb, vI p], [vI (-1)], aq_h m s F c)) rfl rfl ?_
      refine am_E.ret rfl rfl ?_
      exact ⟨_, rfl, (aq_sm0 (c := c) (S := fun a => a = y ∨ (y + 10 ≤ a ∧ a < y + 24))), ⟨_, rfl⟩, hI⟩
    · refine am_E.go (t2 := (24, [vR y, vI n, vI bb, vI p], [vR y], aq_h m s F c)) rfl rfl ?_
      refine aq_gf (v := vR (y + 1)) rfl (by omega) hFo (by decide) rfl ?_
      show am_E _ (27, [vR y, vI n, vI bb, vI p], [vR (y + 1)], aq_h m s F c) _
      refine am_E.go (t2 := (28, [vR y, vI n, vI bb, vI p], [vI n, vR (y + 1)], aq_h m s F c)) rfl rfl ?_
      refine am_E.go (t2 := (29, [vR y, vI n, vI bb, vI p], [vI bb, vI n, vR (y + 1)], aq_h m s F c)) rfl rfl ?_
      refine am_E.call rfl rfl rfl (Nat.le_of_ble_eq_true rfl) (qm_at (by omega) (by omega)) ?_
      rintro r5 h5 ⟨rfl, xa, rfl, hxa⟩
      show am_E _ (32, [vR y, vI n, vI bb, vI p], [vI xa, vR (y + 1)], aq_h m s F c) _
      refine am_E.go (t2 := (33, [vR y, vI n, vI bb, vI p], [vI p, vI xa, vR (y + 1)], aq_h m s F c)) rfl rfl ?_
      refine ae_add rfl (am_ri (by omega) (by omega)) ?_
      show am_E _ (34, [vR y, vI n, vI bb, vI p], [vI (xa + p), vR (y + 1)], aq_h m s F c) _
      refine aq_alt (ok := fun k => k == 0) rfl rfl (by omega) hT1 rfl (by omega) (by omega) ?_
      show am_E _ (35, [vR y, vI n, vI bb, vI p], [vI (tbl (xa + p))], aq_h m s F c) _
      refine am_E.go (t2 := (39, [vR y, vI n, vI bb, vI p], [vI (tbl (xa + p))], aq_h m s F c)) rfl rfl ?_
      refine am_E.ret rfl rfl ?_
      exact ⟨_, rfl, (aq_sm0 (c := c) (S := fun a => a = y ∨ (y + 10 ≤ a ∧ a < y + 24))), ⟨_, rfl⟩, hI⟩

theorem qg_X5_about {m s : Nat} {F : aq_F} {c : aq_C} {y : Nat} (hC : mo_C m F y) (hI : mo_I y c) {n bb w : Int} : am_E ac_X5_about (0, [vR y, vI n, vI bb, vI w], [], aq_h m s F c) (aq_Z m s F (fun a => a = y ∨ (y + 10 ≤ a ∧ a < y + 24)) c (fun r d => aq_vi r ∧ mo_I y d)) := by
  obtain ⟨⟨hm, hFo, hG5, hG6, hG7, hG8, hG9, hG10, hG11, hG12, hG13, hG14, hG15, hG16, hG17, hG18, hG19, hG20, hG21, hG22, hG23⟩, ⟨tbl, hT1, hTt⟩, ⟨tA, tB, tD, hL1, hL2, hL3, hLt⟩⟩ := hC
  have hfs := mo_fs n
  refine am_E.go (t2 := (1, [vR y, vI n, vI bb, vI w], [vI n], aq_h m s F c)) rfl rfl ?_
  refine am_E.go (t2 := (2, [vR y, vI n, vI bb, vI w], [vI bb, vI n], aq_h m s F c)) rfl rfl ?_
  refine am_E.call rfl rfl rfl (Nat.le_of_ble_eq_true rfl) (qm_isBox) ?_
  rintro r5 h5 ⟨rfl, v_1, rfl, hv_1⟩
  show am_E _ (5, [vR y, vI n, vI bb, vI w], [vI v_1], aq_h m s F c) _
  refine ae_if0 rfl (fun (q_2 : v_1 = 0) => ?_) (fun (q_2 : v_1 ≠ 0) => ?_)
  · refine am_E.go (t2 := (21, [vR y, vI n, vI bb, vI w], [vI (-1)], aq_h m s F c)) rfl rfl ?_
    refine am_E.ret rfl rfl ?_
    exact ⟨_, rfl, (aq_sm0 (c := c) (S := fun a => a = y ∨ (y + 10 ≤ a ∧ a < y + 24))), ⟨_, rfl⟩, hI⟩
  · refine am_E.go (t2 := (9, [vR y, vI n, vI bb, vI w], [vI w], aq_h m s F c)) rfl rfl ?_
    refine am_E.go (t2 := (10, [vR y, vI n, vI bb, vI w], [vL w], aq_h m s F c)) rfl rfl ?_
    refine am_E.go (t2 := (11, [vR y, vI n, vI bb, vI w], [vL 0, vL w], aq_h m s F c)) rfl rfl ?_
    refine am_E.go (t2 := (14, [vR y, vI n, vI bb, vI w], [vL 4, vL 0, vL w], aq_h m s F c)) rfl rfl ?_
    refine am_E.call rfl rfl rfl (Nat.le_of_ble_eq_true rfl) (qm_in) ?_
    rintro r5 h5 ⟨rfl, v_3, rfl, hv_3⟩
    show am_E _ (17, [vR y, vI n, vI bb, vI w], [vI v_3], aq_h m s F c) _
    refine ae_if0 rfl (fun (q_4 : v_3 ≠ 0) => ?_) (fun (q_4 : v_3 = 0) => ?_)
    · refine am_E.go (t2 := (23, [vR y, vI n, vI bb, vI w], [vI w], aq_h m s F c)) rfl rfl ?_
      have hsw : w = 0 ∨ w = 1 ∨ w = 2 ∨ w = 3 ∨ (w < 0 ∨ 3 < w) := by omega
      rcases hsw with h | h | h | h | h
      · subst h
        refine am_E.go (t2 := (52, [vR y, vI n, vI bb, vI 0], [], aq_h m s F c)) rfl rfl ?_
        refine am_E.go (t2 := (53, [vR y, vI n, vI bb, vI 0], [vR y], aq_h m s F c)) rfl rfl ?_
        refine am_E.go (t2 := (54, [vR y, vI n, vI bb, vI 0], [vI n, vR y], aq_h m s F c)) rfl rfl ?_
        refine am_E.go (t2 := (55, [vR y, vI n, vI bb, vI 0], [vI bb, vI n, vR y], aq_h m s F c)) rfl rfl ?_
        refine aq_callv (y := 3) (as2 := [vI n, vI bb]) (rest := []) rfl rfl (by decide) (Nat.le_of_ble_eq_true rfl) rfl rfl (Nat.le_of_ble_eq_true rfl) (by omega) hFo rfl (Nat.le_of_ble_eq_true rfl) (qm_isPlane ⟨hm, hFo, hG5, hG6, hG7, hG8, hG9, hG10, hG11, hG12, hG13, hG14, hG15, hG16, hG17, hG18, hG19, hG20, hG21, hG22, hG23⟩ ⟨hT1, hTt⟩ (by omega) (by omega) (by omega) (by omega)) ?_
        rintro r5 h5 ⟨rfl, v_5, rfl, hv_5⟩
        show am_E _ (58, [vR y, vI n, vI bb, vI 0], [vI v_5], aq_h m s F c) _
        refine ae_if0 rfl (fun (q_6 : v_5 = 0) => ?_) (fun (q_6 : v_5 ≠ 0) => ?_)
        · refine am_E.go (t2 := (66, [vR y, vI n, vI bb, vI 0], [vI 0], aq_h m s F c)) rfl rfl ?_
          refine am_E.ret rfl rfl ?_
          exact ⟨_, rfl, (aq_sm0 (c := c) (S := fun a => a = y ∨ (y + 10 ≤ a ∧ a < y + 24))), ⟨_, rfl⟩, hI⟩
        · refine am_E.go (t2 := (62, [vR y, vI n, vI bb, vI 0], [vI 1], aq_h m s F c)) rfl rfl ?_
          refine am_E.go (t2 := (66, [vR y, vI n, vI bb, vI 0], [vI 1], aq_h m s F c)) rfl rfl ?_
          refine am_E.ret rfl rfl ?_
          exact ⟨_, rfl, (aq_sm0 (c := c) (S := fun a => a = y ∨ (y + 10 ≤ a ∧ a < y + 24))), ⟨_, rfl⟩, hI⟩
      · subst h
        refine am_E.go (t2 := (67, [vR y, vI n, vI bb, vI 1], [], aq_h m s F c)) rfl rfl ?_
        refine am_E.go (t2 := (68, [vR y, vI n, vI bb, vI 1], [vR y], aq_h m s F c)) rfl rfl ?_
        refine am_E.go (t2 := (69, [vR y, vI n, vI bb, vI 1], [vI n, vR y], aq_h m s F c)) rfl rfl ?_
        refine am_E.go (t2 := (70, [vR y, vI n, vI bb, vI 1], [vI bb, vI n, vR y], aq_h m s F c)) rfl rfl ?_
        refine aq_callv (y := 3) (as2 := [vI n, vI bb]) (rest := []) rfl rfl (by decide) (Nat.le_of_ble_eq_true rfl) rfl rfl (Nat.le_of_ble_eq_true rfl) (by omega) hFo rfl (Nat.le_of_ble_eq_true rfl) (qm_through ⟨hm, hFo, hG5, hG6, hG7, hG8, hG9, hG10, hG11, hG12, hG13, hG14, hG15, hG16, hG17, hG18, hG19, hG20, hG21, hG22, hG23⟩ ⟨hT1, hTt⟩ (by omega) (by omega) (by omega) (by omega)) ?_
        rintro r5 h5 ⟨rfl, v_7, rfl⟩
        show am_E _ (73, [vR y, vI n, vI bb, vI 1], [vI v_7], aq_h m s F c) _
        refine am_E.ret rfl rfl ?_
        exact ⟨_, rfl, (aq_sm0 (c := c) (S := fun a => a = y ∨ (y + 10 ≤ a ∧ a < y + 24))), ⟨_, rfl⟩, hI⟩
      · subst h
        refine am_E.go (t2 := (74, [vR y, vI n, vI bb, vI 2], [], aq_h m s F c)) rfl rfl ?_
        refine am_E.go (t2 := (75, [vR y, vI n, vI bb, vI 2], [vR y], aq_h m s F c)) rfl rfl ?_
        refine am_E.go (t2 := (76, [vR y, vI n, vI bb, vI 2], [vI n, vR y], aq_h m s F c)) rfl rfl ?_
        refine am_E.go (t2 := (77, [vR y, vI n, vI bb, vI 2], [vI bb, vI n, vR y], aq_h m s F c)) rfl rfl ?_
        refine aq_callv (y := 3) (as2 := [vI n, vI bb]) (rest := []) rfl rfl (by decide) (Nat.le_of_ble_eq_true rfl) rfl rfl (Nat.le_of_ble_eq_true rfl) (by omega) hFo rfl (Nat.le_of_ble_eq_true rfl) (qm_upsideDown (S := fun a => a = y + 12) ⟨hm, hFo, hG5, hG6, hG7, hG8, hG9, hG10, hG11, hG12, hG13, hG14, hG15, hG16, hG17, hG18, hG19, hG20, hG21, hG22, hG23⟩ rfl ⟨hT1, hTt⟩ (by omega) (by omega) (by omega) (by omega)) ?_
        rintro r5 h5 ⟨c_b, rfl, s_b, v_b, rfl⟩
        show am_E _ (80, [vR y, vI n, vI bb, vI 2], [vI v_b], aq_h m s F c_b) _
        refine am_E.ret rfl rfl ?_
        exact ⟨_, rfl, (aq_smt (aq_sm0 (c := c) (S := fun a => a = y ∨ (y + 10 ≤ a ∧ a < y + 24))) (aq_smi s_b (fun a h => by omega))), ⟨_, rfl⟩, mo_Is hI s_b (mo_ks mo_k0 s_b (by omega)) (by omega) (by omega) (by omega) (by omega) (by omega)⟩
      · subst h
        refine am_E.go (t2 := (81, [vR y, vI n, vI bb, vI 3], [], aq_h m s F c)) rfl rfl ?_
        refine am_E.go (t2 := (82, [vR y, vI n, vI bb, vI 3], [vR y], aq_h m s F c)) rfl rfl ?_
        refine am_E.go (t2 := (83, [vR y, vI n, vI bb, vI 3], [vI n, vR y], aq_h m s F c)) rfl rfl ?_
        refine am_E.go (t2 := (84, [vR y, vI n, vI bb, vI 3], [vI bb, vI n, vR y], aq_h m s F c)) rfl rfl ?_
        refine aq_callv (y := 3) (as2 := [vI n, vI bb]) (rest := []) rfl rfl (by decide) (Nat.le_of_ble_eq_true rfl) rfl rfl (Nat.le_of_ble_eq_true rfl) (by omega) hFo rfl (Nat.le_of_ble_eq_true rfl) (qm_rings (S := fun a => a = y + 13) ⟨hm, hFo, hG5, hG6, hG7, hG8, hG9, hG10, hG11, hG12, hG13, hG14, hG15, hG16, hG17, hG18, hG19, hG20, hG21, hG22, hG23⟩ rfl ⟨hT1, hTt⟩ (by omega) (by omega) (by omega) (by omega)) ?_
        rintro r5 h5 ⟨c_b, rfl, s_b, v_b, rfl, hv_b⟩
        show am_E _ (87, [vR y, vI n, vI bb, vI 3], [vI v_b], aq_h m s F c_b) _
        refine am_E.ret rfl rfl ?_
        exact ⟨_, rfl, (aq_smt (aq_sm0 (c := c) (S := fun a => a = y ∨ (y + 10 ≤ a ∧ a < y + 24))) (aq_smi s_b (fun a h => by omega))), ⟨_, rfl⟩, mo_Is hI s_b (mo_ks mo_k0 s_b (by omega)) (by omega) (by omega) (by omega) (by omega) (by omega)⟩
      · refine ae_swd rfl h ?_
        show am_E _ (88, [vR y, vI n, vI bb, vI w], [], aq_h m s F c) _
        refine am_E.go (t2 := (89, [vR y, vI n, vI bb, vI w], [vR y], aq_h m s F c)) rfl rfl ?_
        refine aq_gf (v := vR (y + 4)) rfl (by omega) hFo (by decide) rfl ?_
        show am_E _ (92, [vR y, vI n, vI bb, vI w], [vR (y + 4)], aq_h m s F c) _
        refine am_E.go (t2 := (93, [vR y, vI n, vI bb, vI w], [vI n, vR (y + 4)], aq_h m s F c)) rfl rfl ?_
        refine am_E.call rfl rfl rfl (Nat.le_of_ble_eq_true rfl) (qm_first) ?_
        rintro r5 h5 ⟨rfl, v_8, rfl, hv_8⟩
        show am_E _ (96, [vR y, vI n, vI bb, vI w], [vI v_8, vR (y + 4)], aq_h m s F c) _
        refine am_E.go (t2 := (97, [vR y, vI n, vI bb, vI w], [vI bb, vI v_8, vR (y + 4)], aq_h m s F c)) rfl rfl ?_
        refine ae_add rfl (am_ri (by omega) (by omega)) ?_
        show am_E _ (98, [vR y, vI n, vI bb, vI w], [vI (v_8 + bb), vR (y + 4)], aq_h m s F c) _
        refine aq_alt (ok := fun k => k == 0) rfl rfl (by omega) hL3 rfl (by omega) (by omega) ?_
        show am_E _ (99, [vR y, vI n, vI bb, vI w], [vI (tD (v_8 + bb))], aq_h m s F c) _
        refine am_E.ret rfl rfl ?_
        exact ⟨_, rfl, (aq_sm0 (c := c) (S := fun a => a = y ∨ (y + 10 ≤ a ∧ a < y + 24))), ⟨_, rfl⟩, hI⟩
    · refine am_E.go (t2 := (21, [vR y, vI n, vI bb, vI w], [vI (-1)], aq_h m s F c)) rfl rfl ?_
      refine am_E.ret rfl rfl ?_
      exact ⟨_, rfl, (aq_sm0 (c := c) (S := fun a => a = y ∨ (y + 10 ≤ a ∧ a < y + 24))), ⟨_, rfl⟩, hI⟩

theorem qg_X5_stack {m s : Nat} {F : aq_F} {c : aq_C} {y : Nat} (hC : mo_C m F y) (hI : mo_I y c) {n bb cc : Int} : am_E ac_X5_stack (0, [vR y, vI n, vI bb, vI cc, vU], [], aq_h m s F c) (aq_Z m s F (fun a => a = y ∨ (y + 10 ≤ a ∧ a < y + 24)) c (fun r d => aq_vi r ∧ mo_I y d)) := by
  obtain ⟨⟨hm, hFo, hG5, hG6, hG7, hG8, hG9, hG10, hG11, hG12, hG13, hG14, hG15, hG16, hG17, hG18, hG19, hG20, hG21, hG22, hG23⟩, ⟨tbl, hT1, hTt⟩, ⟨tA, tB, tD, hL1, hL2, hL3, hLt⟩⟩ := hC
  have hfs := mo_fs n
  refine am_E.go (t2 := (1, [vR y, vI n, vI bb, vI cc, vU], [vI n], aq_h m s F c)) rfl rfl ?_
  refine am_E.go (t2 := (2, [vR y, vI n, vI bb, vI cc, vU], [vI bb, vI n], aq_h m s F c)) rfl rfl ?_
  refine am_E.call rfl rfl rfl (Nat.le_of_ble_eq_true rfl) (qm_isBox) ?_
  rintro r5 h5 ⟨rfl, v_1, rfl, hv_1⟩
  show am_E _ (5, [vR y, vI n, vI bb, vI cc, vU], [vI v_1], aq_h m s F c) _
  refine ae_if0 rfl (fun (q_2 : v_1 = 0) => ?_) (fun (q_2 : v_1 ≠ 0) => ?_)
  · refine am_E.go (t2 := (17, [vR y, vI n, vI bb, vI cc, vU], [vI (-1)], aq_h m s F c)) rfl rfl ?_
    refine am_E.ret rfl rfl ?_
    exact ⟨_, rfl, (aq_sm0 (c := c) (S := fun a => a = y ∨ (y + 10 ≤ a ∧ a < y + 24))), ⟨_, rfl⟩, hI⟩
  · refine am_E.go (t2 := (9, [vR y, vI n, vI bb, vI cc, vU], [vI n], aq_h m s F c)) rfl rfl ?_
    refine am_E.go (t2 := (10, [vR y, vI n, vI bb, vI cc, vU], [vI cc, vI n], aq_h m s F c)) rfl rfl ?_
    refine am_E.call rfl rfl rfl (Nat.le_of_ble_eq_true rfl) (qm_isBox) ?_
    rintro r5 h5 ⟨rfl, v_3, rfl, hv_3⟩
    show am_E _ (13, [vR y, vI n, vI bb, vI cc, vU], [vI v_3], aq_h m s F c) _
    refine ae_if0 rfl (fun (q_4 : v_3 ≠ 0) => ?_) (fun (q_4 : v_3 = 0) => ?_)
    · refine am_E.go (t2 := (19, [vR y, vI n, vI bb, vI cc, vU], [vR y], aq_h m s F c)) rfl rfl ?_
      refine am_E.go (t2 := (20, [vR y, vI n, vI bb, vI cc, vU], [vI n, vR y], aq_h m s F c)) rfl rfl ?_
      refine am_E.go (t2 := (21, [vR y, vI n, vI bb, vI cc, vU], [vI bb, vI n, vR y], aq_h m s F c)) rfl rfl ?_
      refine am_E.go (t2 := (22, [vR y, vI n, vI bb, vI cc, vU], [vI cc, vI bb, vI n, vR y], aq_h m s F c)) rfl rfl ?_
      refine aq_callv (y := 4) (as2 := [vI n, vI bb, vI cc]) (rest := []) rfl rfl (by decide) (Nat.le_of_ble_eq_true rfl) rfl rfl (Nat.le_of_ble_eq_true rfl) (by omega) hFo rfl (Nat.le_of_ble_eq_true rfl) (qm_stacked (S := mo_S y) ⟨hm, hFo, hG5, hG6, hG7, hG8, hG9, hG10, hG11, hG12, hG13, hG14, hG15, hG16, hG17, hG18, hG19, hG20, hG21, hG22, hG23⟩ mo_S0 (mo_Sk (by decide) (by decide)) (mo_Sk (by decide) (by decide)) ⟨hT1, hTt⟩ (by omega) (by omega) (by omega) (by omega) (by omega) (by omega)) ?_
      rintro r5 h5 ⟨c_b, rfl, s_b, v_b, rfl, hv1_b, hv2_b, hr1_b, hr2_b, hk_b, _⟩
      show am_E _ (25, [vR y, vI n, vI bb, vI cc, vU], [vI v_b], aq_h m s F c_b) _
      refine am_E.go (t2 := (27, [vR y, vI n, vI bb, vI cc, vI v_b], [], aq_h m s F c_b)) rfl rfl ?_
      refine am_E.go (t2 := (29, [vR y, vI n, vI bb, vI cc, vI v_b], [vI v_b], aq_h m s F c_b)) rfl rfl ?_
      refine am_E.go (t2 := (32, [vR y, vI n, vI bb, vI cc, vI v_b], [vI 1000, vI v_b], aq_h m s F c_b)) rfl rfl ?_
      refine am_E.go (t2 := (33, [vR y, vI n, vI bb, vI cc, vI v_b], [vR y, vI 1000, vI v_b], aq_h m s F c_b)) rfl rfl ?_
      refine aq_gf (v := vI (c_b y 15)) rfl (by omega) hFo (by decide) rfl ?_
      show am_E _ (36, [vR y, vI n, vI bb, vI cc, vI v_b], [vI (c_b y 15), vI 1000, vI v_b], aq_h m s F c_b) _
      skip
      refine ae_mul rfl (am_ri (by omega) (by omega)) ?_
      show am_E _ (37, [vR y, vI n, vI bb, vI cc, vI v_b], [vI (1000 * (c_b y 15)), vI v_b], aq_h m s F c_b) _
      refine ae_add rfl (am_ri (by omega) (by omega)) ?_
      show am_E _ (38, [vR y, vI n, vI bb, vI cc, vI v_b], [vI (v_b + (1000 * (c_b y 15)))], aq_h m s F c_b) _
      refine am_E.ret rfl rfl ?_
      exact ⟨_, rfl, (aq_smt (aq_sm0 (c := c) (S := fun a => a = y ∨ (y + 10 ≤ a ∧ a < y + 24))) (aq_smi s_b (fun a h => mo_Sb h))), ⟨_, rfl⟩, mo_Ik hI s_b hk_b⟩
    · refine am_E.go (t2 := (17, [vR y, vI n, vI bb, vI cc, vU], [vI (-1)], aq_h m s F c)) rfl rfl ?_
      refine am_E.ret rfl rfl ?_
      exact ⟨_, rfl, (aq_sm0 (c := c) (S := fun a => a = y ∨ (y + 10 ≤ a ∧ a < y + 24))), ⟨_, rfl⟩, hI⟩

theorem qg_X5_plain {m s : Nat} {F : aq_F} {c : aq_C} {y : Nat} (hC : mo_C m F y) (hI : mo_I y c) {n l : Int} : am_E ac_X5_plain (0, [vR y, vI n, vI l], [], aq_h m s F c) (aq_Z m s F (fun a => a = y ∨ (y + 10 ≤ a ∧ a < y + 24)) c (fun r d => aq_vi r ∧ mo_I y d)) := by
  obtain ⟨⟨hm, hFo, hG5, hG6, hG7, hG8, hG9, hG10, hG11, hG12, hG13, hG14, hG15, hG16, hG17, hG18, hG19, hG20, hG21, hG22, hG23⟩, ⟨tbl, hT1, hTt⟩, ⟨tA, tB, tD, hL1, hL2, hL3, hLt⟩⟩ := hC
  refine am_E.go (t2 := (1, [vR y, vI n, vI l], [vI n], aq_h m s F c)) rfl rfl ?_
  refine am_E.call rfl rfl rfl (Nat.le_of_ble_eq_true rfl) (qm_isWide) ?_
  rintro r5 h5 ⟨rfl, v_1, rfl, hv_1⟩
  show am_E _ (4, [vR y, vI n, vI l], [vI v_1], aq_h m s F c) _
  refine ae_if0 rfl (fun (q_2 : v_1 = 0) => ?_) (fun (q_2 : v_1 ≠ 0) => ?_)
  · refine am_E.go (t2 := (20, [vR y, vI n, vI l], [vI (-1)], aq_h m s F c)) rfl rfl ?_
    refine am_E.go (t2 := (29, [vR y, vI n, vI l], [vI (-1)], aq_h m s F c)) rfl rfl ?_
    refine am_E.ret rfl rfl ?_
    exact ⟨_, rfl, (aq_sm0 (c := c) (S := fun a => a = y ∨ (y + 10 ≤ a ∧ a < y + 24))), ⟨_, rfl⟩, hI⟩
  · refine am_E.go (t2 := (8, [vR y, vI n, vI l], [vI l], aq_h m s F c)) rfl rfl ?_
    refine ae_if0 rfl (fun (q_3 : l = 0) => ?_) (fun (q_3 : l ≠ 0) => ?_)
    · refine am_E.go (t2 := (24, [vR y, vI n, vI l], [vR y], aq_h m s F c)) rfl rfl ?_
      refine am_E.go (t2 := (25, [vR y, vI n, vI l], [vI n, vR y], aq_h m s F c)) rfl rfl ?_
      refine am_E.go (t2 := (26, [vR y, vI n, vI l], [vI l, vI n, vR y], aq_h m s F c)) rfl rfl ?_
      refine aq_callv (y := 3) (as2 := [vI n, vI l]) (rest := []) rfl rfl (by decide) (Nat.le_of_ble_eq_true rfl) rfl rfl (Nat.le_of_ble_eq_true rfl) (by omega) hFo rfl (Nat.le_of_ble_eq_true rfl) (qm_plainBox (S := fun a => a = y + 12) ⟨hm, hFo, hG5, hG6, hG7, hG8, hG9, hG10, hG11, hG12, hG13, hG14, hG15, hG16, hG17, hG18, hG19, hG20, hG21, hG22, hG23⟩ rfl ⟨hT1, hTt⟩ (by omega) (by omega) (by omega)) ?_
      rintro r5 h5 ⟨c_b, rfl, s_b, v_b, rfl, hv1_b, hv2_b, _⟩
      show am_E _ (29, [vR y, vI n, vI l], [vI v_b], aq_h m s F c_b) _
      refine am_E.ret rfl rfl ?_
      exact ⟨_, rfl, (aq_smt (aq_sm0 (c := c) (S := fun a => a = y ∨ (y + 10 ≤ a ∧ a < y + 24))) (aq_smi s_b (fun a h => by omega))), ⟨_, rfl⟩, mo_Is hI s_b (mo_ks mo_k0 s_b (by omega)) (by omega) (by omega) (by omega) (by omega) (by omega)⟩
    · refine am_E.go (t2 := (12, [vR y, vI n, vI l], [vI n], aq_h m s F c)) rfl rfl ?_
      refine am_E.go (t2 := (13, [vR y, vI n, vI l], [vI l, vI n], aq_h m s F c)) rfl rfl ?_
      refine am_E.call rfl rfl rfl (Nat.le_of_ble_eq_true rfl) (qm_isLetter (by omega) (by omega)) ?_
      rintro r5 h5 ⟨rfl, v_4, rfl, hv_4⟩
      show am_E _ (16, [vR y, vI n, vI l], [vI v_4], aq_h m s F c) _
      refine ae_if0 rfl (fun (q_5 : v_4 ≠ 0) => ?_) (fun (q_5 : v_4 = 0) => ?_)
      · refine am_E.go (t2 := (24, [vR y, vI n, vI l], [vR y], aq_h m s F c)) rfl rfl ?_
        refine am_E.go (t2 := (25, [vR y, vI n, vI l], [vI n, vR y], aq_h m s F c)) rfl rfl ?_
        refine am_E.go (t2 := (26, [vR y, vI n, vI l], [vI l, vI n, vR y], aq_h m s F c)) rfl rfl ?_
        refine aq_callv (y := 3) (as2 := [vI n, vI l]) (rest := []) rfl rfl (by decide) (Nat.le_of_ble_eq_true rfl) rfl rfl (Nat.le_of_ble_eq_true rfl) (by omega) hFo rfl (Nat.le_of_ble_eq_true rfl) (qm_plainBox (S := fun a => a = y + 12) ⟨hm, hFo, hG5, hG6, hG7, hG8, hG9, hG10, hG11, hG12, hG13, hG14, hG15, hG16, hG17, hG18, hG19, hG20, hG21, hG22, hG23⟩ rfl ⟨hT1, hTt⟩ (by omega) (by omega) (by omega)) ?_
        rintro r5 h5 ⟨c_b, rfl, s_b, v_b, rfl, hv1_b, hv2_b, _⟩
        show am_E _ (29, [vR y, vI n, vI l], [vI v_b], aq_h m s F c_b) _
        refine am_E.ret rfl rfl ?_
        exact ⟨_, rfl, (aq_smt (aq_sm0 (c := c) (S := fun a => a = y ∨ (y + 10 ≤ a ∧ a < y + 24))) (aq_smi s_b (fun a h => by omega))), ⟨_, rfl⟩, mo_Is hI s_b (mo_ks mo_k0 s_b (by omega)) (by omega) (by omega) (by omega) (by omega) (by omega)⟩
      · refine am_E.go (t2 := (20, [vR y, vI n, vI l], [vI (-1)], aq_h m s F c)) rfl rfl ?_
        refine am_E.go (t2 := (29, [vR y, vI n, vI l], [vI (-1)], aq_h m s F c)) rfl rfl ?_
        refine am_E.ret rfl rfl ?_
        exact ⟨_, rfl, (aq_sm0 (c := c) (S := fun a => a = y ∨ (y + 10 ≤ a ∧ a < y + 24))), ⟨_, rfl⟩, hI⟩

theorem qg_word_l {m s : Nat} {F : aq_F} {c : aq_C} {y : Nat} (hI : mo_I y c) (hO : mo_0 m F y) {tA tB : Int → Int} {n bb i fr mm : Int} (hn1 : 1 ≤ n) (hn4 : n ≤ 4) (hfr : fr = mo_f n) (hi : 0 ≤ i) (hL1 : F (y + 2) = (0, 124, fun j => .inr (vI (tA (j : Int))))) (hL2 : F (y + 3) = (0, 124, fun j => .inr (vI (tB (j : Int))))) (hLt : ∀ b : Int, 0 ≤ b → b < bx_K n → 0 ≤ tB (fr + b) ∧ tB (fr + b) < bx_K n) : ∀ (d : Nat) (a : Int) (k : Int) (h0 : 0 ≤ a) (h1 : a < bx_K n) (h2 : k ≤ 124) (hd : max 0 (k - i) < (d : Int)), am_E ac_X5_word (49, [vR y, vI n, vI bb, vI i, vI fr, vI mm, vI a, vI k], [], aq_h m s F c) (aq_Z m s F (fun a => a = y ∨ (y + 10 ≤ a ∧ a < y + 24)) c (fun r d => aq_vi r ∧ mo_I y d))
  | 0, a, k, h0, h1, h2, hd => by exfalso; omega
  | d + 1, a, k, h0, h1, h2, hd => by
    obtain ⟨hm, hFo, hG5, hG6, hG7, hG8, hG9, hG10, hG11, hG12, hG13, hG14, hG15, hG16, hG17, hG18, hG19, hG20, hG21, hG22, hG23⟩ := hO
    have hfs := mo_fs n
    refine am_E.go (t2 := (51, [vR y, vI n, vI bb, vI i, vI fr, vI mm, vI a, vI k], [vI k], aq_h m s F c)) rfl rfl ?_
    refine am_E.go (t2 := (52, [vR y, vI n, vI bb, vI i, vI fr, vI mm, vI a, vI k], [vI i, vI k], aq_h m s F c)) rfl rfl ?_
    refine ae_icmp rfl (fun (q_1 : k ≤ i) => ?_) (fun (q_1 : i < k) => ?_)
    · refine am_E.go (t2 := (74, [vR y, vI n, vI bb, vI i, vI fr, vI mm, vI a, vI k], [vR y], aq_h m s F c)) rfl rfl ?_
      refine aq_gf (v := vR (y + 2)) rfl (by omega) hFo (by decide) rfl ?_
      show am_E _ (77, [vR y, vI n, vI bb, vI i, vI fr, vI mm, vI a, vI k], [vR (y + 2)], aq_h m s F c) _
      refine am_E.go (t2 := (79, [vR y, vI n, vI bb, vI i, vI fr, vI mm, vI a, vI k], [vI fr, vR (y + 2)], aq_h m s F c)) rfl rfl ?_
      refine am_E.go (t2 := (81, [vR y, vI n, vI bb, vI i, vI fr, vI mm, vI a, vI k], [vI a, vI fr, vR (y + 2)], aq_h m s F c)) rfl rfl ?_
      refine ae_add rfl (am_ri (by omega) (by omega)) ?_
      show am_E _ (82, [vR y, vI n, vI bb, vI i, vI fr, vI mm, vI a, vI k], [vI (fr + a), vR (y + 2)], aq_h m s F c) _
      refine aq_alt (ok := fun k => k == 0) rfl rfl (by omega) hL1 rfl (by omega) (by omega) ?_
      show am_E _ (83, [vR y, vI n, vI bb, vI i, vI fr, vI mm, vI a, vI k], [vI (tA (fr + a))], aq_h m s F c) _
      refine am_E.ret rfl rfl ?_
      exact ⟨_, rfl, aq_sm0, ⟨_, rfl⟩, hI⟩
    · refine am_E.go (t2 := (56, [vR y, vI n, vI bb, vI i, vI fr, vI mm, vI a, vI k], [vR y], aq_h m s F c)) rfl rfl ?_
      refine aq_gf (v := vR (y + 3)) rfl (by omega) hFo (by decide) rfl ?_
      show am_E _ (59, [vR y, vI n, vI bb, vI i, vI fr, vI mm, vI a, vI k], [vR (y + 3)], aq_h m s F c) _
      refine am_E.go (t2 := (61, [vR y, vI n, vI bb, vI i, vI fr, vI mm, vI a, vI k], [vI fr, vR (y + 3)], aq_h m s F c)) rfl rfl ?_
      refine am_E.go (t2 := (63, [vR y, vI n, vI bb, vI i, vI fr, vI mm, vI a, vI k], [vI a, vI fr, vR (y + 3)], aq_h m s F c)) rfl rfl ?_
      refine ae_add rfl (am_ri (by omega) (by omega)) ?_
      show am_E _ (64, [vR y, vI n, vI bb, vI i, vI fr, vI mm, vI a, vI k], [vI (fr + a), vR (y + 3)], aq_h m s F c) _
      refine aq_alt (ok := fun k => k == 0) rfl rfl (by omega) hL2 rfl (by omega) (by omega) ?_
      show am_E _ (65, [vR y, vI n, vI bb, vI i, vI fr, vI mm, vI a, vI k], [vI (tB (fr + a))], aq_h m s F c) _
      have f_2 := hLt a (by omega) (by omega)
      refine am_E.go (t2 := (67, [vR y, vI n, vI bb, vI i, vI fr, vI mm, vI (tB (fr + a)), vI k], [], aq_h m s F c)) rfl rfl ?_
      refine ae_iinc rfl rfl (am_ri (by omega) (by omega)) ?_
      show am_E _ (70, [vR y, vI n, vI bb, vI i, vI fr, vI mm, vI (tB (fr + a)), vI (k + (-1))], [], aq_h m s F c) _
      refine am_E.go (t2 := (49, [vR y, vI n, vI bb, vI i, vI fr, vI mm, vI (tB (fr + a)), vI (k + (-1))], [], aq_h m s F c)) rfl rfl ?_
      exact qg_word_l hI ⟨hm, hFo, hG5, hG6, hG7, hG8, hG9, hG10, hG11, hG12, hG13, hG14, hG15, hG16, hG17, hG18, hG19, hG20, hG21, hG22, hG23⟩ hn1 hn4 hfr hi hL1 hL2 hLt d (tB (fr + a)) (k + (-1)) (by omega) (by omega) (by omega) (by omega)

theorem qg_X5_word {m s : Nat} {F : aq_F} {c : aq_C} {y : Nat} (hC : mo_C m F y) (hI : mo_I y c) {n bb i : Int} : am_E ac_X5_word (0, [vR y, vI n, vI bb, vI i, vU, vU, vU, vU], [], aq_h m s F c) (aq_Z m s F (fun a => a = y ∨ (y + 10 ≤ a ∧ a < y + 24)) c (fun r d => aq_vi r ∧ mo_I y d)) := by
  obtain ⟨⟨hm, hFo, hG5, hG6, hG7, hG8, hG9, hG10, hG11, hG12, hG13, hG14, hG15, hG16, hG17, hG18, hG19, hG20, hG21, hG22, hG23⟩, ⟨tbl, hT1, hTt⟩, ⟨tA, tB, tD, hL1, hL2, hL3, hLt⟩⟩ := hC
  have hfs := mo_fs n
  refine am_E.go (t2 := (1, [vR y, vI n, vI bb, vI i, vU, vU, vU, vU], [vI n], aq_h m s F c)) rfl rfl ?_
  refine am_E.go (t2 := (2, [vR y, vI n, vI bb, vI i, vU, vU, vU, vU], [vI bb, vI n], aq_h m s F c)) rfl rfl ?_
  refine am_E.call rfl rfl rfl (Nat.le_of_ble_eq_true rfl) (qm_isBox) ?_
  rintro r5 h5 ⟨rfl, v_1, rfl, hv_1⟩
  show am_E _ (5, [vR y, vI n, vI bb, vI i, vU, vU, vU, vU], [vI v_1], aq_h m s F c) _
  refine ae_if0 rfl (fun (q_2 : v_1 = 0) => ?_) (fun (q_2 : v_1 ≠ 0) => ?_)
  · refine am_E.go (t2 := (13, [vR y, vI n, vI bb, vI i, vU, vU, vU, vU], [vI (-1)], aq_h m s F c)) rfl rfl ?_
    refine am_E.ret rfl rfl ?_
    exact ⟨_, rfl, (aq_sm0 (c := c) (S := fun a => a = y ∨ (y + 10 ≤ a ∧ a < y + 24))), ⟨_, rfl⟩, hI⟩
  · refine am_E.go (t2 := (9, [vR y, vI n, vI bb, vI i, vU, vU, vU, vU], [vI i], aq_h m s F c)) rfl rfl ?_
    refine ae_if0 rfl (fun (q_3 : 0 ≤ i) => ?_) (fun (q_3 : i < 0) => ?_)
    · refine am_E.go (t2 := (15, [vR y, vI n, vI bb, vI i, vU, vU, vU, vU], [vI n], aq_h m s F c)) rfl rfl ?_
      refine am_E.call rfl rfl rfl (Nat.le_of_ble_eq_true rfl) (qm_first) ?_
      rintro r5 h5 ⟨rfl, fr, rfl, hfr⟩
      show am_E _ (18, [vR y, vI n, vI bb, vI i, vU, vU, vU, vU], [vI fr], aq_h m s F c) _
      refine am_E.go (t2 := (20, [vR y, vI n, vI bb, vI i, vI fr, vU, vU, vU], [], aq_h m s F c)) rfl rfl ?_
      refine am_E.go (t2 := (21, [vR y, vI n, vI bb, vI i, vI fr, vU, vU, vU], [vR y], aq_h m s F c)) rfl rfl ?_
      refine aq_gf (v := vR (y + 4)) rfl (by omega) hFo (by decide) rfl ?_
      show am_E _ (24, [vR y, vI n, vI bb, vI i, vI fr, vU, vU, vU], [vR (y + 4)], aq_h m s F c) _
      refine am_E.go (t2 := (26, [vR y, vI n, vI bb, vI i, vI fr, vU, vU, vU], [vI fr, vR (y + 4)], aq_h m s F c)) rfl rfl ?_
      refine am_E.go (t2 := (27, [vR y, vI n, vI bb, vI i, vI fr, vU, vU, vU], [vI bb, vI fr, vR (y + 4)], aq_h m s F c)) rfl rfl ?_
      refine ae_add rfl (am_ri (by omega) (by omega)) ?_
      show am_E _ (28, [vR y, vI n, vI bb, vI i, vI fr, vU, vU, vU], [vI (fr + bb), vR (y + 4)], aq_h m s F c) _
      refine aq_alt (ok := fun k => k == 0) rfl rfl (by omega) hL3 rfl (by omega) (by omega) ?_
      show am_E _ (29, [vR y, vI n, vI bb, vI i, vI fr, vU, vU, vU], [vI (tD (fr + bb))], aq_h m s F c) _
      have f_4 := hLt n bb (by omega) (by omega) (by omega) (by omega)
      rw [← hfr] at f_4
      refine am_E.go (t2 := (31, [vR y, vI n, vI bb, vI i, vI fr, vI (tD (fr + bb)), vU, vU], [], aq_h m s F c)) rfl rfl ?_
      refine am_E.go (t2 := (32, [vR y, vI n, vI bb, vI i, vI fr, vI (tD (fr + bb)), vU, vU], [vI i], aq_h m s F c)) rfl rfl ?_
      refine am_E.go (t2 := (34, [vR y, vI n, vI bb, vI i, vI fr, vI (tD (fr + bb)), vU, vU], [vI (tD (fr + bb)), vI i], aq_h m s F c)) rfl rfl ?_
      refine ae_icmp rfl (fun (q_5 : i < (tD (fr + bb))) => ?_) (fun (q_5 : (tD (fr + bb)) ≤ i) => ?_)
      · refine am_E.go (t2 := (41, [vR y, vI n, vI bb, vI i, vI fr, vI (tD (fr + bb)), vU, vU], [vI bb], aq_h m s F c)) rfl rfl ?_
        refine am_E.go (t2 := (43, [vR y, vI n, vI bb, vI i, vI fr, vI (tD (fr + bb)), vI bb, vU], [], aq_h m s F c)) rfl rfl ?_
        refine am_E.go (t2 := (45, [vR y, vI n, vI bb, vI i, vI fr, vI (tD (fr + bb)), vI bb, vU], [vI (tD (fr + bb))], aq_h m s F c)) rfl rfl ?_
        refine am_E.go (t2 := (46, [vR y, vI n, vI bb, vI i, vI fr, vI (tD (fr + bb)), vI bb, vU], [vI 1, vI (tD (fr + bb))], aq_h m s F c)) rfl rfl ?_
        refine ae_sub rfl (am_ri (by omega) (by omega)) ?_
        show am_E _ (47, [vR y, vI n, vI bb, vI i, vI fr, vI (tD (fr + bb)), vI bb, vU], [vI ((tD (fr + bb)) - 1)], aq_h m s F c) _
        refine am_E.go (t2 := (49, [vR y, vI n, vI bb, vI i, vI fr, vI (tD (fr + bb)), vI bb, vI ((tD (fr + bb)) - 1)], [], aq_h m s F c)) rfl rfl ?_
        exact qg_word_l hI ⟨hm, hFo, hG5, hG6, hG7, hG8, hG9, hG10, hG11, hG12, hG13, hG14, hG15, hG16, hG17, hG18, hG19, hG20, hG21, hG22, hG23⟩ (by omega) (by omega) hfr (by omega) hL1 hL2 (fun b h5 h6 => by have := hLt n b (by omega) (by omega) h5 h6; rw [hfr]; exact ⟨this.1, this.2.1⟩) 126 bb ((tD (fr + bb)) - 1) (by omega) (by omega) (by omega) (by omega)
      · refine am_E.go (t2 := (39, [vR y, vI n, vI bb, vI i, vI fr, vI (tD (fr + bb)), vU, vU], [vI (-4)], aq_h m s F c)) rfl rfl ?_
        refine am_E.ret rfl rfl ?_
        exact ⟨_, rfl, (aq_sm0 (c := c) (S := fun a => a = y ∨ (y + 10 ≤ a ∧ a < y + 24))), ⟨_, rfl⟩, hI⟩
    · refine am_E.go (t2 := (13, [vR y, vI n, vI bb, vI i, vU, vU, vU, vU], [vI (-1)], aq_h m s F c)) rfl rfl ?_
      refine am_E.ret rfl rfl ?_
      exact ⟨_, rfl, (aq_sm0 (c := c) (S := fun a => a = y ∨ (y + 10 ≤ a ∧ a < y + 24))), ⟨_, rfl⟩, hI⟩

theorem qg_box_2 {m s : Nat} {F : aq_F} {c0 : aq_C} {y : Nat} (hO : mo_0 m F y) {tbl : Int → Int} (hT : mo_T F y tbl) (hI : mo_I y c0) {n w : Int} (hn1 : 1 ≤ n) (hn4 : n ≤ 4) : ∀ (d : Nat) (k : Int) (v5 : am_V) (v6 : am_V) (c : aq_C) (hs : aq_sm (fun a => a = y + 12) c0 c) (h0 : 0 ≤ k) (h1 : k ≤ n) (hd : n - k < (d : Int)), am_E ac_X5_box (54, [vR y, vI n, vL w, vU, vI k, v5, v6], [], aq_h m s F c) (aq_Z m s F (fun a => a = y ∨ (y + 10 ≤ a ∧ a < y + 24)) c0 (fun r d => aq_vi r ∧ mo_I y d))
  | 0, k, v5, v6, c, hs, h0, h1, hd => by exfalso; omega
  | d + 1, k, v5, v6, c, hs, h0, h1, hd => by
    obtain ⟨hm, hFo, hG5, hG6, hG7, hG8, hG9, hG10, hG11, hG12, hG13, hG14, hG15, hG16, hG17, hG18, hG19, hG20, hG21, hG22, hG23⟩ := hO
    obtain ⟨hT1, hTt⟩ := hT
    refine am_E.go (t2 := (56, [vR y, vI n, vL w, vU, vI k, v5, v6], [vI k], aq_h m s F c)) rfl rfl ?_
    refine am_E.go (t2 := (57, [vR y, vI n, vL w, vU, vI k, v5, v6], [vI n, vI k], aq_h m s F c)) rfl rfl ?_
    refine ae_icmp rfl (fun (q_1 : n ≤ k) => ?_) (fun (q_1 : k < n) => ?_)
    · refine am_E.go (t2 := (164, [vR y, vI n, vL w, vU, vI k, v5, v6], [vR y], aq_h m s F c)) rfl rfl ?_
      refine am_E.go (t2 := (165, [vR y, vI n, vL w, vU, vI k, v5, v6], [vI n, vR y], aq_h m s F c)) rfl rfl ?_
      refine aq_callv (y := 2) (as2 := [vI n]) (rest := []) rfl rfl (by decide) (Nat.le_of_ble_eq_true rfl) rfl rfl (Nat.le_of_ble_eq_true rfl) (by omega) hFo rfl (Nat.le_of_ble_eq_true rfl) (qm_numberOf ⟨hm, hFo, hG5, hG6, hG7, hG8, hG9, hG10, hG11, hG12, hG13, hG14, hG15, hG16, hG17, hG18, hG19, hG20, hG21, hG22, hG23⟩ ⟨hT1, hTt⟩ hn1 hn4) ?_
      rintro r5 h5 ⟨rfl, v_2, rfl, hv_2⟩
      show am_E _ (168, [vR y, vI n, vL w, vU, vI k, v5, v6], [vI v_2], aq_h m s F c) _
      refine am_E.ret rfl rfl ?_
      exact ⟨_, rfl, aq_smi hs (fun a h => by omega), ⟨_, rfl⟩, mo_Is hI hs (mo_ks mo_k0 hs (by omega)) (by omega) (by omega) (by omega) (by omega) (by omega)⟩
    · refine am_E.go (t2 := (61, [vR y, vI n, vL w, vU, vI k, v5, v6], [vL w], aq_h m s F c)) rfl rfl ?_
      refine am_E.go (t2 := (63, [vR y, vI n, vL w, vU, vI k, v5, v6], [vI 8, vL w], aq_h m s F c)) rfl rfl ?_
      refine am_E.go (t2 := (65, [vR y, vI n, vL w, vU, vI k, v5, v6], [vI k, vI 8, vL w], aq_h m s F c)) rfl rfl ?_
      refine ae_mul rfl (am_ri (by omega) (by omega)) ?_
      show am_E _ (66, [vR y, vI n, vL w, vU, vI k, v5, v6], [vI (8 * k), vL w], aq_h m s F c) _
      refine am_E.go (t2 := (67, [vR y, vI n, vL w, vU, vI k, v5, v6], [vL (am_shrL w (8 * k))], aq_h m s F c)) rfl rfl ?_
      refine am_E.go (t2 := (70, [vR y, vI n, vL w, vU, vI k, v5, v6], [vL 15, vL (am_shrL w (8 * k))], aq_h m s F c)) rfl rfl ?_
      have ew1 := am_andl15 (am_shrL w (8 * k))
      refine am_E.go (t2 := (71, [vR y, vI n, vL w, vU, vI k, v5, v6], [vL (am_andl (am_shrL w (8 * k)) 15)], aq_h m s F c)) rfl rfl ?_
      generalize am_andl (am_shrL w (8 * k)) 15 = w1 at ew1 ⊢
      refine am_E.go (t2 := (72, [vR y, vI n, vL w, vU, vI k, v5, v6], [vI (am_w w1)], aq_h m s F c)) rfl rfl ?_
      rw [am_w_id (am_ri (by omega) (by omega))]
      refine am_E.go (t2 := (74, [vR y, vI n, vL w, vU, vI k, vI w1, v6], [], aq_h m s F c)) rfl rfl ?_
      refine am_E.go (t2 := (75, [vR y, vI n, vL w, vU, vI k, vI w1, v6], [vL w], aq_h m s F c)) rfl rfl ?_
      refine am_E.go (t2 := (77, [vR y, vI n, vL w, vU, vI k, vI w1, v6], [vI 8, vL w], aq_h m s F c)) rfl rfl ?_
      refine am_E.go (t2 := (79, [vR y, vI n, vL w, vU, vI k, vI w1, v6], [vI k, vI 8, vL w], aq_h m s F c)) rfl rfl ?_
      refine ae_mul rfl (am_ri (by omega) (by omega)) ?_
      show am_E _ (80, [vR y, vI n, vL w, vU, vI k, vI w1, v6], [vI (8 * k), vL w], aq_h m s F c) _
      refine am_E.go (t2 := (81, [vR y, vI n, vL w, vU, vI k, vI w1, v6], [vI 4, vI (8 * k), vL w], aq_h m s F c)) rfl rfl ?_
      refine ae_add rfl (am_ri (by omega) (by omega)) ?_
      show am_E _ (82, [vR y, vI n, vL w, vU, vI k, vI w1, v6], [vI ((8 * k) + 4), vL w], aq_h m s F c) _
      refine am_E.go (t2 := (83, [vR y, vI n, vL w, vU, vI k, vI w1, v6], [vL (am_shrL w ((8 * k) + 4))], aq_h m s F c)) rfl rfl ?_
      refine am_E.go (t2 := (86, [vR y, vI n, vL w, vU, vI k, vI w1, v6], [vL 15, vL (am_shrL w ((8 * k) + 4))], aq_h m s F c)) rfl rfl ?_
      have ew2 := am_andl15 (am_shrL w ((8 * k) + 4))
      refine am_E.go (t2 := (87, [vR y, vI n, vL w, vU, vI k, vI w1, v6], [vL (am_andl (am_shrL w ((8 * k) + 4)) 15)], aq_h m s F c)) rfl rfl ?_
      generalize am_andl (am_shrL w ((8 * k) + 4)) 15 = w2 at ew2 ⊢
      refine am_E.go (t2 := (88, [vR y, vI n, vL w, vU, vI k, vI w1, v6], [vI (am_w w2)], aq_h m s F c)) rfl rfl ?_
      rw [am_w_id (am_ri (by omega) (by omega))]
      refine am_E.go (t2 := (90, [vR y, vI n, vL w, vU, vI k, vI w1, vI w2], [], aq_h m s F c)) rfl rfl ?_
      refine am_E.go (t2 := (92, [vR y, vI n, vL w, vU, vI k, vI w1, vI w2], [vI w1], aq_h m s F c)) rfl rfl ?_
      refine am_E.go (t2 := (93, [vR y, vI n, vL w, vU, vI k, vI w1, vI w2], [vI 2, vI w1], aq_h m s F c)) rfl rfl ?_
      refine am_E.go (t2 := (94, [vR y, vI n, vL w, vU, vI k, vI w1, vI w2], [vI n, vI 2, vI w1], aq_h m s F c)) rfl rfl ?_
      refine ae_mul rfl (am_ri (by omega) (by omega)) ?_
      show am_E _ (95, [vR y, vI n, vL w, vU, vI k, vI w1, vI w2], [vI (2 * n), vI w1], aq_h m s F c) _
      refine ae_icmp rfl (fun (q_3 : (2 * n) ≤ w1) => ?_) (fun (q_3 : w1 < (2 * n)) => ?_)
      · refine am_E.go (t2 := (138, [vR y, vI n, vL w, vU, vI k, vI w1, vI w2], [vI (-1)], aq_h m s F c)) rfl rfl ?_
        refine am_E.ret rfl rfl ?_
        exact ⟨_, rfl, aq_smi hs (fun a h => by omega), ⟨_, rfl⟩, mo_Is hI hs (mo_ks mo_k0 hs (by omega)) (by omega) (by omega) (by omega) (by omega) (by omega)⟩
      · refine am_E.go (t2 := (100, [vR y, vI n, vL w, vU, vI k, vI w1, vI w2], [vI w2], aq_h m s F c)) rfl rfl ?_
        refine am_E.go (t2 := (101, [vR y, vI n, vL w, vU, vI k, vI w1, vI w2], [vI 2, vI w2], aq_h m s F c)) rfl rfl ?_
        refine am_E.go (t2 := (102, [vR y, vI n, vL w, vU, vI k, vI w1, vI w2], [vI n, vI 2, vI w2], aq_h m s F c)) rfl rfl ?_
        refine ae_mul rfl (am_ri (by omega) (by omega)) ?_
        show am_E _ (103, [vR y, vI n, vL w, vU, vI k, vI w1, vI w2], [vI (2 * n), vI w2], aq_h m s F c) _
        refine ae_icmp rfl (fun (q_4 : (2 * n) ≤ w2) => ?_) (fun (q_4 : w2 < (2 * n)) => ?_)
        · refine am_E.go (t2 := (138, [vR y, vI n, vL w, vU, vI k, vI w1, vI w2], [vI (-1)], aq_h m s F c)) rfl rfl ?_
          refine am_E.ret rfl rfl ?_
          exact ⟨_, rfl, aq_smi hs (fun a h => by omega), ⟨_, rfl⟩, mo_Is hI hs (mo_ks mo_k0 hs (by omega)) (by omega) (by omega) (by omega) (by omega) (by omega)⟩
        · refine am_E.go (t2 := (108, [vR y, vI n, vL w, vU, vI k, vI w1, vI w2], [vI w1], aq_h m s F c)) rfl rfl ?_
          refine am_E.go (t2 := (110, [vR y, vI n, vL w, vU, vI k, vI w1, vI w2], [vI w2, vI w1], aq_h m s F c)) rfl rfl ?_
          refine ae_icmp rfl (fun (q_5 : w1 = w2) => ?_) (fun (q_5 : w1 ≠ w2) => ?_)
          · refine am_E.go (t2 := (138, [vR y, vI n, vL w, vU, vI k, vI w1, vI w2], [vI (-1)], aq_h m s F c)) rfl rfl ?_
            refine am_E.ret rfl rfl ?_
            exact ⟨_, rfl, aq_smi hs (fun a h => by omega), ⟨_, rfl⟩, mo_Is hI hs (mo_ks mo_k0 hs (by omega)) (by omega) (by omega) (by omega) (by omega) (by omega)⟩
          · refine am_E.go (t2 := (114, [vR y, vI n, vL w, vU, vI k, vI w1, vI w2], [vR y], aq_h m s F c)) rfl rfl ?_
            refine aq_gf (v := vR (y + 12)) rfl (by omega) hFo (by decide) rfl ?_
            show am_E _ (117, [vR y, vI n, vL w, vU, vI k, vI w1, vI w2], [vR (y + 12)], aq_h m s F c) _
            refine am_E.go (t2 := (119, [vR y, vI n, vL w, vU, vI k, vI w1, vI w2], [vI w1, vR (y + 12)], aq_h m s F c)) rfl rfl ?_
            refine aq_al (ok := fun k => k == 0) (v := vI (c (y + 12) w1)) rfl rfl (by omega) hG12 rfl (by omega) (by omega) rfl ?_
            show am_E _ (120, [vR y, vI n, vL w, vU, vI k, vI w1, vI w2], [vI (c (y + 12) w1)], aq_h m s F c) _
            refine am_E.go (t2 := (122, [vR y, vI n, vL w, vU, vI k, vI w1, vI w2], [vI (-4), vI (c (y + 12) w1)], aq_h m s F c)) rfl rfl ?_
            refine ae_icmp rfl (fun (q_6 : (c (y + 12) w1) ≠ (-4)) => ?_) (fun (q_6 : (c (y + 12) w1) = (-4)) => ?_)
            · refine am_E.go (t2 := (138, [vR y, vI n, vL w, vU, vI k, vI w1, vI w2], [vI (-1)], aq_h m s F c)) rfl rfl ?_
              refine am_E.ret rfl rfl ?_
              exact ⟨_, rfl, aq_smi hs (fun a h => by omega), ⟨_, rfl⟩, mo_Is hI hs (mo_ks mo_k0 hs (by omega)) (by omega) (by omega) (by omega) (by omega) (by omega)⟩
            · refine am_E.go (t2 := (126, [vR y, vI n, vL w, vU, vI k, vI w1, vI w2], [vR y], aq_h m s F c)) rfl rfl ?_
              refine aq_gf (v := vR (y + 12)) rfl (by omega) hFo (by decide) rfl ?_
              show am_E _ (129, [vR y, vI n, vL w, vU, vI k, vI w1, vI w2], [vR (y + 12)], aq_h m s F c) _
              refine am_E.go (t2 := (131, [vR y, vI n, vL w, vU, vI k, vI w1, vI w2], [vI w2, vR (y + 12)], aq_h m s F c)) rfl rfl ?_
              refine aq_al (ok := fun k => k == 0) (v := vI (c (y + 12) w2)) rfl rfl (by omega) hG12 rfl (by omega) (by omega) rfl ?_
              show am_E _ (132, [vR y, vI n, vL w, vU, vI k, vI w1, vI w2], [vI (c (y + 12) w2)], aq_h m s F c) _
              refine am_E.go (t2 := (134, [vR y, vI n, vL w, vU, vI k, vI w1, vI w2], [vI (-4), vI (c (y + 12) w2)], aq_h m s F c)) rfl rfl ?_
              refine ae_icmp rfl (fun (q_7 : (c (y + 12) w2) = (-4)) => ?_) (fun (q_7 : (c (y + 12) w2) ≠ (-4)) => ?_)
              · refine am_E.go (t2 := (140, [vR y, vI n, vL w, vU, vI k, vI w1, vI w2], [vR y], aq_h m s F c)) rfl rfl ?_
                refine aq_gf (v := vR (y + 12)) rfl (by omega) hFo (by decide) rfl ?_
                show am_E _ (143, [vR y, vI n, vL w, vU, vI k, vI w1, vI w2], [vR (y + 12)], aq_h m s F c) _
                refine am_E.go (t2 := (145, [vR y, vI n, vL w, vU, vI k, vI w1, vI w2], [vI w1, vR (y + 12)], aq_h m s F c)) rfl rfl ?_
                refine am_E.go (t2 := (147, [vR y, vI n, vL w, vU, vI k, vI w1, vI w2], [vI w2, vI w1, vR (y + 12)], aq_h m s F c)) rfl rfl ?_
                refine aq_as (kd := 0) rfl rfl (by omega) hG12 (by omega) (by omega) rfl rfl ?_
                show am_E _ (148, [vR y, vI n, vL w, vU, vI k, vI w1, vI w2], [], aq_h m s F (aq_u c (y + 12) w1 w2)) _
                generalize hdc_8 : aq_u c (y + 12) w1 w2 = c_8
                have sc_8 := aq_smu hs hdc_8 rfl
                refine am_E.go (t2 := (149, [vR y, vI n, vL w, vU, vI k, vI w1, vI w2], [vR y], aq_h m s F c_8)) rfl rfl ?_
                refine aq_gf (v := vR (y + 12)) rfl (by omega) hFo (by decide) rfl ?_
                show am_E _ (152, [vR y, vI n, vL w, vU, vI k, vI w1, vI w2], [vR (y + 12)], aq_h m s F c_8) _
                refine am_E.go (t2 := (154, [vR y, vI n, vL w, vU, vI k, vI w1, vI w2], [vI w2, vR (y + 12)], aq_h m s F c_8)) rfl rfl ?_
                refine am_E.go (t2 := (156, [vR y, vI n, vL w, vU, vI k, vI w1, vI w2], [vI w1, vI w2, vR (y + 12)], aq_h m s F c_8)) rfl rfl ?_
                refine aq_as (kd := 0) rfl rfl (by omega) hG12 (by omega) (by omega) rfl rfl ?_
                show am_E _ (157, [vR y, vI n, vL w, vU, vI k, vI w1, vI w2], [], aq_h m s F (aq_u c_8 (y + 12) w2 w1)) _
                generalize hdc_9 : aq_u c_8 (y + 12) w2 w1 = c_9
                have sc_9 := aq_smu sc_8 hdc_9 rfl
                refine ae_iinc rfl rfl (am_ri (by omega) (by omega)) ?_
                show am_E _ (160, [vR y, vI n, vL w, vU, vI (k + 1), vI w1, vI w2], [], aq_h m s F c_9) _
                refine am_E.go (t2 := (54, [vR y, vI n, vL w, vU, vI (k + 1), vI w1, vI w2], [], aq_h m s F c_9)) rfl rfl ?_
                exact qg_box_2 ⟨hm, hFo, hG5, hG6, hG7, hG8, hG9, hG10, hG11, hG12, hG13, hG14, hG15, hG16, hG17, hG18, hG19, hG20, hG21, hG22, hG23⟩ ⟨hT1, hTt⟩ hI hn1 hn4 d (k + 1) (vI w1) (vI w2) c_9 sc_9 (by omega) (by omega) (by omega)
              · refine am_E.go (t2 := (138, [vR y, vI n, vL w, vU, vI k, vI w1, vI w2], [vI (-1)], aq_h m s F c)) rfl rfl ?_
                refine am_E.ret rfl rfl ?_
                exact ⟨_, rfl, aq_smi hs (fun a h => by omega), ⟨_, rfl⟩, mo_Is hI hs (mo_ks mo_k0 hs (by omega)) (by omega) (by omega) (by omega) (by omega) (by omega)⟩

theorem qg_box_1 {m s : Nat} {F : aq_F} {c0 : aq_C} {y : Nat} (hO : mo_0 m F y) {tbl : Int → Int} (hT : mo_T F y tbl) (hI : mo_I y c0) {n w : Int} (hn1 : 1 ≤ n) (hn4 : n ≤ 4) : ∀ (d : Nat) (k : Int) (v5 : am_V) (v6 : am_V) (c : aq_C) (hs : aq_sm (fun a => a = y + 12) c0 c) (h0 : 0 ≤ k) (h1 : k ≤ 8) (hd : 8 - k < (d : Int)), am_E ac_X5_box (29, [vR y, vI n, vL w, vU, vI k, v5, v6], [], aq_h m s F c) (aq_Z m s F (fun a => a = y ∨ (y + 10 ≤ a ∧ a < y + 24)) c0 (fun r d => aq_vi r ∧ mo_I y d))
  | 0, k, v5, v6, c, hs, h0, h1, hd => by exfalso; omega
  | d + 1, k, v5, v6, c, hs, h0, h1, hd => by
    obtain ⟨hm, hFo, hG5, hG6, hG7, hG8, hG9, hG10, hG11, hG12, hG13, hG14, hG15, hG16, hG17, hG18, hG19, hG20, hG21, hG22, hG23⟩ := hO
    obtain ⟨hT1, hTt⟩ := hT
    refine am_E.go (t2 := (31, [vR y, vI n, vL w, vU, vI k, v5, v6], [vI k], aq_h m s F c)) rfl rfl ?_
    refine am_E.go (t2 := (33, [vR y, vI n, vL w, vU, vI k, v5, v6], [vI 8, vI k], aq_h m s F c)) rfl rfl ?_
    refine ae_icmp rfl (fun (q_1 : 8 ≤ k) => ?_) (fun (q_1 : k < 8) => ?_)
    · refine am_E.go (t2 := (52, [vR y, vI n, vL w, vU, vI k, v5, v6], [vI 0], aq_h m s F c)) rfl rfl ?_
      refine am_E.go (t2 := (54, [vR y, vI n, vL w, vU, vI 0, v5, v6], [], aq_h m s F c)) rfl rfl ?_
      exact qg_box_2 ⟨hm, hFo, hG5, hG6, hG7, hG8, hG9, hG10, hG11, hG12, hG13, hG14, hG15, hG16, hG17, hG18, hG19, hG20, hG21, hG22, hG23⟩ ⟨hT1, hTt⟩ hI hn1 hn4 6 0 (v5) (v6) c hs (by omega) (by omega) (by omega)
    · refine am_E.go (t2 := (37, [vR y, vI n, vL w, vU, vI k, v5, v6], [vR y], aq_h m s F c)) rfl rfl ?_
      refine aq_gf (v := vR (y + 12)) rfl (by omega) hFo (by decide) rfl ?_
      show am_E _ (40, [vR y, vI n, vL w, vU, vI k, v5, v6], [vR (y + 12)], aq_h m s F c) _
      refine am_E.go (t2 := (42, [vR y, vI n, vL w, vU, vI k, v5, v6], [vI k, vR (y + 12)], aq_h m s F c)) rfl rfl ?_
      refine am_E.go (t2 := (44, [vR y, vI n, vL w, vU, vI k, v5, v6], [vI (-4), vI k, vR (y + 12)], aq_h m s F c)) rfl rfl ?_
      refine aq_as (kd := 0) rfl rfl (by omega) hG12 (by omega) (by omega) rfl rfl ?_
      show am_E _ (45, [vR y, vI n, vL w, vU, vI k, v5, v6], [], aq_h m s F (aq_u c (y + 12) k (-4))) _
      generalize hdc_2 : aq_u c (y + 12) k (-4) = c_2
      have sc_2 := aq_smu hs hdc_2 rfl
      refine ae_iinc rfl rfl (am_ri (by omega) (by omega)) ?_
      show am_E _ (48, [vR y, vI n, vL w, vU, vI (k + 1), v5, v6], [], aq_h m s F c_2) _
      refine am_E.go (t2 := (29, [vR y, vI n, vL w, vU, vI (k + 1), v5, v6], [], aq_h m s F c_2)) rfl rfl ?_
      exact qg_box_1 ⟨hm, hFo, hG5, hG6, hG7, hG8, hG9, hG10, hG11, hG12, hG13, hG14, hG15, hG16, hG17, hG18, hG19, hG20, hG21, hG22, hG23⟩ ⟨hT1, hTt⟩ hI hn1 hn4 d (k + 1) (v5) (v6) c_2 sc_2 (by omega) (by omega) (by omega)

theorem qg_X5_box {m s : Nat} {F : aq_F} {c : aq_C} {y : Nat} (hC : mo_C m F y) (hI : mo_I y c) {n w : Int} : am_E ac_X5_box (0, [vR y, vI n, vL w, vU, vU, vU, vU], [], aq_h m s F c) (aq_Z m s F (fun a => a = y ∨ (y + 10 ≤ a ∧ a < y + 24)) c (fun r d => aq_vi r ∧ mo_I y d)) := by
  obtain ⟨⟨hm, hFo, hG5, hG6, hG7, hG8, hG9, hG10, hG11, hG12, hG13, hG14, hG15, hG16, hG17, hG18, hG19, hG20, hG21, hG22, hG23⟩, ⟨tbl, hT1, hTt⟩, ⟨tA, tB, tD, hL1, hL2, hL3, hLt⟩⟩ := hC
  refine am_E.go (t2 := (1, [vR y, vI n, vL w, vU, vU, vU, vU], [vI n], aq_h m s F c)) rfl rfl ?_
  refine am_E.call rfl rfl rfl (Nat.le_of_ble_eq_true rfl) (qm_isWide) ?_
  rintro r5 h5 ⟨rfl, v_1, rfl, hv_1⟩
  show am_E _ (4, [vR y, vI n, vL w, vU, vU, vU, vU], [vI v_1], aq_h m s F c) _
  refine ae_if0 rfl (fun (q_2 : v_1 = 0) => ?_) (fun (q_2 : v_1 ≠ 0) => ?_)
  · refine am_E.go (t2 := (25, [vR y, vI n, vL w, vU, vU, vU, vU], [vI (-1)], aq_h m s F c)) rfl rfl ?_
    refine am_E.ret rfl rfl ?_
    exact ⟨_, rfl, aq_smi (aq_sm0 (c := c) (S := (fun a => a = y + 12))) (fun a h => by omega), ⟨_, rfl⟩, mo_Is hI (aq_sm0 (c := c) (S := (fun a => a = y + 12))) (mo_ks mo_k0 (aq_sm0 (c := c) (S := (fun a => a = y + 12))) (by omega)) (by omega) (by omega) (by omega) (by omega) (by omega)⟩
  · refine am_E.go (t2 := (8, [vR y, vI n, vL w, vU, vU, vU, vU], [vI n], aq_h m s F c)) rfl rfl ?_
    refine am_E.go (t2 := (10, [vR y, vI n, vL w, vU, vU, vU, vU], [vI 8, vI n], aq_h m s F c)) rfl rfl ?_
    refine ae_icmp rfl (fun (q_3 : 8 ≤ n) => ?_) (fun (q_3 : n < 8) => ?_)
    · refine am_E.go (t2 := (27, [vR y, vI n, vL w, vU, vU, vU, vU], [vI 0], aq_h m s F c)) rfl rfl ?_
      refine am_E.go (t2 := (29, [vR y, vI n, vL w, vU, vI 0, vU, vU], [], aq_h m s F c)) rfl rfl ?_
      exact qg_box_1 ⟨hm, hFo, hG5, hG6, hG7, hG8, hG9, hG10, hG11, hG12, hG13, hG14, hG15, hG16, hG17, hG18, hG19, hG20, hG21, hG22, hG23⟩ ⟨hT1, hTt⟩ hI (by omega) (by omega) 10 0 (vU) (vU) c (aq_sm0 (c := c) (S := (fun a => a = y + 12))) (by omega) (by omega) (by omega)
    · refine am_E.go (t2 := (14, [vR y, vI n, vL w, vU, vU, vU, vU], [vL w], aq_h m s F c)) rfl rfl ?_
      refine am_E.go (t2 := (16, [vR y, vI n, vL w, vU, vU, vU, vU], [vI 8, vL w], aq_h m s F c)) rfl rfl ?_
      refine am_E.go (t2 := (17, [vR y, vI n, vL w, vU, vU, vU, vU], [vI n, vI 8, vL w], aq_h m s F c)) rfl rfl ?_
      refine ae_mul rfl (am_ri (by omega) (by omega)) ?_
      show am_E _ (18, [vR y, vI n, vL w, vU, vU, vU, vU], [vI (8 * n), vL w], aq_h m s F c) _
      refine am_E.go (t2 := (19, [vR y, vI n, vL w, vU, vU, vU, vU], [vL (am_shrL w (8 * n))], aq_h m s F c)) rfl rfl ?_
      refine am_E.go (t2 := (20, [vR y, vI n, vL w, vU, vU, vU, vU], [vL 0, vL (am_shrL w (8 * n))], aq_h m s F c)) rfl rfl ?_
      have ez_4 := am_lcf (am_shrL w (8 * n)) 0
      refine am_E.go (t2 := (21, [vR y, vI n, vL w, vU, vU, vU, vU], [vI (if (am_shrL w (8 * n)) < 0 then -1 else if (am_shrL w (8 * n)) = 0 then 0 else 1)], aq_h m s F c)) rfl rfl ?_
      generalize (if (am_shrL w (8 * n)) < 0 then -1 else if (am_shrL w (8 * n)) = 0 then 0 else 1) = z_4 at ez_4 ⊢
      refine ae_if0 rfl (fun (q_5 : z_4 = 0) => ?_) (fun (q_5 : z_4 ≠ 0) => ?_)
      · refine am_E.go (t2 := (27, [vR y, vI n, vL w, vU, vU, vU, vU], [vI 0], aq_h m s F c)) rfl rfl ?_
        refine am_E.go (t2 := (29, [vR y, vI n, vL w, vU, vI 0, vU, vU], [], aq_h m s F c)) rfl rfl ?_
        exact qg_box_1 ⟨hm, hFo, hG5, hG6, hG7, hG8, hG9, hG10, hG11, hG12, hG13, hG14, hG15, hG16, hG17, hG18, hG19, hG20, hG21, hG22, hG23⟩ ⟨hT1, hTt⟩ hI (by omega) (by omega) 10 0 (vU) (vU) c (aq_sm0 (c := c) (S := (fun a => a = y + 12))) (by omega) (by omega) (by omega)
      · refine am_E.go (t2 := (25, [vR y, vI n, vL w, vU, vU, vU, vU], [vI (-1)], aq_h m s F c)) rfl rfl ?_
        refine am_E.ret rfl rfl ?_
        exact ⟨_, rfl, aq_smi (aq_sm0 (c := c) (S := (fun a => a = y + 12))) (fun a h => by omega), ⟨_, rfl⟩, mo_Is hI (aq_sm0 (c := c) (S := (fun a => a = y + 12))) (mo_ks mo_k0 (aq_sm0 (c := c) (S := (fun a => a = y + 12))) (by omega)) (by omega) (by omega) (by omega) (by omega) (by omega)⟩
theorem qg_X5_row {m s : Nat} {F : aq_F} {c : aq_C} {y : Nat} (hC : mo_C m F y) (hI : mo_I y c) {nn : Int} : am_E ac_X5_row (0, [vR y, vI nn], [], aq_h m s F c) (aq_Z m s F (fun a => a = y ∨ (y + 10 ≤ a ∧ a < y + 24)) c (fun r d => mo_I y d ∧ ((2 ≤ nn ∧ nn ≤ 4 ∧ r = some (vI 0) ∧ d y 9 = nn ∧ d y 10 = 0) ∨ (¬ (2 ≤ nn ∧ nn ≤ 4) ∧ r = some (vI (-1)) ∧ d = c)))) := by
  obtain ⟨⟨hm, hFo, hG5, hG6, hG7, hG8, hG9, hG10, hG11, hG12, hG13, hG14, hG15, hG16, hG17, hG18, hG19, hG20, hG21, hG22, hG23⟩, ⟨tbl, hT1, hTt⟩, ⟨tA, tB, tD, hL1, hL2, hL3, hLt⟩⟩ := hC
  obtain ⟨⟨hr0, hr1, hr2, hr3, hr4⟩, hIu⟩ := id hI
  refine am_E.go (t2 := (1, [vR y, vI nn], [vI nn], aq_h m s F c)) rfl rfl ?_
  refine am_E.go (t2 := (2, [vR y, vI nn], [vL nn], aq_h m s F c)) rfl rfl ?_
  refine am_E.go (t2 := (5, [vR y, vI nn], [vL 2, vL nn], aq_h m s F c)) rfl rfl ?_
  refine am_E.go (t2 := (8, [vR y, vI nn], [vL 4, vL 2, vL nn], aq_h m s F c)) rfl rfl ?_
  refine am_E.call rfl rfl rfl (Nat.le_of_ble_eq_true rfl) (qm_in) ?_
  rintro r5 h5 ⟨rfl, v_1, rfl, hv_1⟩
  show am_E _ (11, [vR y, vI nn], [vI v_1], aq_h m s F c) _
  refine ae_if0 rfl (fun (q_2 : v_1 ≠ 0) => ?_) (fun (q_2 : v_1 = 0) => ?_)
  · refine am_E.go (t2 := (17, [vR y, vI nn], [vR y], aq_h m s F c)) rfl rfl ?_
    refine am_E.go (t2 := (18, [vR y, vI nn], [vI nn, vR y], aq_h m s F c)) rfl rfl ?_
    refine aq_pf rfl (by omega) hFo (by decide) rfl rfl ?_
    show am_E _ (21, [vR y, vI nn], [], aq_h m s F (aq_u c y 9 nn)) _
    generalize hdc_3 : aq_u c y 9 nn = c_3
    have sc_3 := aq_smu (aq_sm0 (c := c) (S := fun a => a = y ∨ a = y + 10)) hdc_3 (Or.inl rfl)
    refine am_E.go (t2 := (22, [vR y, vI nn], [vR y], aq_h m s F c_3)) rfl rfl ?_
    refine am_E.go (t2 := (23, [vR y, vI nn], [vI 0, vR y], aq_h m s F c_3)) rfl rfl ?_
    refine aq_pf rfl (by omega) hFo (by decide) rfl rfl ?_
    show am_E _ (26, [vR y, vI nn], [], aq_h m s F (aq_u c_3 y 10 0)) _
    generalize hdc_4 : aq_u c_3 y 10 0 = c_4
    have sc_4 := aq_smu sc_3 hdc_4 (Or.inl rfl)
    refine am_E.go (t2 := (27, [vR y, vI nn], [vI 0], aq_h m s F c_4)) rfl rfl ?_
    refine am_E.ret rfl rfl ?_
    have g9 : c_4 y 9 = nn := by rw [← hdc_4, aq_un (Or.inr (by omega)), ← hdc_3, aq_us]
    have g10 : c_4 y 10 = 0 := by rw [← hdc_4, aq_us]
    exact ⟨_, rfl, aq_smi sc_4 (fun a h => by omega), mo_Ix hI sc_4 ⟨by omega, by omega, by omega, by omega, fun i h5 h6 => absurd h6 (by omega)⟩, Or.inl ⟨by omega, by omega, rfl, g9, g10⟩⟩
  · refine am_E.go (t2 := (15, [vR y, vI nn], [vI (-1)], aq_h m s F c)) rfl rfl ?_
    refine am_E.ret rfl rfl ?_
    exact ⟨_, rfl, aq_sm0, hI, Or.inr ⟨by omega, rfl, rfl⟩⟩

theorem qg_X5_cross {m s : Nat} {F : aq_F} {c : aq_C} {y : Nat} (hC : mo_C m F y) (hI : mo_I y c) {l : Int} (hl0 : -2147483648 ≤ l) (hl1 : l < 2147483648) : am_E ac_X5_cross (0, [vR y, vI l, vU], [], aq_h m s F c) (aq_Z m s F (fun a => a = y ∨ (y + 10 ≤ a ∧ a < y + 24)) c (fun r d => mo_I y d ∧ ((¬ (l ≠ 0 ∧ -(c y 9) < l ∧ l < c y 9) ∧ r = some (vI (-1)) ∧ d = c) ∨ ((l ≠ 0 ∧ -(c y 9) < l ∧ l < c y 9) ∧ 8 ≤ c y 10 ∧ r = some (vI (-3)) ∧ d = c) ∨ ((l ≠ 0 ∧ -(c y 9) < l ∧ l < c y 9) ∧ c y 10 < 8 ∧ r = some (vI (c y 10 + 1)) ∧ d y 9 = c y 9 ∧ d y 10 = c y 10 + 1)))) := by
  obtain ⟨⟨hm, hFo, hG5, hG6, hG7, hG8, hG9, hG10, hG11, hG12, hG13, hG14, hG15, hG16, hG17, hG18, hG19, hG20, hG21, hG22, hG23⟩, ⟨tbl, hT1, hTt⟩, ⟨tA, tB, tD, hL1, hL2, hL3, hLt⟩⟩ := hC
  obtain ⟨⟨hr0, hr1, hr2, hr3, hr4⟩, hIu⟩ := id hI
  refine am_E.go (t2 := (1, [vR y, vI l, vU], [vI l], aq_h m s F c)) rfl rfl ?_
  refine ae_if0 rfl (fun (q_1 : 0 ≤ l) => ?_) (fun (q_1 : l < 0) => ?_)
  · refine am_E.go (t2 := (10, [vR y, vI l, vU], [vI l], aq_h m s F c)) rfl rfl ?_
    refine am_E.go (t2 := (11, [vR y, vI l, vI l], [], aq_h m s F c)) rfl rfl ?_
    refine am_E.go (t2 := (12, [vR y, vI l, vI l], [vI l], aq_h m s F c)) rfl rfl ?_
    refine am_E.go (t2 := (13, [vR y, vI l, vI l], [vL l], aq_h m s F c)) rfl rfl ?_
    refine am_E.go (t2 := (14, [vR y, vI l, vI l], [vL 1, vL l], aq_h m s F c)) rfl rfl ?_
    refine am_E.go (t2 := (15, [vR y, vI l, vI l], [vR y, vL 1, vL l], aq_h m s F c)) rfl rfl ?_
    refine aq_gf (v := vI (c y 9)) rfl (by omega) hFo (by decide) rfl ?_
    show am_E _ (18, [vR y, vI l, vI l], [vI (c y 9), vL 1, vL l], aq_h m s F c) _
    skip
    refine am_E.go (t2 := (19, [vR y, vI l, vI l], [vI 1, vI (c y 9), vL 1, vL l], aq_h m s F c)) rfl rfl ?_
    refine ae_sub rfl (am_ri (by omega) (by omega)) ?_
    show am_E _ (20, [vR y, vI l, vI l], [vI ((c y 9) - 1), vL 1, vL l], aq_h m s F c) _
    refine am_E.go (t2 := (21, [vR y, vI l, vI l], [vL ((c y 9) - 1), vL 1, vL l], aq_h m s F c)) rfl rfl ?_
    refine am_E.call rfl rfl rfl (Nat.le_of_ble_eq_true rfl) (qm_in) ?_
    rintro r5 h5 ⟨rfl, v_3, rfl, hv_3⟩
    show am_E _ (24, [vR y, vI l, vI l], [vI v_3], aq_h m s F c) _
    refine ae_if0 rfl (fun (q_4 : v_3 ≠ 0) => ?_) (fun (q_4 : v_3 = 0) => ?_)
    · refine am_E.go (t2 := (30, [vR y, vI l, vI l], [vR y], aq_h m s F c)) rfl rfl ?_
      refine aq_gf (v := vI (c y 10)) rfl (by omega) hFo (by decide) rfl ?_
      show am_E _ (33, [vR y, vI l, vI l], [vI (c y 10)], aq_h m s F c) _
      skip
      refine am_E.go (t2 := (35, [vR y, vI l, vI l], [vI 8, vI (c y 10)], aq_h m s F c)) rfl rfl ?_
      refine ae_icmp rfl (fun (q_6 : (c y 10) ≠ 8) => ?_) (fun (q_6 : (c y 10) = 8) => ?_)
      · refine am_E.go (t2 := (42, [vR y, vI l, vI l], [vR y], aq_h m s F c)) rfl rfl ?_
        refine aq_gf (v := vR (y + 10)) rfl (by omega) hFo (by decide) rfl ?_
        show am_E _ (45, [vR y, vI l, vI l], [vR (y + 10)], aq_h m s F c) _
        refine am_E.go (t2 := (46, [vR y, vI l, vI l], [vR y, vR (y + 10)], aq_h m s F c)) rfl rfl ?_
        refine aq_gf (v := vI (c y 10)) rfl (by omega) hFo (by decide) rfl ?_
        show am_E _ (49, [vR y, vI l, vI l], [vI (c y 10), vR (y + 10)], aq_h m s F c) _
        skip
        refine am_E.go (t2 := (50, [vR y, vI l, vI l], [vI l, vI (c y 10), vR (y + 10)], aq_h m s F c)) rfl rfl ?_
        refine aq_as (kd := 0) rfl rfl (by omega) hG10 (by omega) (by omega) rfl rfl ?_
        show am_E _ (51, [vR y, vI l, vI l], [], aq_h m s F (aq_u c (y + 10) (c y 10) l)) _
        generalize hdc_8 : aq_u c (y + 10) (c y 10) l = c_8
        have sc_8 := aq_smu (aq_sm0 (c := c) (S := fun a => a = y ∨ a = y + 10)) hdc_8 (Or.inr rfl)
        refine am_E.go (t2 := (52, [vR y, vI l, vI l], [vR y], aq_h m s F c_8)) rfl rfl ?_
        refine am_E.go (t2 := (53, [vR y, vI l, vI l], [vR y, vR y], aq_h m s F c_8)) rfl rfl ?_
        refine aq_gf (v := vI (c_8 y 10)) rfl (by omega) hFo (by decide) rfl ?_
        show am_E _ (56, [vR y, vI l, vI l], [vI (c_8 y 10), vR y], aq_h m s F c_8) _
        have f_9 : c_8 y 10 = c y 10 := by rw [← hdc_8, aq_un (Or.inl (by omega))]
        refine am_E.go (t2 := (57, [vR y, vI l, vI l], [vI 1, vI (c_8 y 10), vR y], aq_h m s F c_8)) rfl rfl ?_
        refine ae_add rfl (am_ri (by omega) (by omega)) ?_
        show am_E _ (58, [vR y, vI l, vI l], [vI ((c_8 y 10) + 1), vR y], aq_h m s F c_8) _
        refine aq_pf rfl (by omega) hFo (by decide) rfl rfl ?_
        show am_E _ (61, [vR y, vI l, vI l], [], aq_h m s F (aq_u c_8 y 10 ((c_8 y 10) + 1))) _
        generalize hdc_10 : aq_u c_8 y 10 ((c_8 y 10) + 1) = c_10
        have sc_10 := aq_smu sc_8 hdc_10 (Or.inl rfl)
        refine am_E.go (t2 := (62, [vR y, vI l, vI l], [vR y], aq_h m s F c_10)) rfl rfl ?_
        refine aq_gf (v := vI (c_10 y 10)) rfl (by omega) hFo (by decide) rfl ?_
        show am_E _ (65, [vR y, vI l, vI l], [vI (c_10 y 10)], aq_h m s F c_10) _
        skip
        refine am_E.ret rfl rfl ?_
        have g9 : c_10 y 9 = c y 9 := by rw [← hdc_10, aq_un (Or.inr (by omega)), ← hdc_8, aq_un (Or.inl (by omega))]
        have g10 : c_10 y 10 = c y 10 + 1 := by rw [← hdc_10, aq_us, ← hdc_8, aq_un (Or.inl (by omega))]
        refine ⟨_, rfl, aq_smi sc_10 (fun a h => by omega), mo_Ix hI sc_10 ⟨by omega, by omega, by omega, by omega, fun i h5 h6 => ?_⟩, Or.inr (Or.inr ⟨by omega, by omega, by rw [g10], g9, g10⟩)⟩
        rw [← hdc_10, aq_un (Or.inl (by omega)), aq_un (Or.inr (by omega)), ← hdc_8, aq_un (Or.inl (by omega)) (a := y + 10) (b := y)]
        by_cases e : i = c y 10
        · rw [e, aq_us]
          omega
        · rw [aq_un (Or.inr e)]
          exact hr4 i h5 (by omega)
      · refine am_E.go (t2 := (40, [vR y, vI l, vI l], [vI (-3)], aq_h m s F c)) rfl rfl ?_
        refine am_E.ret rfl rfl ?_
        exact ⟨_, rfl, aq_sm0, hI, Or.inr (Or.inl ⟨by omega, by omega, rfl, rfl⟩)⟩
    · refine am_E.go (t2 := (28, [vR y, vI l, vI l], [vI (-1)], aq_h m s F c)) rfl rfl ?_
      refine am_E.ret rfl rfl ?_
      exact ⟨_, rfl, aq_sm0, hI, Or.inl ⟨by omega, rfl, rfl⟩⟩
  · refine am_E.go (t2 := (5, [vR y, vI l, vU], [vI l], aq_h m s F c)) rfl rfl ?_
    have e_n : am_w (-l) = -l ∨ l = -2147483648 := by by_cases e : l = -2147483648; exact Or.inr e; exact Or.inl (am_w_id (am_ri (by omega) (by omega)))
    have e_m : l = -2147483648 → am_w (-l) = -2147483648 := by intro e; rw [e]; rfl
    refine am_E.go (t2 := (6, [vR y, vI l, vU], [vI (am_w (-l))], aq_h m s F c)) rfl rfl ?_
    refine am_E.go (t2 := (10, [vR y, vI l, vU], [vI (am_w (-l))], aq_h m s F c)) rfl rfl ?_
    refine am_E.go (t2 := (11, [vR y, vI l, vI (am_w (-l))], [], aq_h m s F c)) rfl rfl ?_
    refine am_E.go (t2 := (12, [vR y, vI l, vI (am_w (-l))], [vI (am_w (-l))], aq_h m s F c)) rfl rfl ?_
    refine am_E.go (t2 := (13, [vR y, vI l, vI (am_w (-l))], [vL (am_w (-l))], aq_h m s F c)) rfl rfl ?_
    refine am_E.go (t2 := (14, [vR y, vI l, vI (am_w (-l))], [vL 1, vL (am_w (-l))], aq_h m s F c)) rfl rfl ?_
    refine am_E.go (t2 := (15, [vR y, vI l, vI (am_w (-l))], [vR y, vL 1, vL (am_w (-l))], aq_h m s F c)) rfl rfl ?_
    refine aq_gf (v := vI (c y 9)) rfl (by omega) hFo (by decide) rfl ?_
    show am_E _ (18, [vR y, vI l, vI (am_w (-l))], [vI (c y 9), vL 1, vL (am_w (-l))], aq_h m s F c) _
    skip
    refine am_E.go (t2 := (19, [vR y, vI l, vI (am_w (-l))], [vI 1, vI (c y 9), vL 1, vL (am_w (-l))], aq_h m s F c)) rfl rfl ?_
    refine ae_sub rfl (am_ri (by omega) (by omega)) ?_
    show am_E _ (20, [vR y, vI l, vI (am_w (-l))], [vI ((c y 9) - 1), vL 1, vL (am_w (-l))], aq_h m s F c) _
    refine am_E.go (t2 := (21, [vR y, vI l, vI (am_w (-l))], [vL ((c y 9) - 1), vL 1, vL (am_w (-l))], aq_h m s F c)) rfl rfl ?_
    refine am_E.call rfl rfl rfl (Nat.le_of_ble_eq_true rfl) (qm_in) ?_
    rintro r5 h5 ⟨rfl, v_13, rfl, hv_13⟩
    show am_E _ (24, [vR y, vI l, vI (am_w (-l))], [vI v_13], aq_h m s F c) _
    refine ae_if0 rfl (fun (q_14 : v_13 ≠ 0) => ?_) (fun (q_14 : v_13 = 0) => ?_)
    · refine am_E.go (t2 := (30, [vR y, vI l, vI (am_w (-l))], [vR y], aq_h m s F c)) rfl rfl ?_
      refine aq_gf (v := vI (c y 10)) rfl (by omega) hFo (by decide) rfl ?_
      show am_E _ (33, [vR y, vI l, vI (am_w (-l))], [vI (c y 10)], aq_h m s F c) _
      skip
      refine am_E.go (t2 := (35, [vR y, vI l, vI (am_w (-l))], [vI 8, vI (c y 10)], aq_h m s F c)) rfl rfl ?_
      refine ae_icmp rfl (fun (q_16 : (c y 10) ≠ 8) => ?_) (fun (q_16 : (c y 10) = 8) => ?_)
      · refine am_E.go (t2 := (42, [vR y, vI l, vI (am_w (-l))], [vR y], aq_h m s F c)) rfl rfl ?_
        refine aq_gf (v := vR (y + 10)) rfl (by omega) hFo (by decide) rfl ?_
        show am_E _ (45, [vR y, vI l, vI (am_w (-l))], [vR (y + 10)], aq_h m s F c) _
        refine am_E.go (t2 := (46, [vR y, vI l, vI (am_w (-l))], [vR y, vR (y + 10)], aq_h m s F c)) rfl rfl ?_
        refine aq_gf (v := vI (c y 10)) rfl (by omega) hFo (by decide) rfl ?_
        show am_E _ (49, [vR y, vI l, vI (am_w (-l))], [vI (c y 10), vR (y + 10)], aq_h m s F c) _
        skip
        refine am_E.go (t2 := (50, [vR y, vI l, vI (am_w (-l))], [vI l, vI (c y 10), vR (y + 10)], aq_h m s F c)) rfl rfl ?_
        refine aq_as (kd := 0) rfl rfl (by omega) hG10 (by omega) (by omega) rfl rfl ?_
        show am_E _ (51, [vR y, vI l, vI (am_w (-l))], [], aq_h m s F (aq_u c (y + 10) (c y 10) l)) _
        generalize hdc_18 : aq_u c (y + 10) (c y 10) l = c_18
        have sc_18 := aq_smu (aq_sm0 (c := c) (S := fun a => a = y ∨ a = y + 10)) hdc_18 (Or.inr rfl)
        refine am_E.go (t2 := (52, [vR y, vI l, vI (am_w (-l))], [vR y], aq_h m s F c_18)) rfl rfl ?_
        refine am_E.go (t2 := (53, [vR y, vI l, vI (am_w (-l))], [vR y, vR y], aq_h m s F c_18)) rfl rfl ?_
        refine aq_gf (v := vI (c_18 y 10)) rfl (by omega) hFo (by decide) rfl ?_
        show am_E _ (56, [vR y, vI l, vI (am_w (-l))], [vI (c_18 y 10), vR y], aq_h m s F c_18) _
        have f_19 : c_18 y 10 = c y 10 := by rw [← hdc_18, aq_un (Or.inl (by omega))]
        refine am_E.go (t2 := (57, [vR y, vI l, vI (am_w (-l))], [vI 1, vI (c_18 y 10), vR y], aq_h m s F c_18)) rfl rfl ?_
        refine ae_add rfl (am_ri (by omega) (by omega)) ?_
        show am_E _ (58, [vR y, vI l, vI (am_w (-l))], [vI ((c_18 y 10) + 1), vR y], aq_h m s F c_18) _
        refine aq_pf rfl (by omega) hFo (by decide) rfl rfl ?_
        show am_E _ (61, [vR y, vI l, vI (am_w (-l))], [], aq_h m s F (aq_u c_18 y 10 ((c_18 y 10) + 1))) _
        generalize hdc_20 : aq_u c_18 y 10 ((c_18 y 10) + 1) = c_20
        have sc_20 := aq_smu sc_18 hdc_20 (Or.inl rfl)
        refine am_E.go (t2 := (62, [vR y, vI l, vI (am_w (-l))], [vR y], aq_h m s F c_20)) rfl rfl ?_
        refine aq_gf (v := vI (c_20 y 10)) rfl (by omega) hFo (by decide) rfl ?_
        show am_E _ (65, [vR y, vI l, vI (am_w (-l))], [vI (c_20 y 10)], aq_h m s F c_20) _
        skip
        refine am_E.ret rfl rfl ?_
        have g9 : c_20 y 9 = c y 9 := by rw [← hdc_20, aq_un (Or.inr (by omega)), ← hdc_18, aq_un (Or.inl (by omega))]
        have g10 : c_20 y 10 = c y 10 + 1 := by rw [← hdc_20, aq_us, ← hdc_18, aq_un (Or.inl (by omega))]
        refine ⟨_, rfl, aq_smi sc_20 (fun a h => by omega), mo_Ix hI sc_20 ⟨by omega, by omega, by omega, by omega, fun i h5 h6 => ?_⟩, Or.inr (Or.inr ⟨by omega, by omega, by rw [g10], g9, g10⟩)⟩
        rw [← hdc_20, aq_un (Or.inl (by omega)), aq_un (Or.inr (by omega)), ← hdc_18, aq_un (Or.inl (by omega)) (a := y + 10) (b := y)]
        by_cases e : i = c y 10
        · rw [e, aq_us]
          omega
        · rw [aq_un (Or.inr e)]
          exact hr4 i h5 (by omega)
      · refine am_E.go (t2 := (40, [vR y, vI l, vI (am_w (-l))], [vI (-3)], aq_h m s F c)) rfl rfl ?_
        refine am_E.ret rfl rfl ?_
        exact ⟨_, rfl, aq_sm0, hI, Or.inr (Or.inl ⟨by omega, by omega, rfl, rfl⟩)⟩
    · refine am_E.go (t2 := (28, [vR y, vI l, vI (am_w (-l))], [vI (-1)], aq_h m s F c)) rfl rfl ?_
      refine am_E.ret rfl rfl ?_
      exact ⟨_, rfl, aq_sm0, hI, Or.inl ⟨by omega, rfl, rfl⟩⟩

theorem qg_X5_back {m s : Nat} {F : aq_F} {c : aq_C} {y : Nat} (hC : mo_C m F y) (hI : mo_I y c) : am_E ac_X5_back (0, [vR y], [], aq_h m s F c) (aq_Z m s F (fun a => a = y ∨ (y + 10 ≤ a ∧ a < y + 24)) c (fun r d => mo_I y d ∧ ((c y 10 ≤ 0 ∧ r = some (vI (-2)) ∧ d = c) ∨ (0 < c y 10 ∧ r = some (vI (c y 10 - 1)) ∧ d y 9 = c y 9 ∧ d y 10 = c y 10 - 1)))) := by
  obtain ⟨⟨hm, hFo, hG5, hG6, hG7, hG8, hG9, hG10, hG11, hG12, hG13, hG14, hG15, hG16, hG17, hG18, hG19, hG20, hG21, hG22, hG23⟩, ⟨tbl, hT1, hTt⟩, ⟨tA, tB, tD, hL1, hL2, hL3, hLt⟩⟩ := hC
  obtain ⟨⟨hr0, hr1, hr2, hr3, hr4⟩, hIu⟩ := id hI
  refine am_E.go (t2 := (1, [vR y], [vR y], aq_h m s F c)) rfl rfl ?_
  refine aq_gf (v := vI (c y 10)) rfl (by omega) hFo (by decide) rfl ?_
  show am_E _ (4, [vR y], [vI (c y 10)], aq_h m s F c) _
  skip
  refine ae_if0 rfl (fun (q_2 : (c y 10) ≠ 0) => ?_) (fun (q_2 : (c y 10) = 0) => ?_)
  · refine am_E.go (t2 := (11, [vR y], [vR y], aq_h m s F c)) rfl rfl ?_
    refine am_E.go (t2 := (12, [vR y], [vR y, vR y], aq_h m s F c)) rfl rfl ?_
    refine aq_gf (v := vI (c y 10)) rfl (by omega) hFo (by decide) rfl ?_
    show am_E _ (15, [vR y], [vI (c y 10), vR y], aq_h m s F c) _
    skip
    refine am_E.go (t2 := (16, [vR y], [vI 1, vI (c y 10), vR y], aq_h m s F c)) rfl rfl ?_
    refine ae_sub rfl (am_ri (by omega) (by omega)) ?_
    show am_E _ (17, [vR y], [vI ((c y 10) - 1), vR y], aq_h m s F c) _
    refine aq_pf rfl (by omega) hFo (by decide) rfl rfl ?_
    show am_E _ (20, [vR y], [], aq_h m s F (aq_u c y 10 ((c y 10) - 1))) _
    generalize hdc_4 : aq_u c y 10 ((c y 10) - 1) = c_4
    have sc_4 := aq_smu (aq_sm0 (c := c) (S := fun a => a = y ∨ a = y + 10)) hdc_4 (Or.inl rfl)
    refine am_E.go (t2 := (21, [vR y], [vR y], aq_h m s F c_4)) rfl rfl ?_
    refine aq_gf (v := vI (c_4 y 10)) rfl (by omega) hFo (by decide) rfl ?_
    show am_E _ (24, [vR y], [vI (c_4 y 10)], aq_h m s F c_4) _
    skip
    refine am_E.ret rfl rfl ?_
    have g9 : c_4 y 9 = c y 9 := by rw [← hdc_4, aq_un (Or.inr (by omega))]
    have g10 : c_4 y 10 = c y 10 - 1 := by rw [← hdc_4, aq_us]
    refine ⟨_, rfl, aq_smi sc_4 (fun a h => by omega), mo_Ix hI sc_4 ⟨by omega, by omega, by omega, by omega, fun i h5 h6 => ?_⟩, Or.inr ⟨by omega, by rw [g10], g9, g10⟩⟩
    rw [g9, ← hdc_4, aq_un (Or.inl (by omega))]
    exact hr4 i h5 (by omega)
  · refine am_E.go (t2 := (9, [vR y], [vI (-2)], aq_h m s F c)) rfl rfl ?_
    refine am_E.ret rfl rfl ?_
    exact ⟨_, rfl, aq_sm0, hI, Or.inl ⟨by omega, rfl, rfl⟩⟩

theorem qg_power_2 {m s : Nat} {F : aq_F} {c0 : aq_C} {y : Nat} (hO : mo_0 m F y) {tbl : Int → Int} (hT : mo_T F y tbl) (hI : mo_I y c0) {k : Int} (hk0 : -40 ≤ k) (hk1 : k ≤ 40) : ∀ (d : Nat) (b : Int) (c : aq_C) (hs : aq_sm (mo_S y) c0 c) (h0 : 0 ≤ b) (h1 : b ≤ 256) (hob : mo_k y c0 c) (hd : 256 - b < (d : Int)), am_E ac_X5_power (41, [vR y, vI k, vI b], [], aq_h m s F c) (aq_Z m s F (fun a => a = y ∨ (y + 10 ≤ a ∧ a < y + 24)) c0 (fun r d => aq_vi r ∧ mo_I y d))
  | 0, b, c, hs, h0, h1, hob, hd => by exfalso; omega
  | d + 1, b, c, hs, h0, h1, hob, hd => by
    obtain ⟨hm, hFo, hG5, hG6, hG7, hG8, hG9, hG10, hG11, hG12, hG13, hG14, hG15, hG16, hG17, hG18, hG19, hG20, hG21, hG22, hG23⟩ := hO
    obtain ⟨hT1, hTt⟩ := hT
    have hr := hI.1
    obtain ⟨hr0, hr1, hr2, hr3, hr4⟩ := id hr
    refine am_E.go (t2 := (42, [vR y, vI k, vI b], [vI b], aq_h m s F c)) rfl rfl ?_
    refine am_E.go (t2 := (43, [vR y, vI k, vI b], [vI 1, vI b], aq_h m s F c)) rfl rfl ?_
    refine am_E.go (t2 := (44, [vR y, vI k, vI b], [vR y, vI 1, vI b], aq_h m s F c)) rfl rfl ?_
    refine aq_gf (v := vI (c y 10)) rfl (by omega) hFo (by decide) rfl ?_
    show am_E _ (47, [vR y, vI k, vI b], [vI (c y 10), vI 1, vI b], aq_h m s F c) _
    have f_1 := (hob).2.1
    have e9 := am_shi1 (k := (c y 10)) (by omega) (by omega)
    refine ae_bin (z := am_shi 1 (c y 10)) rfl rfl rfl ?_
    refine ae_icmp rfl (fun (q_2 : (am_shi 1 (c y 10)) ≤ b) => ?_) (fun (q_2 : b < (am_shi 1 (c y 10))) => ?_)
    · refine am_E.go (t2 := (63, [vR y, vI k, vI b], [vR y], aq_h m s F c)) rfl rfl ?_
      refine aq_gf (v := vR (y + 21)) rfl (by omega) hFo (by decide) rfl ?_
      show am_E _ (66, [vR y, vI k, vI b], [vR (y + 21)], aq_h m s F c) _
      refine am_E.go (t2 := (68, [vR y, vI k, vI b], [vI 100, vR (y + 21)], aq_h m s F c)) rfl rfl ?_
      refine am_E.go (t2 := (69, [vR y, vI k, vI b], [vI k, vI 100, vR (y + 21)], aq_h m s F c)) rfl rfl ?_
      refine ae_add rfl (am_ri (by omega) (by omega)) ?_
      show am_E _ (70, [vR y, vI k, vI b], [vI (100 + k), vR (y + 21)], aq_h m s F c) _
      refine aq_al (ok := fun k => k == 0) (v := vI (c (y + 21) (100 + k))) rfl rfl (by omega) hG21 rfl (by omega) (by omega) rfl ?_
      show am_E _ (71, [vR y, vI k, vI b], [vI (c (y + 21) (100 + k))], aq_h m s F c) _
      refine am_E.ret rfl rfl ?_
      exact ⟨_, rfl, aq_smi hs (fun a h => mo_Sb h), ⟨_, rfl⟩, mo_Ik hI hs hob⟩
    · refine am_E.go (t2 := (52, [vR y, vI k, vI b], [vR y], aq_h m s F c)) rfl rfl ?_
      refine am_E.go (t2 := (53, [vR y, vI k, vI b], [vI b, vR y], aq_h m s F c)) rfl rfl ?_
      refine aq_callv (y := 2) (as2 := [vI b]) (rest := []) rfl rfl (by decide) (Nat.le_of_ble_eq_true rfl) rfl rfl (Nat.le_of_ble_eq_true rfl) (by omega) hFo rfl (Nat.le_of_ble_eq_true rfl) (qm_addState ⟨hm, hFo, hG5, hG6, hG7, hG8, hG9, hG10, hG11, hG12, hG13, hG14, hG15, hG16, hG17, hG18, hG19, hG20, hG21, hG22, hG23⟩ ⟨hT1, hTt⟩ (mo_rc hob.1 hob.2.1 (hs _ (mo_n (by decide) (by decide))) hr)) ?_
      rintro r5 h5 ⟨c_a, rfl, s_a, rfl, k_a⟩
      show am_E _ (56, [vR y, vI k, vI b], [], aq_h m s F c_a) _
      refine ae_iinc rfl rfl (am_ri (by omega) (by omega)) ?_
      show am_E _ (59, [vR y, vI k, vI (b + 1)], [], aq_h m s F c_a) _
      refine am_E.go (t2 := (41, [vR y, vI k, vI (b + 1)], [], aq_h m s F c_a)) rfl rfl ?_
      exact qg_power_2 ⟨hm, hFo, hG5, hG6, hG7, hG8, hG9, hG10, hG11, hG12, hG13, hG14, hG15, hG16, hG17, hG18, hG19, hG20, hG21, hG22, hG23⟩ ⟨hT1, hTt⟩ hI hk0 hk1 d (b + 1) c_a (aq_smt hs s_a) (by omega) (by omega) (mo_kt hob k_a) (by omega)

theorem qg_power_1 {m s : Nat} {F : aq_F} {c0 : aq_C} {y : Nat} (hO : mo_0 m F y) {tbl : Int → Int} (hT : mo_T F y tbl) (hI : mo_I y c0) {k : Int} (hk0 : -40 ≤ k) (hk1 : k ≤ 40) : ∀ (d : Nat) (i : Int) (c : aq_C) (hs : aq_sm (mo_S y) c0 c) (h0 : 0 ≤ i) (h1 : i ≤ 201) (hob : mo_k y c0 c) (hd : 201 - i < (d : Int)), am_E ac_X5_power (19, [vR y, vI k, vI i], [], aq_h m s F c) (aq_Z m s F (fun a => a = y ∨ (y + 10 ≤ a ∧ a < y + 24)) c0 (fun r d => aq_vi r ∧ mo_I y d))
  | 0, i, c, hs, h0, h1, hob, hd => by exfalso; omega
  | d + 1, i, c, hs, h0, h1, hob, hd => by
    obtain ⟨hm, hFo, hG5, hG6, hG7, hG8, hG9, hG10, hG11, hG12, hG13, hG14, hG15, hG16, hG17, hG18, hG19, hG20, hG21, hG22, hG23⟩ := hO
    obtain ⟨hT1, hTt⟩ := hT
    have hr := hI.1
    obtain ⟨hr0, hr1, hr2, hr3, hr4⟩ := id hr
    refine am_E.go (t2 := (20, [vR y, vI k, vI i], [vI i], aq_h m s F c)) rfl rfl ?_
    refine am_E.go (t2 := (23, [vR y, vI k, vI i], [vI 201, vI i], aq_h m s F c)) rfl rfl ?_
    refine ae_icmp rfl (fun (q_1 : 201 ≤ i) => ?_) (fun (q_1 : i < 201) => ?_)
    · refine am_E.go (t2 := (40, [vR y, vI k, vI i], [vI 0], aq_h m s F c)) rfl rfl ?_
      refine am_E.go (t2 := (41, [vR y, vI k, vI 0], [], aq_h m s F c)) rfl rfl ?_
      exact qg_power_2 ⟨hm, hFo, hG5, hG6, hG7, hG8, hG9, hG10, hG11, hG12, hG13, hG14, hG15, hG16, hG17, hG18, hG19, hG20, hG21, hG22, hG23⟩ ⟨hT1, hTt⟩ hI hk0 hk1 258 0 c hs (by omega) (by omega) hob (by omega)
    · refine am_E.go (t2 := (27, [vR y, vI k, vI i], [vR y], aq_h m s F c)) rfl rfl ?_
      refine aq_gf (v := vR (y + 21)) rfl (by omega) hFo (by decide) rfl ?_
      show am_E _ (30, [vR y, vI k, vI i], [vR (y + 21)], aq_h m s F c) _
      refine am_E.go (t2 := (31, [vR y, vI k, vI i], [vI i, vR (y + 21)], aq_h m s F c)) rfl rfl ?_
      refine am_E.go (t2 := (32, [vR y, vI k, vI i], [vI 0, vI i, vR (y + 21)], aq_h m s F c)) rfl rfl ?_
      refine aq_as (kd := 0) rfl rfl (by omega) hG21 (by omega) (by omega) rfl rfl ?_
      show am_E _ (33, [vR y, vI k, vI i], [], aq_h m s F (aq_u c (y + 21) i 0)) _
      generalize hdc_2 : aq_u c (y + 21) i 0 = c_2
      have sc_2 := aq_smu hs hdc_2 (mo_Sk (by decide) (by decide))
      have hobc_2 := mo_ku hob hdc_2 (Or.inl (by omega))
      refine ae_iinc rfl rfl (am_ri (by omega) (by omega)) ?_
      show am_E _ (36, [vR y, vI k, vI (i + 1)], [], aq_h m s F c_2) _
      refine am_E.go (t2 := (19, [vR y, vI k, vI (i + 1)], [], aq_h m s F c_2)) rfl rfl ?_
      exact qg_power_1 ⟨hm, hFo, hG5, hG6, hG7, hG8, hG9, hG10, hG11, hG12, hG13, hG14, hG15, hG16, hG17, hG18, hG19, hG20, hG21, hG22, hG23⟩ ⟨hT1, hTt⟩ hI hk0 hk1 d (i + 1) c_2 sc_2 (by omega) (by omega) hobc_2 (by omega)

theorem qg_X5_power {m s : Nat} {F : aq_F} {c : aq_C} {y : Nat} (hC : mo_C m F y) (hI : mo_I y c) {k : Int} : am_E ac_X5_power (0, [vR y, vI k, vU], [], aq_h m s F c) (aq_Z m s F (fun a => a = y ∨ (y + 10 ≤ a ∧ a < y + 24)) c (fun r d => aq_vi r ∧ mo_I y d)) := by
  obtain ⟨⟨hm, hFo, hG5, hG6, hG7, hG8, hG9, hG10, hG11, hG12, hG13, hG14, hG15, hG16, hG17, hG18, hG19, hG20, hG21, hG22, hG23⟩, ⟨tbl, hT1, hTt⟩, ⟨tA, tB, tD, hL1, hL2, hL3, hLt⟩⟩ := hC
  refine am_E.go (t2 := (1, [vR y, vI k, vU], [vI k], aq_h m s F c)) rfl rfl ?_
  refine am_E.go (t2 := (2, [vR y, vI k, vU], [vL k], aq_h m s F c)) rfl rfl ?_
  refine am_E.go (t2 := (5, [vR y, vI k, vU], [vL (-40), vL k], aq_h m s F c)) rfl rfl ?_
  refine am_E.go (t2 := (8, [vR y, vI k, vU], [vL 40, vL (-40), vL k], aq_h m s F c)) rfl rfl ?_
  refine am_E.call rfl rfl rfl (Nat.le_of_ble_eq_true rfl) (qm_in) ?_
  rintro r5 h5 ⟨rfl, v_1, rfl, hv_1⟩
  show am_E _ (11, [vR y, vI k, vU], [vI v_1], aq_h m s F c) _
  refine ae_if0 rfl (fun (q_2 : v_1 ≠ 0) => ?_) (fun (q_2 : v_1 = 0) => ?_)
  · refine am_E.go (t2 := (18, [vR y, vI k, vU], [vI 0], aq_h m s F c)) rfl rfl ?_
    refine am_E.go (t2 := (19, [vR y, vI k, vI 0], [], aq_h m s F c)) rfl rfl ?_
    exact qg_power_1 ⟨hm, hFo, hG5, hG6, hG7, hG8, hG9, hG10, hG11, hG12, hG13, hG14, hG15, hG16, hG17, hG18, hG19, hG20, hG21, hG22, hG23⟩ ⟨hT1, hTt⟩ hI (by omega) (by omega) 203 0 c (aq_sm0 (c := c) (S := mo_S y)) (by omega) (by omega) (mo_k0 (y := y) (c := c)) (by omega)
  · refine am_E.go (t2 := (16, [vR y, vI k, vU], [vI (-1000000)], aq_h m s F c)) rfl rfl ?_
    refine am_E.ret rfl rfl ?_
    exact ⟨_, rfl, aq_smi (aq_sm0 (c := c) (S := mo_S y)) (fun a h => mo_Sb h), ⟨_, rfl⟩, mo_Ik hI (aq_sm0 (c := c) (S := mo_S y)) (mo_k0 (y := y) (c := c))⟩
theorem qg_X5_halves {m s : Nat} {F : aq_F} {c : aq_C} {y : Nat} (hC : mo_C m F y) (hI : mo_I y c) {n t : Int} : am_E ac_X5_halves (0, [vR y, vI n, vI t], [], aq_h m s F c) (aq_Z m s F (fun a => a = y ∨ (y + 10 ≤ a ∧ a < y + 24)) c (fun r d => aq_vi r ∧ mo_I y d)) := by
  obtain ⟨⟨hm, hFo, hG5, hG6, hG7, hG8, hG9, hG10, hG11, hG12, hG13, hG14, hG15, hG16, hG17, hG18, hG19, hG20, hG21, hG22, hG23⟩, ⟨tbl, hT1, hTt⟩, ⟨tA, tB, tD, hL1, hL2, hL3, hLt⟩⟩ := hC
  refine am_E.go (t2 := (1, [vR y, vI n, vI t], [vI n], aq_h m s F c)) rfl rfl ?_
  refine am_E.go (t2 := (2, [vR y, vI n, vI t], [vI t, vI n], aq_h m s F c)) rfl rfl ?_
  refine am_E.call rfl rfl rfl (Nat.le_of_ble_eq_true rfl) (qm_areHalves) ?_
  rintro r5 h5 ⟨rfl, v_1, rfl, hv_1⟩
  show am_E _ (5, [vR y, vI n, vI t], [vI v_1], aq_h m s F c) _
  refine ae_if0 rfl (fun (q_2 : v_1 = 0) => ?_) (fun (q_2 : v_1 ≠ 0) => ?_)
  · refine am_E.go (t2 := (23, [vR y, vI n, vI t], [vI (-1)], aq_h m s F c)) rfl rfl ?_
    refine am_E.ret rfl rfl ?_
    exact ⟨_, rfl, aq_smi (aq_sm0 (c := c) (S := mo_S y)) (fun a h => mo_Sb h), ⟨_, rfl⟩, mo_Ik hI (aq_sm0 (c := c) (S := mo_S y)) (mo_k0 (y := y) (c := c))⟩
  · refine am_E.go (t2 := (9, [vR y, vI n, vI t], [vR y], aq_h m s F c)) rfl rfl ?_
    refine am_E.go (t2 := (10, [vR y, vI n, vI t], [vI n, vR y], aq_h m s F c)) rfl rfl ?_
    refine am_E.go (t2 := (11, [vR y, vI n, vI t], [vI t, vI n, vR y], aq_h m s F c)) rfl rfl ?_
    refine am_E.go (t2 := (12, [vR y, vI n, vI t], [vI (-1), vI t, vI n, vR y], aq_h m s F c)) rfl rfl ?_
    refine am_E.go (t2 := (13, [vR y, vI n, vI t], [vR y, vI (-1), vI t, vI n, vR y], aq_h m s F c)) rfl rfl ?_
    refine aq_gf (v := vR (y + 18)) rfl (by omega) hFo (by decide) rfl ?_
    show am_E _ (16, [vR y, vI n, vI t], [vR (y + 18), vI (-1), vI t, vI n, vR y], aq_h m s F c) _
    refine aq_callv (y := 5) (as2 := [vI n, vI t, vI (-1), vR (y + 18)]) (rest := []) rfl rfl (by decide) (Nat.le_of_ble_eq_true rfl) rfl rfl (Nat.le_of_ble_eq_true rfl) (by omega) hFo rfl (Nat.le_of_ble_eq_true rfl) (qm_lay (y := y) (a := y + 18) (by omega) hFo (by omega) hG18 (n := n) (t := t) (by omega) (by omega) (by omega) (by omega) (Or.inl rfl)) ?_
    rintro r5 h5 ⟨c_3, rfl, sc_3, vc_3, rfl, hmc_3, hdc_3⟩
    show am_E _ (19, [vR y, vI n, vI t], [vI vc_3], aq_h m s F c_3) _
    have hm5 := hmc_3 rfl
    have hNb := hv_Nb n t
    refine am_E.go (t2 := (23, [vR y, vI n, vI t], [vI vc_3], aq_h m s F c_3)) rfl rfl ?_
    refine am_E.ret rfl rfl ?_
    exact ⟨_, rfl, aq_smi (aq_smt (aq_sm0 (c := c) (S := mo_S y)) (aq_smi sc_3 (fun a h => by unfold mo_S; omega))) (fun a h => mo_Sb h), ⟨_, rfl⟩, mo_Ik hI (aq_smt (aq_sm0 (c := c) (S := mo_S y)) (aq_smi sc_3 (fun a h => by unfold mo_S; omega))) (mo_ks (mo_k0 (y := y) (c := c)) sc_3 (by omega))⟩

theorem qg_X5_half {m s : Nat} {F : aq_F} {c : aq_C} {y : Nat} (hC : mo_C m F y) (hI : mo_I y c) {n t i p : Int} : am_E ac_X5_half (0, [vR y, vI n, vI t, vI i, vI p, vU], [], aq_h m s F c) (aq_Z m s F (fun a => a = y ∨ (y + 10 ≤ a ∧ a < y + 24)) c (fun r d => aq_vi r ∧ mo_I y d)) := by
  obtain ⟨⟨hm, hFo, hG5, hG6, hG7, hG8, hG9, hG10, hG11, hG12, hG13, hG14, hG15, hG16, hG17, hG18, hG19, hG20, hG21, hG22, hG23⟩, ⟨tbl, hT1, hTt⟩, ⟨tA, tB, tD, hL1, hL2, hL3, hLt⟩⟩ := hC
  refine am_E.go (t2 := (1, [vR y, vI n, vI t, vI i, vI p, vU], [vI n], aq_h m s F c)) rfl rfl ?_
  refine am_E.go (t2 := (2, [vR y, vI n, vI t, vI i, vI p, vU], [vI t, vI n], aq_h m s F c)) rfl rfl ?_
  refine am_E.call rfl rfl rfl (Nat.le_of_ble_eq_true rfl) (qm_areHalves) ?_
  rintro r5 h5 ⟨rfl, v_1, rfl, hv_1⟩
  show am_E _ (5, [vR y, vI n, vI t, vI i, vI p, vU], [vI v_1], aq_h m s F c) _
  refine ae_if0 rfl (fun (q_2 : v_1 = 0) => ?_) (fun (q_2 : v_1 ≠ 0) => ?_)
  · refine am_E.go (t2 := (27, [vR y, vI n, vI t, vI i, vI p, vU], [vI (-1)], aq_h m s F c)) rfl rfl ?_
    refine am_E.ret rfl rfl ?_
    exact ⟨_, rfl, aq_smi (aq_sm0 (c := c) (S := mo_S y)) (fun a h => mo_Sb h), ⟨_, rfl⟩, mo_Ik hI (aq_sm0 (c := c) (S := mo_S y)) (mo_k0 (y := y) (c := c))⟩
  · refine am_E.go (t2 := (9, [vR y, vI n, vI t, vI i, vI p, vU], [vI i], aq_h m s F c)) rfl rfl ?_
    refine ae_if0 rfl (fun (q_3 : i < 0) => ?_) (fun (q_3 : 0 ≤ i) => ?_)
    · refine am_E.go (t2 := (27, [vR y, vI n, vI t, vI i, vI p, vU], [vI (-1)], aq_h m s F c)) rfl rfl ?_
      refine am_E.ret rfl rfl ?_
      exact ⟨_, rfl, aq_smi (aq_sm0 (c := c) (S := mo_S y)) (fun a h => mo_Sb h), ⟨_, rfl⟩, mo_Ik hI (aq_sm0 (c := c) (S := mo_S y)) (mo_k0 (y := y) (c := c))⟩
    · refine am_E.go (t2 := (14, [vR y, vI n, vI t, vI i, vI p, vU], [vI p], aq_h m s F c)) rfl rfl ?_
      refine am_E.go (t2 := (15, [vR y, vI n, vI t, vI i, vI p, vU], [vL p], aq_h m s F c)) rfl rfl ?_
      refine am_E.go (t2 := (16, [vR y, vI n, vI t, vI i, vI p, vU], [vL 0, vL p], aq_h m s F c)) rfl rfl ?_
      refine am_E.go (t2 := (17, [vR y, vI n, vI t, vI i, vI p, vU], [vI n, vL 0, vL p], aq_h m s F c)) rfl rfl ?_
      refine am_E.go (t2 := (18, [vR y, vI n, vI t, vI i, vI p, vU], [vI 1, vI n, vL 0, vL p], aq_h m s F c)) rfl rfl ?_
      refine ae_sub rfl (am_ri (by omega) (by omega)) ?_
      show am_E _ (19, [vR y, vI n, vI t, vI i, vI p, vU], [vI (n - 1), vL 0, vL p], aq_h m s F c) _
      refine am_E.go (t2 := (20, [vR y, vI n, vI t, vI i, vI p, vU], [vL (n - 1), vL 0, vL p], aq_h m s F c)) rfl rfl ?_
      refine am_E.call rfl rfl rfl (Nat.le_of_ble_eq_true rfl) (qm_in) ?_
      rintro r5 h5 ⟨rfl, v_4, rfl, hv_4⟩
      show am_E _ (23, [vR y, vI n, vI t, vI i, vI p, vU], [vI v_4], aq_h m s F c) _
      refine ae_if0 rfl (fun (q_5 : v_4 ≠ 0) => ?_) (fun (q_5 : v_4 = 0) => ?_)
      · refine am_E.go (t2 := (29, [vR y, vI n, vI t, vI i, vI p, vU], [vI i], aq_h m s F c)) rfl rfl ?_
        refine am_E.go (t2 := (30, [vR y, vI n, vI t, vI i, vI p, vU], [vR y, vI i], aq_h m s F c)) rfl rfl ?_
        refine am_E.go (t2 := (31, [vR y, vI n, vI t, vI i, vI p, vU], [vI n, vR y, vI i], aq_h m s F c)) rfl rfl ?_
        refine am_E.go (t2 := (32, [vR y, vI n, vI t, vI i, vI p, vU], [vI t, vI n, vR y, vI i], aq_h m s F c)) rfl rfl ?_
        refine am_E.go (t2 := (33, [vR y, vI n, vI t, vI i, vI p, vU], [vI (-1), vI t, vI n, vR y, vI i], aq_h m s F c)) rfl rfl ?_
        refine am_E.go (t2 := (34, [vR y, vI n, vI t, vI i, vI p, vU], [vR y, vI (-1), vI t, vI n, vR y, vI i], aq_h m s F c)) rfl rfl ?_
        refine aq_gf (v := vR (y + 18)) rfl (by omega) hFo (by decide) rfl ?_
        show am_E _ (37, [vR y, vI n, vI t, vI i, vI p, vU], [vR (y + 18), vI (-1), vI t, vI n, vR y, vI i], aq_h m s F c) _
        refine aq_callv (y := 5) (as2 := [vI n, vI t, vI (-1), vR (y + 18)]) (rest := [vI i]) rfl rfl (by decide) (Nat.le_of_ble_eq_true rfl) rfl rfl (Nat.le_of_ble_eq_true rfl) (by omega) hFo rfl (Nat.le_of_ble_eq_true rfl) (qm_lay (y := y) (a := y + 18) (by omega) hFo (by omega) hG18 (n := n) (t := t) (by omega) (by omega) (by omega) (by omega) (Or.inl rfl)) ?_
        rintro r5 h5 ⟨c_6, rfl, sc_6, vc_6, rfl, hmc_6, hdc_6⟩
        show am_E _ (40, [vR y, vI n, vI t, vI i, vI p, vU], [vI vc_6, vI i], aq_h m s F c_6) _
        have hm5 := hmc_6 rfl
        have hNb := hv_Nb n t
        refine ae_icmp rfl (fun (q_7 : i < vc_6) => ?_) (fun (q_7 : vc_6 ≤ i) => ?_)
        · refine am_E.go (t2 := (47, [vR y, vI n, vI t, vI i, vI p, vU], [vR y], aq_h m s F c_6)) rfl rfl ?_
          refine am_E.go (t2 := (48, [vR y, vI n, vI t, vI i, vI p, vU], [vI n, vR y], aq_h m s F c_6)) rfl rfl ?_
          refine am_E.go (t2 := (49, [vR y, vI n, vI t, vI i, vI p, vU], [vI t, vI n, vR y], aq_h m s F c_6)) rfl rfl ?_
          refine am_E.go (t2 := (50, [vR y, vI n, vI t, vI i, vI p, vU], [vI i, vI t, vI n, vR y], aq_h m s F c_6)) rfl rfl ?_
          refine am_E.go (t2 := (51, [vR y, vI n, vI t, vI i, vI p, vU], [vR y, vI i, vI t, vI n, vR y], aq_h m s F c_6)) rfl rfl ?_
          refine aq_gf (v := vR (y + 18)) rfl (by omega) hFo (by decide) rfl ?_
          show am_E _ (54, [vR y, vI n, vI t, vI i, vI p, vU], [vR (y + 18), vI i, vI t, vI n, vR y], aq_h m s F c_6) _
          refine aq_callv (y := 5) (as2 := [vI n, vI t, vI i, vR (y + 18)]) (rest := []) rfl rfl (by decide) (Nat.le_of_ble_eq_true rfl) rfl rfl (Nat.le_of_ble_eq_true rfl) (by omega) hFo rfl (Nat.le_of_ble_eq_true rfl) (qm_lay (y := y) (a := y + 18) (by omega) hFo (by omega) hG18 (n := n) (t := t) (by omega) (by omega) (by omega) (by omega) (Or.inr ⟨by omega, by omega⟩)) ?_
          rintro r5 h5 ⟨c_8, rfl, sc_8, vc_8, rfl, hmc_8, hdc_8⟩
          show am_E _ (57, [vR y, vI n, vI t, vI i, vI p, vU], [vI vc_8], aq_h m s F c_8) _
          have hNb := hv_Nb n t
          refine am_E.go (t2 := (59, [vR y, vI n, vI t, vI i, vI p, vI vc_8], [], aq_h m s F c_8)) rfl rfl ?_
          refine am_E.go (t2 := (60, [vR y, vI n, vI t, vI i, vI p, vI vc_8], [vR y], aq_h m s F c_8)) rfl rfl ?_
          refine aq_gf (v := vR (y + 18)) rfl (by omega) hFo (by decide) rfl ?_
          show am_E _ (63, [vR y, vI n, vI t, vI i, vI p, vI vc_8], [vR (y + 18)], aq_h m s F c_8) _
          refine am_E.go (t2 := (65, [vR y, vI n, vI t, vI i, vI p, vI vc_8], [vI p, vR (y + 18)], aq_h m s F c_8)) rfl rfl ?_
          refine aq_al (ok := fun k => k == 0) (v := vI (c_8 (y + 18) p)) rfl rfl (by omega) hG18 rfl (by omega) (by omega) rfl ?_
          show am_E _ (66, [vR y, vI n, vI t, vI i, vI p, vI vc_8], [vI (c_8 (y + 18) p)], aq_h m s F c_8) _
          refine am_E.ret rfl rfl ?_
          exact ⟨_, rfl, aq_smi (aq_smt (aq_smt (aq_sm0 (c := c) (S := mo_S y)) (aq_smi sc_6 (fun a h => by unfold mo_S; omega))) (aq_smi sc_8 (fun a h => by unfold mo_S; omega))) (fun a h => mo_Sb h), ⟨_, rfl⟩, mo_Ik hI (aq_smt (aq_smt (aq_sm0 (c := c) (S := mo_S y)) (aq_smi sc_6 (fun a h => by unfold mo_S; omega))) (aq_smi sc_8 (fun a h => by unfold mo_S; omega))) (mo_ks (mo_ks (mo_k0 (y := y) (c := c)) sc_6 (by omega)) sc_8 (by omega))⟩
        · refine am_E.go (t2 := (45, [vR y, vI n, vI t, vI i, vI p, vU], [vI (-4)], aq_h m s F c_6)) rfl rfl ?_
          refine am_E.ret rfl rfl ?_
          exact ⟨_, rfl, aq_smi (aq_smt (aq_sm0 (c := c) (S := mo_S y)) (aq_smi sc_6 (fun a h => by unfold mo_S; omega))) (fun a h => mo_Sb h), ⟨_, rfl⟩, mo_Ik hI (aq_smt (aq_sm0 (c := c) (S := mo_S y)) (aq_smi sc_6 (fun a h => by unfold mo_S; omega))) (mo_ks (mo_k0 (y := y) (c := c)) sc_6 (by omega))⟩
      · refine am_E.go (t2 := (27, [vR y, vI n, vI t, vI i, vI p, vU], [vI (-1)], aq_h m s F c)) rfl rfl ?_
        refine am_E.ret rfl rfl ?_
        exact ⟨_, rfl, aq_smi (aq_sm0 (c := c) (S := mo_S y)) (fun a h => mo_Sb h), ⟨_, rfl⟩, mo_Ik hI (aq_sm0 (c := c) (S := mo_S y)) (mo_k0 (y := y) (c := c))⟩

theorem qg_X5_form {m s : Nat} {F : aq_F} {c : aq_C} {y : Nat} (hC : mo_C m F y) (hI : mo_I y c) {n t i j : Int} : am_E ac_X5_form (0, [vR y, vI n, vI t, vI i, vI j, vU, vU, vU], [], aq_h m s F c) (aq_Z m s F (fun a => a = y ∨ (y + 10 ≤ a ∧ a < y + 24)) c (fun r d => aq_vi r ∧ mo_I y d)) :=
  (qm_form hC.1).imp (fun r h2 ⟨d, e1, e2, e3, _, v, e4, _⟩ => ⟨d, e1, aq_smi e2 (fun a h => mo_Sb h), ⟨v, e4⟩, mo_Ik hI e2 e3⟩)

theorem qg_free_w {m s : Nat} {F : aq_F} {c0 : aq_C} {y : Nat} (hO : mo_0 m F y) (hI : mo_I y c0) {n t v p mn lt : Int} (hn1 : 1 ≤ n) (hn4 : n ≤ 4) (ht0 : 0 ≤ t) (ht1 : t ≤ n) (hp0 : 2 ≤ p) (hp1 : p ≤ 997) (hP : nm_P p) (hmn0 : 0 ≤ mn) (hmn : mn ≤ 6) (hl0 : 0 ≤ lt) (hl1 : lt < p) : ∀ (d : Nat) (rk : Int) (cc : Int) (w : Int) (v10 : am_V) (v11 : am_V) (c : aq_C) (hs : aq_sm (mo_S y) c0 c) (h0 : 0 ≤ cc) (h1 : cc < mn) (h2 : 0 ≤ rk) (h3 : rk ≤ w) (h4 : w ≤ mn) (hob : mo_k y c0 c) (hfr : fr_ y p mn c) (hd : mn - w < (d : Int)) (K0 : ∀ (w2 : Int) (c2 : aq_C) (hs2 : aq_sm (mo_S y) c0 c2) (f1 : rk ≤ w2) (f2 : w2 ≤ mn) (f3 : w2 = mn ∨ c2 (y + 20) (6 * w2 + cc) ≠ 0) (hob2 : mo_k y c0 c2) (hfr2 : fr_ y p mn c2), am_E ac_X5_free (220, [vR y, vI n, vI t, vI v, vI p, vI mn, vI lt, vI rk, vI cc, vI w2, v10, v11], [], aq_h m s F c2) (aq_Z m s F (fun a => a = y ∨ (y + 10 ≤ a ∧ a < y + 24)) c0 (fun r d => aq_vi r ∧ mo_I y d))), am_E ac_X5_free (191, [vR y, vI n, vI t, vI v, vI p, vI mn, vI lt, vI rk, vI cc, vI w, v10, v11], [], aq_h m s F c) (aq_Z m s F (fun a => a = y ∨ (y + 10 ≤ a ∧ a < y + 24)) c0 (fun r d => aq_vi r ∧ mo_I y d))
  | 0, rk, cc, w, v10, v11, c, hs, h0, h1, h2, h3, h4, hob, hfr, hd, K0 => by exfalso; omega
  | d + 1, rk, cc, w, v10, v11, c, hs, h0, h1, h2, h3, h4, hob, hfr, hd, K0 => by
    obtain ⟨hm, hFo, hG5, hG6, hG7, hG8, hG9, hG10, hG11, hG12, hG13, hG14, hG15, hG16, hG17, hG18, hG19, hG20, hG21, hG22, hG23⟩ := hO
    refine am_E.go (t2 := (193, [vR y, vI n, vI t, vI v, vI p, vI mn, vI lt, vI rk, vI cc, vI w, v10, v11], [vI w], aq_h m s F c)) rfl rfl ?_
    refine am_E.go (t2 := (195, [vR y, vI n, vI t, vI v, vI p, vI mn, vI lt, vI rk, vI cc, vI w, v10, v11], [vI mn, vI w], aq_h m s F c)) rfl rfl ?_
    refine ae_icmp rfl (fun (q_1 : mn ≤ w) => ?_) (fun (q_1 : w < mn) => ?_)
    · exact K0 w c hs (by omega) (by omega) (by first | (exact Or.inl (by omega)) | (exact Or.inr (by assumption))) hob hfr
    · refine am_E.go (t2 := (199, [vR y, vI n, vI t, vI v, vI p, vI mn, vI lt, vI rk, vI cc, vI w, v10, v11], [vR y], aq_h m s F c)) rfl rfl ?_
      refine aq_gf (v := vR (y + 20)) rfl (by omega) hFo (by decide) rfl ?_
      show am_E _ (202, [vR y, vI n, vI t, vI v, vI p, vI mn, vI lt, vI rk, vI cc, vI w, v10, v11], [vR (y + 20)], aq_h m s F c) _
      refine am_E.go (t2 := (204, [vR y, vI n, vI t, vI v, vI p, vI mn, vI lt, vI rk, vI cc, vI w, v10, v11], [vI 6, vR (y + 20)], aq_h m s F c)) rfl rfl ?_
      refine am_E.go (t2 := (206, [vR y, vI n, vI t, vI v, vI p, vI mn, vI lt, vI rk, vI cc, vI w, v10, v11], [vI w, vI 6, vR (y + 20)], aq_h m s F c)) rfl rfl ?_
      refine ae_mul rfl (am_ri (by omega) (by omega)) ?_
      show am_E _ (207, [vR y, vI n, vI t, vI v, vI p, vI mn, vI lt, vI rk, vI cc, vI w, v10, v11], [vI (6 * w), vR (y + 20)], aq_h m s F c) _
      refine am_E.go (t2 := (209, [vR y, vI n, vI t, vI v, vI p, vI mn, vI lt, vI rk, vI cc, vI w, v10, v11], [vI cc, vI (6 * w), vR (y + 20)], aq_h m s F c)) rfl rfl ?_
      refine ae_add rfl (am_ri (by omega) (by omega)) ?_
      show am_E _ (210, [vR y, vI n, vI t, vI v, vI p, vI mn, vI lt, vI rk, vI cc, vI w, v10, v11], [vI ((6 * w) + cc), vR (y + 20)], aq_h m s F c) _
      refine aq_al (ok := fun k => k == 0) (v := vI (c (y + 20) ((6 * w) + cc))) rfl rfl (by omega) hG20 rfl (by omega) (by omega) rfl ?_
      show am_E _ (211, [vR y, vI n, vI t, vI v, vI p, vI mn, vI lt, vI rk, vI cc, vI w, v10, v11], [vI (c (y + 20) ((6 * w) + cc))], aq_h m s F c) _
      refine ae_if0 rfl (fun (q_2 : (c (y + 20) ((6 * w) + cc)) ≠ 0) => ?_) (fun (q_2 : (c (y + 20) ((6 * w) + cc)) = 0) => ?_)
      · exact K0 w c hs (by omega) (by omega) (by first | (exact Or.inl (by omega)) | (exact Or.inr (by assumption))) hob hfr
      · refine ae_iinc rfl rfl (am_ri (by omega) (by omega)) ?_
        show am_E _ (217, [vR y, vI n, vI t, vI v, vI p, vI mn, vI lt, vI rk, vI cc, vI (w + 1), v10, v11], [], aq_h m s F c) _
        refine am_E.go (t2 := (191, [vR y, vI n, vI t, vI v, vI p, vI mn, vI lt, vI rk, vI cc, vI (w + 1), v10, v11], [], aq_h m s F c)) rfl rfl ?_
        exact qg_free_w ⟨hm, hFo, hG5, hG6, hG7, hG8, hG9, hG10, hG11, hG12, hG13, hG14, hG15, hG16, hG17, hG18, hG19, hG20, hG21, hG22, hG23⟩ hI hn1 hn4 ht0 ht1 hp0 hp1 hP hmn0 hmn hl0 hl1 d rk cc (w + 1) (v10) (v11) c hs (by omega) (by omega) (by omega) (by omega) (by omega) hob hfr (by omega) K0

theorem qg_free_r {m s : Nat} {F : aq_F} {c0 : aq_C} {y : Nat} (hO : mo_0 m F y) (hI : mo_I y c0) {n t v p mn lt : Int} (hn1 : 1 ≤ n) (hn4 : n ≤ 4) (ht0 : 0 ≤ t) (ht1 : t ≤ n) (hp0 : 2 ≤ p) (hp1 : p ≤ 997) (hP : nm_P p) (hmn0 : 0 ≤ mn) (hmn : mn ≤ 6) (hl0 : 0 ≤ lt) (hl1 : lt < p) : ∀ (d : Nat) (rk : Int) (cc : Int) (v9 : am_V) (v10 : am_V) (v11 : am_V) (c : aq_C) (hs : aq_sm (mo_S y) c0 c) (h0 : 0 ≤ cc) (h1 : cc ≤ mn) (h2 : 0 ≤ rk) (h3 : rk ≤ cc) (hob : mo_k y c0 c) (hfr : fr_ y p mn c) (hd : mn - cc < (d : Int)), am_E ac_X5_free (180, [vR y, vI n, vI t, vI v, vI p, vI mn, vI lt, vI rk, vI cc, v9, v10, v11], [], aq_h m s F c) (aq_Z m s F (fun a => a = y ∨ (y + 10 ≤ a ∧ a < y + 24)) c0 (fun r d => aq_vi r ∧ mo_I y d))
  | 0, rk, cc, v9, v10, v11, c, hs, h0, h1, h2, h3, hob, hfr, hd => by exfalso; omega
  | d + 1, rk, cc, v9, v10, v11, c, hs, h0, h1, h2, h3, hob, hfr, hd => by
    obtain ⟨hm, hFo, hG5, hG6, hG7, hG8, hG9, hG10, hG11, hG12, hG13, hG14, hG15, hG16, hG17, hG18, hG19, hG20, hG21, hG22, hG23⟩ := hO
    refine am_E.go (t2 := (182, [vR y, vI n, vI t, vI v, vI p, vI mn, vI lt, vI rk, vI cc, v9, v10, v11], [vI cc], aq_h m s F c)) rfl rfl ?_
    refine am_E.go (t2 := (184, [vR y, vI n, vI t, vI v, vI p, vI mn, vI lt, vI rk, vI cc, v9, v10, v11], [vI mn, vI cc], aq_h m s F c)) rfl rfl ?_
    refine ae_icmp rfl (fun (q_1 : mn ≤ cc) => ?_) (fun (q_1 : cc < mn) => ?_)
    · refine am_E.go (t2 := (252, [vR y, vI n, vI t, vI v, vI p, vI mn, vI lt, vI rk, vI cc, v9, v10, v11], [vI rk], aq_h m s F c)) rfl rfl ?_
      refine am_E.ret rfl rfl ?_
      exact ⟨_, rfl, aq_smi hs (fun a h => mo_Sb h), ⟨_, rfl⟩, mo_Ik hI hs hob⟩
    · refine am_E.go (t2 := (189, [vR y, vI n, vI t, vI v, vI p, vI mn, vI lt, vI rk, vI cc, v9, v10, v11], [vI rk], aq_h m s F c)) rfl rfl ?_
      refine am_E.go (t2 := (191, [vR y, vI n, vI t, vI v, vI p, vI mn, vI lt, vI rk, vI cc, vI rk, v10, v11], [], aq_h m s F c)) rfl rfl ?_
      refine qg_free_w ⟨hm, hFo, hG5, hG6, hG7, hG8, hG9, hG10, hG11, hG12, hG13, hG14, hG15, hG16, hG17, hG18, hG19, hG20, hG21, hG22, hG23⟩ hI hn1 hn4 ht0 ht1 hp0 hp1 hP hmn0 hmn hl0 hl1 8 rk cc rk (v10) (v11) c hs (by omega) (by omega) (by omega) (by omega) (by omega) hob hfr (by omega) ?_
      · intro w2_191 c_2 sc_2 f1_191 f2_191 f3_191 hob2_191 hfr2_191
        refine am_E.go (t2 := (222, [vR y, vI n, vI t, vI v, vI p, vI mn, vI lt, vI rk, vI cc, vI w2_191, (v10), (v11)], [vI w2_191], aq_h m s F c_2)) rfl rfl ?_
        refine am_E.go (t2 := (224, [vR y, vI n, vI t, vI v, vI p, vI mn, vI lt, vI rk, vI cc, vI w2_191, (v10), (v11)], [vI mn, vI w2_191], aq_h m s F c_2)) rfl rfl ?_
        refine ae_icmp rfl (fun (q_3 : mn ≤ w2_191) => ?_) (fun (q_3 : w2_191 < mn) => ?_)
        · refine ae_iinc rfl rfl (am_ri (by omega) (by omega)) ?_
          show am_E _ (247, [vR y, vI n, vI t, vI v, vI p, vI mn, vI lt, vI rk, vI (cc + 1), vI w2_191, (v10), (v11)], [], aq_h m s F c_2) _
          refine am_E.go (t2 := (180, [vR y, vI n, vI t, vI v, vI p, vI mn, vI lt, vI rk, vI (cc + 1), vI w2_191, (v10), (v11)], [], aq_h m s F c_2)) rfl rfl ?_
          exact qg_free_r ⟨hm, hFo, hG5, hG6, hG7, hG8, hG9, hG10, hG11, hG12, hG13, hG14, hG15, hG16, hG17, hG18, hG19, hG20, hG21, hG22, hG23⟩ hI hn1 hn4 ht0 ht1 hp0 hp1 hP hmn0 hmn hl0 hl1 d rk (cc + 1) (vI w2_191) ((v10)) ((v11)) c_2 sc_2 (by omega) (by omega) (by omega) (by omega) hob2_191 hfr2_191 (by omega)
        · refine am_E.go (t2 := (228, [vR y, vI n, vI t, vI v, vI p, vI mn, vI lt, vI rk, vI cc, vI w2_191, (v10), (v11)], [vR y], aq_h m s F c_2)) rfl rfl ?_
          refine am_E.go (t2 := (230, [vR y, vI n, vI t, vI v, vI p, vI mn, vI lt, vI rk, vI cc, vI w2_191, (v10), (v11)], [vI mn, vR y], aq_h m s F c_2)) rfl rfl ?_
          refine am_E.go (t2 := (232, [vR y, vI n, vI t, vI v, vI p, vI mn, vI lt, vI rk, vI cc, vI w2_191, (v10), (v11)], [vI rk, vI mn, vR y], aq_h m s F c_2)) rfl rfl ?_
          refine am_E.go (t2 := (234, [vR y, vI n, vI t, vI v, vI p, vI mn, vI lt, vI rk, vI cc, vI w2_191, (v10), (v11)], [vI w2_191, vI rk, vI mn, vR y], aq_h m s F c_2)) rfl rfl ?_
          refine am_E.go (t2 := (236, [vR y, vI n, vI t, vI v, vI p, vI mn, vI lt, vI rk, vI cc, vI w2_191, (v10), (v11)], [vI cc, vI w2_191, vI rk, vI mn, vR y], aq_h m s F c_2)) rfl rfl ?_
          refine am_E.go (t2 := (238, [vR y, vI n, vI t, vI v, vI p, vI mn, vI lt, vI rk, vI cc, vI w2_191, (v10), (v11)], [vI p, vI cc, vI w2_191, vI rk, vI mn, vR y], aq_h m s F c_2)) rfl rfl ?_
          refine aq_callv (y := 6) (as2 := [vI mn, vI rk, vI w2_191, vI cc, vI p]) (rest := []) rfl rfl (by decide) (Nat.le_of_ble_eq_true rfl) rfl rfl (Nat.le_of_ble_eq_true rfl) (by omega) hFo rfl (Nat.le_of_ble_eq_true rfl) (qm_reduce ⟨hm, hFo, hG5, hG6, hG7, hG8, hG9, hG10, hG11, hG12, hG13, hG14, hG15, hG16, hG17, hG18, hG19, hG20, hG21, hG22, hG23⟩ (mn := mn) (rk := rk) (rw_ := w2_191) (cc := cc) (p := p) hp0 hp1 hmn (by omega) (by omega) (by omega) (by omega) (by omega) (by omega) hP hfr2_191 (by rcases f3_191 with h | h; exact absurd h (by omega); exact h)) ?_
          rintro r5 h5 ⟨c_r, rfl, s_r, rfl, fr_r⟩
          show am_E _ (241, [vR y, vI n, vI t, vI v, vI p, vI mn, vI lt, vI rk, vI cc, vI w2_191, (v10), (v11)], [], aq_h m s F c_r) _
          refine ae_iinc rfl rfl (am_ri (by omega) (by omega)) ?_
          show am_E _ (244, [vR y, vI n, vI t, vI v, vI p, vI mn, vI lt, vI (rk + 1), vI cc, vI w2_191, (v10), (v11)], [], aq_h m s F c_r) _
          refine ae_iinc rfl rfl (am_ri (by omega) (by omega)) ?_
          show am_E _ (247, [vR y, vI n, vI t, vI v, vI p, vI mn, vI lt, vI (rk + 1), vI (cc + 1), vI w2_191, (v10), (v11)], [], aq_h m s F c_r) _
          refine am_E.go (t2 := (180, [vR y, vI n, vI t, vI v, vI p, vI mn, vI lt, vI (rk + 1), vI (cc + 1), vI w2_191, (v10), (v11)], [], aq_h m s F c_r)) rfl rfl ?_
          exact qg_free_r ⟨hm, hFo, hG5, hG6, hG7, hG8, hG9, hG10, hG11, hG12, hG13, hG14, hG15, hG16, hG17, hG18, hG19, hG20, hG21, hG22, hG23⟩ hI hn1 hn4 ht0 ht1 hp0 hp1 hP hmn0 hmn hl0 hl1 d (rk + 1) (cc + 1) (vI w2_191) ((v10)) ((v11)) c_r (aq_smt sc_2 (aq_smi s_r (fun a h => by unfold mo_S; omega))) (by omega) (by omega) (by omega) (by omega) (mo_ks hob2_191 s_r (by omega)) fr_r (by omega)

theorem qg_free_e {m s : Nat} {F : aq_F} {c0 : aq_C} {y : Nat} (hO : mo_0 m F y) (hI : mo_I y c0) {n t v p mn lt : Int} (hn1 : 1 ≤ n) (hn4 : n ≤ 4) (ht0 : 0 ≤ t) (ht1 : t ≤ n) (hp0 : 2 ≤ p) (hp1 : p ≤ 997) (hP : nm_P p) (hmn0 : 0 ≤ mn) (hmn : mn ≤ 6) (hl0 : 0 ≤ lt) (hl1 : lt < p) : ∀ (d : Nat) (i : Int) (j : Int) (pw : Int) (e : Int) (k : Int) (c : aq_C) (hs : aq_sm (mo_S y) c0 c) (h0 : 0 ≤ e) (h1 : e < p) (h2 : 0 ≤ k) (h3 : k ≤ 4) (h4 : pw ≤ 4) (hob : mo_k y c0 c) (hff : ff_ y p mn i j c) (hd : max 0 (pw - k) < (d : Int)) (K0 : ∀ (e2 : Int) (k2 : Int) (c2 : aq_C) (hs2 : aq_sm (mo_S y) c0 c2) (f1 : 0 ≤ e2) (f2 : e2 < p) (hob2 : mo_k y c0 c2) (hff2 : ff_ y p mn i j c2), am_E ac_X5_free (147, [vR y, vI n, vI t, vI v, vI p, vI mn, vI lt, vI i, vI j, vI pw, vI e2, vI k2], [], aq_h m s F c2) (aq_Z m s F (fun a => a = y ∨ (y + 10 ≤ a ∧ a < y + 24)) c0 (fun r d => aq_vi r ∧ mo_I y d))), am_E ac_X5_free (124, [vR y, vI n, vI t, vI v, vI p, vI mn, vI lt, vI i, vI j, vI pw, vI e, vI k], [], aq_h m s F c) (aq_Z m s F (fun a => a = y ∨ (y + 10 ≤ a ∧ a < y + 24)) c0 (fun r d => aq_vi r ∧ mo_I y d))
  | 0, i, j, pw, e, k, c, hs, h0, h1, h2, h3, h4, hob, hff, hd, K0 => by exfalso; omega
  | d + 1, i, j, pw, e, k, c, hs, h0, h1, h2, h3, h4, hob, hff, hd, K0 => by
    obtain ⟨hm, hFo, hG5, hG6, hG7, hG8, hG9, hG10, hG11, hG12, hG13, hG14, hG15, hG16, hG17, hG18, hG19, hG20, hG21, hG22, hG23⟩ := hO
    refine am_E.go (t2 := (126, [vR y, vI n, vI t, vI v, vI p, vI mn, vI lt, vI i, vI j, vI pw, vI e, vI k], [vI k], aq_h m s F c)) rfl rfl ?_
    refine am_E.go (t2 := (128, [vR y, vI n, vI t, vI v, vI p, vI mn, vI lt, vI i, vI j, vI pw, vI e, vI k], [vI pw, vI k], aq_h m s F c)) rfl rfl ?_
    refine ae_icmp rfl (fun (q_1 : pw ≤ k) => ?_) (fun (q_1 : k < pw) => ?_)
    · exact K0 e k c hs (by omega) (by omega) hob hff
    · refine am_E.go (t2 := (133, [vR y, vI n, vI t, vI v, vI p, vI mn, vI lt, vI i, vI j, vI pw, vI e, vI k], [vI e], aq_h m s F c)) rfl rfl ?_
      refine am_E.go (t2 := (135, [vR y, vI n, vI t, vI v, vI p, vI mn, vI lt, vI i, vI j, vI pw, vI e, vI k], [vI lt, vI e], aq_h m s F c)) rfl rfl ?_
      have u_2 := nm_mul (a := e) (b := lt) (by omega) (by omega) (by omega) (by omega)
      refine ae_mul rfl (am_ri (by omega) (by omega)) ?_
      show am_E _ (136, [vR y, vI n, vI t, vI v, vI p, vI mn, vI lt, vI i, vI j, vI pw, vI e, vI k], [vI (e * lt)], aq_h m s F c) _
      refine am_E.go (t2 := (138, [vR y, vI n, vI t, vI v, vI p, vI mn, vI lt, vI i, vI j, vI pw, vI e, vI k], [vI p, vI (e * lt)], aq_h m s F c)) rfl rfl ?_
      have eu_3 := nm_em (a := (e * lt)) (p := p) (by omega)
      refine ae_bin (z := (e * lt) % p) rfl rfl (am_rem_e (by omega) (by omega)) ?_
      generalize (e * lt) % p = u_3 at eu_3 ⊢
      refine am_E.go (t2 := (141, [vR y, vI n, vI t, vI v, vI p, vI mn, vI lt, vI i, vI j, vI pw, vI u_3, vI k], [], aq_h m s F c)) rfl rfl ?_
      refine ae_iinc rfl rfl (am_ri (by omega) (by omega)) ?_
      show am_E _ (144, [vR y, vI n, vI t, vI v, vI p, vI mn, vI lt, vI i, vI j, vI pw, vI u_3, vI (k + 1)], [], aq_h m s F c) _
      refine am_E.go (t2 := (124, [vR y, vI n, vI t, vI v, vI p, vI mn, vI lt, vI i, vI j, vI pw, vI u_3, vI (k + 1)], [], aq_h m s F c)) rfl rfl ?_
      exact qg_free_e ⟨hm, hFo, hG5, hG6, hG7, hG8, hG9, hG10, hG11, hG12, hG13, hG14, hG15, hG16, hG17, hG18, hG19, hG20, hG21, hG22, hG23⟩ hI hn1 hn4 ht0 ht1 hp0 hp1 hP hmn0 hmn hl0 hl1 d i j pw u_3 (k + 1) c hs (by omega) (by omega) (by omega) (by omega) (by omega) hob hff (by omega) K0

theorem qg_free_j {m s : Nat} {F : aq_F} {c0 : aq_C} {y : Nat} (hO : mo_0 m F y) (hI : mo_I y c0) {n t v p mn lt : Int} (hn1 : 1 ≤ n) (hn4 : n ≤ 4) (ht0 : 0 ≤ t) (ht1 : t ≤ n) (hp0 : 2 ≤ p) (hp1 : p ≤ 997) (hP : nm_P p) (hmn0 : 0 ≤ mn) (hmn : mn ≤ 6) (hl0 : 0 ≤ lt) (hl1 : lt < p) : ∀ (d : Nat) (i : Int) (j : Int) (v9 : am_V) (v10 : am_V) (v11 : am_V) (c : aq_C) (hs : aq_sm (mo_S y) c0 c) (h0 : 0 ≤ j) (h1 : j ≤ mn) (h2 : 0 ≤ i) (h3 : i < mn) (hob : mo_k y c0 c) (hff : ff_ y p mn i j c) (hd : mn - j < (d : Int)) (K0 : ∀ (j2 : Int) (v92 : am_V) (v102 : am_V) (v112 : am_V) (c2 : aq_C) (hs2 : aq_sm (mo_S y) c0 c2) (hob2 : mo_k y c0 c2) (hff2 : ff_ y p mn (i + 1) 0 c2), am_E ac_X5_free (168, [vR y, vI n, vI t, vI v, vI p, vI mn, vI lt, vI i, vI j2, v92, v102, v112], [], aq_h m s F c2) (aq_Z m s F (fun a => a = y ∨ (y + 10 ≤ a ∧ a < y + 24)) c0 (fun r d => aq_vi r ∧ mo_I y d))), am_E ac_X5_free (85, [vR y, vI n, vI t, vI v, vI p, vI mn, vI lt, vI i, vI j, v9, v10, v11], [], aq_h m s F c) (aq_Z m s F (fun a => a = y ∨ (y + 10 ≤ a ∧ a < y + 24)) c0 (fun r d => aq_vi r ∧ mo_I y d))
  | 0, i, j, v9, v10, v11, c, hs, h0, h1, h2, h3, hob, hff, hd, K0 => by exfalso; omega
  | d + 1, i, j, v9, v10, v11, c, hs, h0, h1, h2, h3, hob, hff, hd, K0 => by
    obtain ⟨hm, hFo, hG5, hG6, hG7, hG8, hG9, hG10, hG11, hG12, hG13, hG14, hG15, hG16, hG17, hG18, hG19, hG20, hG21, hG22, hG23⟩ := hO
    refine am_E.go (t2 := (87, [vR y, vI n, vI t, vI v, vI p, vI mn, vI lt, vI i, vI j, v9, v10, v11], [vI j], aq_h m s F c)) rfl rfl ?_
    refine am_E.go (t2 := (89, [vR y, vI n, vI t, vI v, vI p, vI mn, vI lt, vI i, vI j, v9, v10, v11], [vI mn, vI j], aq_h m s F c)) rfl rfl ?_
    refine ae_icmp rfl (fun (q_1 : mn ≤ j) => ?_) (fun (q_1 : j < mn) => ?_)
    · exact K0 j (v9) (v10) (v11) c hs hob (fun a b a1 a2 a3 a4 => hff a b a1 a2 a3 (by omega))
    · refine am_E.go (t2 := (93, [vR y, vI n, vI t, vI v, vI p, vI mn, vI lt, vI i, vI j, v9, v10, v11], [vR y], aq_h m s F c)) rfl rfl ?_
      refine am_E.go (t2 := (94, [vR y, vI n, vI t, vI v, vI p, vI mn, vI lt, vI i, vI j, v9, v10, v11], [vI n, vR y], aq_h m s F c)) rfl rfl ?_
      refine am_E.go (t2 := (95, [vR y, vI n, vI t, vI v, vI p, vI mn, vI lt, vI i, vI j, v9, v10, v11], [vI t, vI n, vR y], aq_h m s F c)) rfl rfl ?_
      refine am_E.go (t2 := (97, [vR y, vI n, vI t, vI v, vI p, vI mn, vI lt, vI i, vI j, v9, v10, v11], [vI i, vI t, vI n, vR y], aq_h m s F c)) rfl rfl ?_
      refine am_E.go (t2 := (99, [vR y, vI n, vI t, vI v, vI p, vI mn, vI lt, vI i, vI j, v9, v10, v11], [vI j, vI i, vI t, vI n, vR y], aq_h m s F c)) rfl rfl ?_
      refine aq_callv (y := 5) (as2 := [vI n, vI t, vI i, vI j]) (rest := []) rfl rfl (by decide) (Nat.le_of_ble_eq_true rfl) rfl rfl (Nat.le_of_ble_eq_true rfl) (by omega) hFo rfl (Nat.le_of_ble_eq_true rfl) (qm_form ⟨hm, hFo, hG5, hG6, hG7, hG8, hG9, hG10, hG11, hG12, hG13, hG14, hG15, hG16, hG17, hG18, hG19, hG20, hG21, hG22, hG23⟩) ?_
      rintro r5 h5 ⟨c_q, rfl, s_q, k_q, e_q, v_q, rfl, hv1, hv2⟩
      show am_E _ (102, [vR y, vI n, vI t, vI v, vI p, vI mn, vI lt, vI i, vI j, v9, v10, v11], [vI v_q], aq_h m s F c_q) _
      refine am_E.go (t2 := (104, [vR y, vI n, vI t, vI v, vI p, vI mn, vI lt, vI i, vI j, vI v_q, v10, v11], [], aq_h m s F c_q)) rfl rfl ?_
      refine am_E.go (t2 := (106, [vR y, vI n, vI t, vI v, vI p, vI mn, vI lt, vI i, vI j, vI v_q, v10, v11], [vI v_q], aq_h m s F c_q)) rfl rfl ?_
      refine am_E.go (t2 := (108, [vR y, vI n, vI t, vI v, vI p, vI mn, vI lt, vI i, vI j, vI v_q, v10, v11], [vI (-4), vI v_q], aq_h m s F c_q)) rfl rfl ?_
      refine ae_icmp rfl (fun (q_2 : v_q ≠ (-4)) => ?_) (fun (q_2 : v_q = (-4)) => ?_)
      · refine am_E.go (t2 := (116, [vR y, vI n, vI t, vI v, vI p, vI mn, vI lt, vI i, vI j, vI v_q, v10, v11], [vI 1], aq_h m s F c_q)) rfl rfl ?_
        refine am_E.go (t2 := (118, [vR y, vI n, vI t, vI v, vI p, vI mn, vI lt, vI i, vI j, vI v_q, v10, v11], [vI p, vI 1], aq_h m s F c_q)) rfl rfl ?_
        have eu_3 := nm_em (a := (1 : Int)) (p := p) (by omega)
        refine ae_bin (z := (1 : Int) % p) rfl rfl (am_rem_e (by omega) (by omega)) ?_
        generalize (1 : Int) % p = u_3 at eu_3 ⊢
        refine am_E.go (t2 := (121, [vR y, vI n, vI t, vI v, vI p, vI mn, vI lt, vI i, vI j, vI v_q, vI u_3, v11], [], aq_h m s F c_q)) rfl rfl ?_
        refine am_E.go (t2 := (122, [vR y, vI n, vI t, vI v, vI p, vI mn, vI lt, vI i, vI j, vI v_q, vI u_3, v11], [vI 0], aq_h m s F c_q)) rfl rfl ?_
        refine am_E.go (t2 := (124, [vR y, vI n, vI t, vI v, vI p, vI mn, vI lt, vI i, vI j, vI v_q, vI u_3, vI 0], [], aq_h m s F c_q)) rfl rfl ?_
        refine qg_free_e ⟨hm, hFo, hG5, hG6, hG7, hG8, hG9, hG10, hG11, hG12, hG13, hG14, hG15, hG16, hG17, hG18, hG19, hG20, hG21, hG22, hG23⟩ hI hn1 hn4 ht0 ht1 hp0 hp1 hP hmn0 hmn hl0 hl1 6 i j v_q u_3 0 c_q (aq_smt hs s_q) (by omega) (by omega) (by omega) (by omega) (by omega) (mo_kt hob k_q) (ff_c hff e_q) (by omega) ?_
        · intro e2_124 k2_124 c_4 sc_4 f1_124 f2_124 hob2_124 hff2_124
          refine am_E.go (t2 := (148, [vR y, vI n, vI t, vI v, vI p, vI mn, vI lt, vI i, vI j, vI v_q, vI e2_124, vI k2_124], [vR y], aq_h m s F c_4)) rfl rfl ?_
          refine aq_gf (v := vR (y + 20)) rfl (by omega) hFo (by decide) rfl ?_
          show am_E _ (151, [vR y, vI n, vI t, vI v, vI p, vI mn, vI lt, vI i, vI j, vI v_q, vI e2_124, vI k2_124], [vR (y + 20)], aq_h m s F c_4) _
          refine am_E.go (t2 := (153, [vR y, vI n, vI t, vI v, vI p, vI mn, vI lt, vI i, vI j, vI v_q, vI e2_124, vI k2_124], [vI 6, vR (y + 20)], aq_h m s F c_4)) rfl rfl ?_
          refine am_E.go (t2 := (155, [vR y, vI n, vI t, vI v, vI p, vI mn, vI lt, vI i, vI j, vI v_q, vI e2_124, vI k2_124], [vI i, vI 6, vR (y + 20)], aq_h m s F c_4)) rfl rfl ?_
          refine ae_mul rfl (am_ri (by omega) (by omega)) ?_
          show am_E _ (156, [vR y, vI n, vI t, vI v, vI p, vI mn, vI lt, vI i, vI j, vI v_q, vI e2_124, vI k2_124], [vI (6 * i), vR (y + 20)], aq_h m s F c_4) _
          refine am_E.go (t2 := (158, [vR y, vI n, vI t, vI v, vI p, vI mn, vI lt, vI i, vI j, vI v_q, vI e2_124, vI k2_124], [vI j, vI (6 * i), vR (y + 20)], aq_h m s F c_4)) rfl rfl ?_
          refine ae_add rfl (am_ri (by omega) (by omega)) ?_
          show am_E _ (159, [vR y, vI n, vI t, vI v, vI p, vI mn, vI lt, vI i, vI j, vI v_q, vI e2_124, vI k2_124], [vI ((6 * i) + j), vR (y + 20)], aq_h m s F c_4) _
          refine am_E.go (t2 := (161, [vR y, vI n, vI t, vI v, vI p, vI mn, vI lt, vI i, vI j, vI v_q, vI e2_124, vI k2_124], [vI e2_124, vI ((6 * i) + j), vR (y + 20)], aq_h m s F c_4)) rfl rfl ?_
          refine aq_as (kd := 0) rfl rfl (by omega) hG20 (by omega) (by omega) rfl rfl ?_
          show am_E _ (162, [vR y, vI n, vI t, vI v, vI p, vI mn, vI lt, vI i, vI j, vI v_q, vI e2_124, vI k2_124], [], aq_h m s F (aq_u c_4 (y + 20) ((6 * i) + j) e2_124)) _
          generalize hdc_5 : aq_u c_4 (y + 20) ((6 * i) + j) e2_124 = c_5
          have sc_5 := aq_smu sc_4 hdc_5 (mo_Sk (by decide) (by decide))
          have hobc_5 := mo_ku hob2_124 hdc_5 (Or.inl (by omega))
          have hffc_5 := ff_u hff2_124 hdc_5 (by omega) (by omega) hmn (by omega) (by omega)
          refine ae_iinc rfl rfl (am_ri (by omega) (by omega)) ?_
          show am_E _ (165, [vR y, vI n, vI t, vI v, vI p, vI mn, vI lt, vI i, vI (j + 1), vI v_q, vI e2_124, vI k2_124], [], aq_h m s F c_5) _
          refine am_E.go (t2 := (85, [vR y, vI n, vI t, vI v, vI p, vI mn, vI lt, vI i, vI (j + 1), vI v_q, vI e2_124, vI k2_124], [], aq_h m s F c_5)) rfl rfl ?_
          exact qg_free_j ⟨hm, hFo, hG5, hG6, hG7, hG8, hG9, hG10, hG11, hG12, hG13, hG14, hG15, hG16, hG17, hG18, hG19, hG20, hG21, hG22, hG23⟩ hI hn1 hn4 ht0 ht1 hp0 hp1 hP hmn0 hmn hl0 hl1 d i (j + 1) (vI v_q) (vI e2_124) (vI k2_124) c_5 sc_5 (by omega) (by omega) (by omega) (by omega) hobc_5 hffc_5 (by omega) K0
      · refine am_E.go (t2 := (112, [vR y, vI n, vI t, vI v, vI p, vI mn, vI lt, vI i, vI j, vI v_q, v10, v11], [vI 0], aq_h m s F c_q)) rfl rfl ?_
        refine am_E.go (t2 := (119, [vR y, vI n, vI t, vI v, vI p, vI mn, vI lt, vI i, vI j, vI v_q, v10, v11], [vI 0], aq_h m s F c_q)) rfl rfl ?_
        refine am_E.go (t2 := (121, [vR y, vI n, vI t, vI v, vI p, vI mn, vI lt, vI i, vI j, vI v_q, vI 0, v11], [], aq_h m s F c_q)) rfl rfl ?_
        refine am_E.go (t2 := (122, [vR y, vI n, vI t, vI v, vI p, vI mn, vI lt, vI i, vI j, vI v_q, vI 0, v11], [vI 0], aq_h m s F c_q)) rfl rfl ?_
        refine am_E.go (t2 := (124, [vR y, vI n, vI t, vI v, vI p, vI mn, vI lt, vI i, vI j, vI v_q, vI 0, vI 0], [], aq_h m s F c_q)) rfl rfl ?_
        refine qg_free_e ⟨hm, hFo, hG5, hG6, hG7, hG8, hG9, hG10, hG11, hG12, hG13, hG14, hG15, hG16, hG17, hG18, hG19, hG20, hG21, hG22, hG23⟩ hI hn1 hn4 ht0 ht1 hp0 hp1 hP hmn0 hmn hl0 hl1 6 i j v_q 0 0 c_q (aq_smt hs s_q) (by omega) (by omega) (by omega) (by omega) (by omega) (mo_kt hob k_q) (ff_c hff e_q) (by omega) ?_
        · intro e2_124 k2_124 c_6 sc_6 f1_124 f2_124 hob2_124 hff2_124
          refine am_E.go (t2 := (148, [vR y, vI n, vI t, vI v, vI p, vI mn, vI lt, vI i, vI j, vI v_q, vI e2_124, vI k2_124], [vR y], aq_h m s F c_6)) rfl rfl ?_
          refine aq_gf (v := vR (y + 20)) rfl (by omega) hFo (by decide) rfl ?_
          show am_E _ (151, [vR y, vI n, vI t, vI v, vI p, vI mn, vI lt, vI i, vI j, vI v_q, vI e2_124, vI k2_124], [vR (y + 20)], aq_h m s F c_6) _
          refine am_E.go (t2 := (153, [vR y, vI n, vI t, vI v, vI p, vI mn, vI lt, vI i, vI j, vI v_q, vI e2_124, vI k2_124], [vI 6, vR (y + 20)], aq_h m s F c_6)) rfl rfl ?_
          refine am_E.go (t2 := (155, [vR y, vI n, vI t, vI v, vI p, vI mn, vI lt, vI i, vI j, vI v_q, vI e2_124, vI k2_124], [vI i, vI 6, vR (y + 20)], aq_h m s F c_6)) rfl rfl ?_
          refine ae_mul rfl (am_ri (by omega) (by omega)) ?_
          show am_E _ (156, [vR y, vI n, vI t, vI v, vI p, vI mn, vI lt, vI i, vI j, vI v_q, vI e2_124, vI k2_124], [vI (6 * i), vR (y + 20)], aq_h m s F c_6) _
          refine am_E.go (t2 := (158, [vR y, vI n, vI t, vI v, vI p, vI mn, vI lt, vI i, vI j, vI v_q, vI e2_124, vI k2_124], [vI j, vI (6 * i), vR (y + 20)], aq_h m s F c_6)) rfl rfl ?_
          refine ae_add rfl (am_ri (by omega) (by omega)) ?_
          show am_E _ (159, [vR y, vI n, vI t, vI v, vI p, vI mn, vI lt, vI i, vI j, vI v_q, vI e2_124, vI k2_124], [vI ((6 * i) + j), vR (y + 20)], aq_h m s F c_6) _
          refine am_E.go (t2 := (161, [vR y, vI n, vI t, vI v, vI p, vI mn, vI lt, vI i, vI j, vI v_q, vI e2_124, vI k2_124], [vI e2_124, vI ((6 * i) + j), vR (y + 20)], aq_h m s F c_6)) rfl rfl ?_
          refine aq_as (kd := 0) rfl rfl (by omega) hG20 (by omega) (by omega) rfl rfl ?_
          show am_E _ (162, [vR y, vI n, vI t, vI v, vI p, vI mn, vI lt, vI i, vI j, vI v_q, vI e2_124, vI k2_124], [], aq_h m s F (aq_u c_6 (y + 20) ((6 * i) + j) e2_124)) _
          generalize hdc_7 : aq_u c_6 (y + 20) ((6 * i) + j) e2_124 = c_7
          have sc_7 := aq_smu sc_6 hdc_7 (mo_Sk (by decide) (by decide))
          have hobc_7 := mo_ku hob2_124 hdc_7 (Or.inl (by omega))
          have hffc_7 := ff_u hff2_124 hdc_7 (by omega) (by omega) hmn (by omega) (by omega)
          refine ae_iinc rfl rfl (am_ri (by omega) (by omega)) ?_
          show am_E _ (165, [vR y, vI n, vI t, vI v, vI p, vI mn, vI lt, vI i, vI (j + 1), vI v_q, vI e2_124, vI k2_124], [], aq_h m s F c_7) _
          refine am_E.go (t2 := (85, [vR y, vI n, vI t, vI v, vI p, vI mn, vI lt, vI i, vI (j + 1), vI v_q, vI e2_124, vI k2_124], [], aq_h m s F c_7)) rfl rfl ?_
          exact qg_free_j ⟨hm, hFo, hG5, hG6, hG7, hG8, hG9, hG10, hG11, hG12, hG13, hG14, hG15, hG16, hG17, hG18, hG19, hG20, hG21, hG22, hG23⟩ hI hn1 hn4 ht0 ht1 hp0 hp1 hP hmn0 hmn hl0 hl1 d i (j + 1) (vI v_q) (vI e2_124) (vI k2_124) c_7 sc_7 (by omega) (by omega) (by omega) (by omega) hobc_7 hffc_7 (by omega) K0

theorem qg_free_i {m s : Nat} {F : aq_F} {c0 : aq_C} {y : Nat} (hO : mo_0 m F y) (hI : mo_I y c0) {n t v p mn lt : Int} (hn1 : 1 ≤ n) (hn4 : n ≤ 4) (ht0 : 0 ≤ t) (ht1 : t ≤ n) (hp0 : 2 ≤ p) (hp1 : p ≤ 997) (hP : nm_P p) (hmn0 : 0 ≤ mn) (hmn : mn ≤ 6) (hl0 : 0 ≤ lt) (hl1 : lt < p) : ∀ (d : Nat) (i : Int) (v8 : am_V) (v9 : am_V) (v10 : am_V) (v11 : am_V) (c : aq_C) (hs : aq_sm (mo_S y) c0 c) (h0 : 0 ≤ i) (h1 : i ≤ mn) (hob : mo_k y c0 c) (hff : ff_ y p mn i 0 c) (hd : mn - i < (d : Int)), am_E ac_X5_free (75, [vR y, vI n, vI t, vI v, vI p, vI mn, vI lt, vI i, v8, v9, v10, v11], [], aq_h m s F c) (aq_Z m s F (fun a => a = y ∨ (y + 10 ≤ a ∧ a < y + 24)) c0 (fun r d => aq_vi r ∧ mo_I y d))
  | 0, i, v8, v9, v10, v11, c, hs, h0, h1, hob, hff, hd => by exfalso; omega
  | d + 1, i, v8, v9, v10, v11, c, hs, h0, h1, hob, hff, hd => by
    obtain ⟨hm, hFo, hG5, hG6, hG7, hG8, hG9, hG10, hG11, hG12, hG13, hG14, hG15, hG16, hG17, hG18, hG19, hG20, hG21, hG22, hG23⟩ := hO
    refine am_E.go (t2 := (77, [vR y, vI n, vI t, vI v, vI p, vI mn, vI lt, vI i, v8, v9, v10, v11], [vI i], aq_h m s F c)) rfl rfl ?_
    refine am_E.go (t2 := (79, [vR y, vI n, vI t, vI v, vI p, vI mn, vI lt, vI i, v8, v9, v10, v11], [vI mn, vI i], aq_h m s F c)) rfl rfl ?_
    refine ae_icmp rfl (fun (q_1 : mn ≤ i) => ?_) (fun (q_1 : i < mn) => ?_)
    · refine am_E.go (t2 := (175, [vR y, vI n, vI t, vI v, vI p, vI mn, vI lt, vI i, v8, v9, v10, v11], [vI 0], aq_h m s F c)) rfl rfl ?_
      refine am_E.go (t2 := (177, [vR y, vI n, vI t, vI v, vI p, vI mn, vI lt, vI 0, v8, v9, v10, v11], [], aq_h m s F c)) rfl rfl ?_
      refine am_E.go (t2 := (178, [vR y, vI n, vI t, vI v, vI p, vI mn, vI lt, vI 0, v8, v9, v10, v11], [vI 0], aq_h m s F c)) rfl rfl ?_
      refine am_E.go (t2 := (180, [vR y, vI n, vI t, vI v, vI p, vI mn, vI lt, vI 0, vI 0, v9, v10, v11], [], aq_h m s F c)) rfl rfl ?_
      exact qg_free_r ⟨hm, hFo, hG5, hG6, hG7, hG8, hG9, hG10, hG11, hG12, hG13, hG14, hG15, hG16, hG17, hG18, hG19, hG20, hG21, hG22, hG23⟩ hI hn1 hn4 ht0 ht1 hp0 hp1 hP hmn0 hmn hl0 hl1 8 0 0 (v9) (v10) (v11) c hs (by omega) (by omega) (by omega) (by omega) hob (fun a b a1 a2 a3 a4 => hff a b a1 a3 a4 (by omega)) (by omega)
    · refine am_E.go (t2 := (83, [vR y, vI n, vI t, vI v, vI p, vI mn, vI lt, vI i, v8, v9, v10, v11], [vI 0], aq_h m s F c)) rfl rfl ?_
      refine am_E.go (t2 := (85, [vR y, vI n, vI t, vI v, vI p, vI mn, vI lt, vI i, vI 0, v9, v10, v11], [], aq_h m s F c)) rfl rfl ?_
      refine qg_free_j ⟨hm, hFo, hG5, hG6, hG7, hG8, hG9, hG10, hG11, hG12, hG13, hG14, hG15, hG16, hG17, hG18, hG19, hG20, hG21, hG22, hG23⟩ hI hn1 hn4 ht0 ht1 hp0 hp1 hP hmn0 hmn hl0 hl1 8 i 0 (v9) (v10) (v11) c hs (by omega) (by omega) (by omega) (by omega) hob hff (by omega) ?_
      · intro j2_85 v92_85 v102_85 v112_85 c_2 sc_2 hob2_85 hff2_85
        refine ae_iinc rfl rfl (am_ri (by omega) (by omega)) ?_
        show am_E _ (171, [vR y, vI n, vI t, vI v, vI p, vI mn, vI lt, vI (i + 1), vI j2_85, v92_85, v102_85, v112_85], [], aq_h m s F c_2) _
        refine am_E.go (t2 := (75, [vR y, vI n, vI t, vI v, vI p, vI mn, vI lt, vI (i + 1), vI j2_85, v92_85, v102_85, v112_85], [], aq_h m s F c_2)) rfl rfl ?_
        exact qg_free_i ⟨hm, hFo, hG5, hG6, hG7, hG8, hG9, hG10, hG11, hG12, hG13, hG14, hG15, hG16, hG17, hG18, hG19, hG20, hG21, hG22, hG23⟩ hI hn1 hn4 ht0 ht1 hp0 hp1 hP hmn0 hmn hl0 hl1 d (i + 1) (vI j2_85) (v92_85) (v102_85) (v112_85) c_2 sc_2 (by omega) (by omega) hob2_85 hff2_85 (by omega)

theorem qg_X5_free {m s : Nat} {F : aq_F} {c : aq_C} {y : Nat} (hC : mo_C m F y) (hI : mo_I y c) {n t v p : Int} : am_E ac_X5_free (0, [vR y, vI n, vI t, vI v, vI p, vU, vU, vU, vU, vU, vU, vU], [], aq_h m s F c) (aq_Z m s F (fun a => a = y ∨ (y + 10 ≤ a ∧ a < y + 24)) c (fun r d => aq_vi r ∧ mo_I y d)) := by
  obtain ⟨⟨hm, hFo, hG5, hG6, hG7, hG8, hG9, hG10, hG11, hG12, hG13, hG14, hG15, hG16, hG17, hG18, hG19, hG20, hG21, hG22, hG23⟩, ⟨tbl, hT1, hTt⟩, ⟨tA, tB, tD, hL1, hL2, hL3, hLt⟩⟩ := hC
  refine am_E.go (t2 := (1, [vR y, vI n, vI t, vI v, vI p, vU, vU, vU, vU, vU, vU, vU], [vI n], aq_h m s F c)) rfl rfl ?_
  refine am_E.go (t2 := (2, [vR y, vI n, vI t, vI v, vI p, vU, vU, vU, vU, vU, vU, vU], [vI t, vI n], aq_h m s F c)) rfl rfl ?_
  refine am_E.call rfl rfl rfl (Nat.le_of_ble_eq_true rfl) (qm_areHalves) ?_
  rintro r5 h5 ⟨rfl, v_1, rfl, hv_1⟩
  show am_E _ (5, [vR y, vI n, vI t, vI v, vI p, vU, vU, vU, vU, vU, vU, vU], [vI v_1], aq_h m s F c) _
  refine ae_if0 rfl (fun (q_2 : v_1 = 0) => ?_) (fun (q_2 : v_1 ≠ 0) => ?_)
  · refine am_E.go (t2 := (46, [vR y, vI n, vI t, vI v, vI p, vU, vU, vU, vU, vU, vU, vU], [vI (-1)], aq_h m s F c)) rfl rfl ?_
    refine am_E.ret rfl rfl ?_
    exact ⟨_, rfl, aq_smi (aq_sm0 (c := c) (S := mo_S y)) (fun a h => mo_Sb h), ⟨_, rfl⟩, mo_Ik hI (aq_sm0 (c := c) (S := mo_S y)) (mo_k0 (y := y) (c := c))⟩
  · refine am_E.go (t2 := (9, [vR y, vI n, vI t, vI v, vI p, vU, vU, vU, vU, vU, vU, vU], [vI v], aq_h m s F c)) rfl rfl ?_
    refine am_E.go (t2 := (10, [vR y, vI n, vI t, vI v, vI p, vU, vU, vU, vU, vU, vU, vU], [vL v], aq_h m s F c)) rfl rfl ?_
    refine am_E.go (t2 := (13, [vR y, vI n, vI t, vI v, vI p, vU, vU, vU, vU, vU, vU, vU], [vL (-1000), vL v], aq_h m s F c)) rfl rfl ?_
    refine am_E.go (t2 := (16, [vR y, vI n, vI t, vI v, vI p, vU, vU, vU, vU, vU, vU, vU], [vL 1000, vL (-1000), vL v], aq_h m s F c)) rfl rfl ?_
    refine am_E.call rfl rfl rfl (Nat.le_of_ble_eq_true rfl) (qm_in) ?_
    rintro r5 h5 ⟨rfl, v_3, rfl, hv_3⟩
    show am_E _ (19, [vR y, vI n, vI t, vI v, vI p, vU, vU, vU, vU, vU, vU, vU], [vI v_3], aq_h m s F c) _
    refine ae_if0 rfl (fun (q_4 : v_3 = 0) => ?_) (fun (q_4 : v_3 ≠ 0) => ?_)
    · refine am_E.go (t2 := (46, [vR y, vI n, vI t, vI v, vI p, vU, vU, vU, vU, vU, vU, vU], [vI (-1)], aq_h m s F c)) rfl rfl ?_
      refine am_E.ret rfl rfl ?_
      exact ⟨_, rfl, aq_smi (aq_sm0 (c := c) (S := mo_S y)) (fun a h => mo_Sb h), ⟨_, rfl⟩, mo_Ik hI (aq_sm0 (c := c) (S := mo_S y)) (mo_k0 (y := y) (c := c))⟩
    · refine am_E.go (t2 := (24, [vR y, vI n, vI t, vI v, vI p, vU, vU, vU, vU, vU, vU, vU], [vI p], aq_h m s F c)) rfl rfl ?_
      refine am_E.go (t2 := (25, [vR y, vI n, vI t, vI v, vI p, vU, vU, vU, vU, vU, vU, vU], [vL p], aq_h m s F c)) rfl rfl ?_
      refine am_E.go (t2 := (28, [vR y, vI n, vI t, vI v, vI p, vU, vU, vU, vU, vU, vU, vU], [vL 2, vL p], aq_h m s F c)) rfl rfl ?_
      refine am_E.go (t2 := (31, [vR y, vI n, vI t, vI v, vI p, vU, vU, vU, vU, vU, vU, vU], [vL 997, vL 2, vL p], aq_h m s F c)) rfl rfl ?_
      refine am_E.call rfl rfl rfl (Nat.le_of_ble_eq_true rfl) (qm_in) ?_
      rintro r5 h5 ⟨rfl, v_5, rfl, hv_5⟩
      show am_E _ (34, [vR y, vI n, vI t, vI v, vI p, vU, vU, vU, vU, vU, vU, vU], [vI v_5], aq_h m s F c) _
      refine ae_if0 rfl (fun (q_6 : v_5 = 0) => ?_) (fun (q_6 : v_5 ≠ 0) => ?_)
      · refine am_E.go (t2 := (46, [vR y, vI n, vI t, vI v, vI p, vU, vU, vU, vU, vU, vU, vU], [vI (-1)], aq_h m s F c)) rfl rfl ?_
        refine am_E.ret rfl rfl ?_
        exact ⟨_, rfl, aq_smi (aq_sm0 (c := c) (S := mo_S y)) (fun a h => mo_Sb h), ⟨_, rfl⟩, mo_Ik hI (aq_sm0 (c := c) (S := mo_S y)) (mo_k0 (y := y) (c := c))⟩
      · refine am_E.go (t2 := (39, [vR y, vI n, vI t, vI v, vI p, vU, vU, vU, vU, vU, vU, vU], [vI p], aq_h m s F c)) rfl rfl ?_
        refine am_E.call rfl rfl rfl (Nat.le_of_ble_eq_true rfl) (qm_isPrime (by omega) (by omega)) ?_
        rintro r5 h5 ⟨rfl, v_p, rfl, hv_p⟩
        show am_E _ (42, [vR y, vI n, vI t, vI v, vI p, vU, vU, vU, vU, vU, vU, vU], [vI v_p], aq_h m s F c) _
        refine ae_if0 rfl (fun (q_7 : v_p ≠ 0) => ?_) (fun (q_7 : v_p = 0) => ?_)
        · refine am_E.go (t2 := (48, [vR y, vI n, vI t, vI v, vI p, vU, vU, vU, vU, vU, vU, vU], [vR y], aq_h m s F c)) rfl rfl ?_
          refine am_E.go (t2 := (49, [vR y, vI n, vI t, vI v, vI p, vU, vU, vU, vU, vU, vU, vU], [vI n, vR y], aq_h m s F c)) rfl rfl ?_
          refine am_E.go (t2 := (50, [vR y, vI n, vI t, vI v, vI p, vU, vU, vU, vU, vU, vU, vU], [vI t, vI n, vR y], aq_h m s F c)) rfl rfl ?_
          refine am_E.go (t2 := (51, [vR y, vI n, vI t, vI v, vI p, vU, vU, vU, vU, vU, vU, vU], [vI (-1), vI t, vI n, vR y], aq_h m s F c)) rfl rfl ?_
          refine am_E.go (t2 := (52, [vR y, vI n, vI t, vI v, vI p, vU, vU, vU, vU, vU, vU, vU], [vR y, vI (-1), vI t, vI n, vR y], aq_h m s F c)) rfl rfl ?_
          refine aq_gf (v := vR (y + 18)) rfl (by omega) hFo (by decide) rfl ?_
          show am_E _ (55, [vR y, vI n, vI t, vI v, vI p, vU, vU, vU, vU, vU, vU, vU], [vR (y + 18), vI (-1), vI t, vI n, vR y], aq_h m s F c) _
          refine aq_callv (y := 5) (as2 := [vI n, vI t, vI (-1), vR (y + 18)]) (rest := []) rfl rfl (by decide) (Nat.le_of_ble_eq_true rfl) rfl rfl (Nat.le_of_ble_eq_true rfl) (by omega) hFo rfl (Nat.le_of_ble_eq_true rfl) (qm_lay (y := y) (a := y + 18) (by omega) hFo (by omega) hG18 (n := n) (t := t) (by omega) (by omega) (by omega) (by omega) (Or.inl rfl)) ?_
          rintro r5 h5 ⟨c_8, rfl, sc_8, vc_8, rfl, hmc_8, hdc_8⟩
          show am_E _ (58, [vR y, vI n, vI t, vI v, vI p, vU, vU, vU, vU, vU, vU, vU], [vI vc_8], aq_h m s F c_8) _
          have hm5 := hmc_8 rfl
          have hNb := hv_Nb n t
          have hPp : nm_P p := by rcases hv_p with h | h; exact absurd h (by omega); exact h.2
          refine am_E.go (t2 := (60, [vR y, vI n, vI t, vI v, vI p, vI vc_8, vU, vU, vU, vU, vU, vU], [], aq_h m s F c_8)) rfl rfl ?_
          refine am_E.go (t2 := (61, [vR y, vI n, vI t, vI v, vI p, vI vc_8, vU, vU, vU, vU, vU, vU], [vI v], aq_h m s F c_8)) rfl rfl ?_
          refine am_E.go (t2 := (63, [vR y, vI n, vI t, vI v, vI p, vI vc_8, vU, vU, vU, vU, vU, vU], [vI p, vI v], aq_h m s F c_8)) rfl rfl ?_
          have e_tm := nm_tm (v := v) (p := p) (by omega)
          refine ae_bin (z := v.tmod p) rfl rfl (am_rem_s (by omega)) ?_
          generalize v.tmod p = vt at e_tm ⊢
          refine am_E.go (t2 := (66, [vR y, vI n, vI t, vI v, vI p, vI vc_8, vU, vU, vU, vU, vU, vU], [vI p, vI vt], aq_h m s F c_8)) rfl rfl ?_
          refine ae_add rfl (am_ri (by omega) (by omega)) ?_
          show am_E _ (67, [vR y, vI n, vI t, vI v, vI p, vI vc_8, vU, vU, vU, vU, vU, vU], [vI (vt + p)], aq_h m s F c_8) _
          refine am_E.go (t2 := (69, [vR y, vI n, vI t, vI v, vI p, vI vc_8, vU, vU, vU, vU, vU, vU], [vI p, vI (vt + p)], aq_h m s F c_8)) rfl rfl ?_
          have eu_9 := nm_em (a := (vt + p)) (p := p) (by omega)
          refine ae_bin (z := (vt + p) % p) rfl rfl (am_rem_e (by omega) (by omega)) ?_
          generalize (vt + p) % p = u_9 at eu_9 ⊢
          refine am_E.go (t2 := (72, [vR y, vI n, vI t, vI v, vI p, vI vc_8, vI u_9, vU, vU, vU, vU, vU], [], aq_h m s F c_8)) rfl rfl ?_
          refine am_E.go (t2 := (73, [vR y, vI n, vI t, vI v, vI p, vI vc_8, vI u_9, vU, vU, vU, vU, vU], [vI 0], aq_h m s F c_8)) rfl rfl ?_
          refine am_E.go (t2 := (75, [vR y, vI n, vI t, vI v, vI p, vI vc_8, vI u_9, vI 0, vU, vU, vU, vU], [], aq_h m s F c_8)) rfl rfl ?_
          exact qg_free_i ⟨hm, hFo, hG5, hG6, hG7, hG8, hG9, hG10, hG11, hG12, hG13, hG14, hG15, hG16, hG17, hG18, hG19, hG20, hG21, hG22, hG23⟩ hI (by omega) (by omega) (by omega) (by omega) (by omega) (by omega) hPp (by omega) (by omega) (by omega) (by omega) 8 0 (vU) (vU) (vU) (vU) c_8 (aq_smt (aq_sm0 (c := c) (S := mo_S y)) (aq_smi sc_8 (fun a h => by unfold mo_S; omega))) (by omega) (by omega) (mo_ks (mo_k0 (y := y) (c := c)) sc_8 (by omega)) (fun a b a1 a2 a3 a4 => absurd a4 (by omega)) (by omega)
        · refine am_E.go (t2 := (46, [vR y, vI n, vI t, vI v, vI p, vU, vU, vU, vU, vU, vU, vU], [vI (-1)], aq_h m s F c)) rfl rfl ?_
          refine am_E.ret rfl rfl ?_
          exact ⟨_, rfl, aq_smi (aq_sm0 (c := c) (S := mo_S y)) (fun a h => mo_Sb h), ⟨_, rfl⟩, mo_Ik hI (aq_sm0 (c := c) (S := mo_S y)) (mo_k0 (y := y) (c := c))⟩
