
theorem mo_Ix {y : Nat} {c d : aq_C} (hI : mo_I y c) (hs : aq_sm (fun a => a = y ∨ a = y + 10) c d) (hr : mo_r y d) : mo_I y d :=
  ⟨hr, fun s s0 s1 => mo_uc (hs _ (by omega) s) (hs _ (by omega) s) (fun k _ _ => hs _ (by omega) _) (fun k _ _ => hs _ (by omega) _) (hI.2 s s0 s1)⟩

theorem qm_X5_row {m s : Nat} {F : aq_F} {c : aq_C} {y : Nat} (hC : mo_C m F y) (hI : mo_I y c) {nn : Int} : am_E ac_X5_row (0, [vR y, vI nn], [], aq_h m s F c) (aq_Z m s F (fun a => y ≤ a ∧ a < y + 24) c (fun r d => mo_I y d ∧ ((2 ≤ nn ∧ nn ≤ 4 ∧ r = some (vI 0) ∧ d y 9 = nn ∧ d y 10 = 0) ∨ (¬ (2 ≤ nn ∧ nn ≤ 4) ∧ r = some (vI (-1)) ∧ d = c)))) := by
  obtain ⟨⟨hm, hFo, hG5, hG6, hG7, hG8, hG9, hG10, hG11, hG12, hG13, hG14, hG15, hG16, hG17, hG18, hG19, hG20, hG21, hG22, hG23⟩, ⟨tbl, hT1, hTt⟩, ⟨tA, tB, tD, hL1, hL2, hL3, hLt⟩⟩ := hC
  obtain ⟨⟨hr0, hr1, hr2, hr3, hr4⟩, hIu⟩ := id hI
  refine am_E.go (t2 := (1, [vR y, vI nn], [vI nn], aq_h m s F c)) rfl rfl ?_
  refine am_E.go (t2 := (2, [vR y, vI nn], [vL nn], aq_h m s F c)) rfl rfl ?_
  refine am_E.go (t2 := (5, [vR y, vI nn], [vL 2, vL nn], aq_h m s F c)) rfl rfl ?_
  refine am_E.go (t2 := (8, [vR y, vI nn], [vL 4, vL 2, vL nn], aq_h m s F c)) rfl rfl ?_
  refine am_E.call rfl rfl rfl (Nat.le_of_ble_eq_true rfl) (qm_in) ?_
  rintro r5 h5 ⟨rfl, v_1, rfl, hv_1⟩
  show am_E _ (11, [vR y, vI nn], [vI v_1], aq_h m s F c) _
  refine ae_if0 rfl (fun (q_2 : v_1 ≠ 0) => ?_) (fun (q_2 : v_1 = 0) => ?_)
  · refine am_E.go (t2 := (17, [vR y, vI nn], [vR y], aq_h m s F c)) rfl rfl ?_
    refine am_E.go (t2 := (18, [vR y, vI nn], [vI nn, vR y], aq_h m s F c)) rfl rfl ?_
    refine aq_pf rfl (by omega) hFo (by decide) rfl rfl ?_
    show am_E _ (21, [vR y, vI nn], [], aq_h m s F (aq_u c y 9 nn)) _
    generalize hdc_3 : aq_u c y 9 nn = c_3
    have sc_3 := aq_smu (aq_sm0 (c := c) (S := fun a => a = y ∨ a = y + 10)) hdc_3 (Or.inl rfl)
    refine am_E.go (t2 := (22, [vR y, vI nn], [vR y], aq_h m s F c_3)) rfl rfl ?_
    refine am_E.go (t2 := (23, [vR y, vI nn], [vI 0, vR y], aq_h m s F c_3)) rfl rfl ?_
    refine aq_pf rfl (by omega) hFo (by decide) rfl rfl ?_
    show am_E _ (26, [vR y, vI nn], [], aq_h m s F (aq_u c_3 y 10 0)) _
    generalize hdc_4 : aq_u c_3 y 10 0 = c_4
    have sc_4 := aq_smu sc_3 hdc_4 (Or.inl rfl)
    refine am_E.go (t2 := (27, [vR y, vI nn], [vI 0], aq_h m s F c_4)) rfl rfl ?_
    refine am_E.ret rfl rfl ?_
    have g9 : c_4 y 9 = nn := by rw [← hdc_4, aq_un (Or.inr (by omega)), ← hdc_3, aq_us]
    have g10 : c_4 y 10 = 0 := by rw [← hdc_4, aq_us]
    exact ⟨_, rfl, aq_smi sc_4 (fun a h => by omega), mo_Ix hI sc_4 ⟨by omega, by omega, by omega, by omega, fun i h5 h6 => absurd h6 (by omega)⟩, Or.inl ⟨by omega, by omega, rfl, g9, g10⟩⟩
  · refine am_E.go (t2 := (15, [vR y, vI nn], [vI (-1)], aq_h m s F c)) rfl rfl ?_
    refine am_E.ret rfl rfl ?_
    exact ⟨_, rfl, aq_sm0, hI, Or.inr ⟨by omega, rfl, rfl⟩⟩

theorem qm_X5_cross {m s : Nat} {F : aq_F} {c : aq_C} {y : Nat} (hC : mo_C m F y) (hI : mo_I y c) {l : Int} (hl0 : -2147483648 ≤ l) (hl1 : l < 2147483648) : am_E ac_X5_cross (0, [vR y, vI l, vU], [], aq_h m s F c) (aq_Z m s F (fun a => y ≤ a ∧ a < y + 24) c (fun r d => mo_I y d ∧ ((¬ (l ≠ 0 ∧ -(c y 9) < l ∧ l < c y 9) ∧ r = some (vI (-1)) ∧ d = c) ∨ ((l ≠ 0 ∧ -(c y 9) < l ∧ l < c y 9) ∧ 8 ≤ c y 10 ∧ r = some (vI (-3)) ∧ d = c) ∨ ((l ≠ 0 ∧ -(c y 9) < l ∧ l < c y 9) ∧ c y 10 < 8 ∧ r = some (vI (c y 10 + 1)) ∧ d y 9 = c y 9 ∧ d y 10 = c y 10 + 1)))) := by
  obtain ⟨⟨hm, hFo, hG5, hG6, hG7, hG8, hG9, hG10, hG11, hG12, hG13, hG14, hG15, hG16, hG17, hG18, hG19, hG20, hG21, hG22, hG23⟩, ⟨tbl, hT1, hTt⟩, ⟨tA, tB, tD, hL1, hL2, hL3, hLt⟩⟩ := hC
  obtain ⟨⟨hr0, hr1, hr2, hr3, hr4⟩, hIu⟩ := id hI
  refine am_E.go (t2 := (1, [vR y, vI l, vU], [vI l], aq_h m s F c)) rfl rfl ?_
  refine ae_if0 rfl (fun (q_1 : 0 ≤ l) => ?_) (fun (q_1 : l < 0) => ?_)
  · refine am_E.go (t2 := (10, [vR y, vI l, vU], [vI l], aq_h m s F c)) rfl rfl ?_
    refine am_E.go (t2 := (11, [vR y, vI l, vI l], [], aq_h m s F c)) rfl rfl ?_
    refine am_E.go (t2 := (12, [vR y, vI l, vI l], [vI l], aq_h m s F c)) rfl rfl ?_
    refine am_E.go (t2 := (13, [vR y, vI l, vI l], [vL l], aq_h m s F c)) rfl rfl ?_
    refine am_E.go (t2 := (14, [vR y, vI l, vI l], [vL 1, vL l], aq_h m s F c)) rfl rfl ?_
    refine am_E.go (t2 := (15, [vR y, vI l, vI l], [vR y, vL 1, vL l], aq_h m s F c)) rfl rfl ?_
    refine aq_gf (v := vI (c y 9)) rfl (by omega) hFo (by decide) rfl ?_
    show am_E _ (18, [vR y, vI l, vI l], [vI (c y 9), vL 1, vL l], aq_h m s F c) _
    skip
    refine am_E.go (t2 := (19, [vR y, vI l, vI l], [vI 1, vI (c y 9), vL 1, vL l], aq_h m s F c)) rfl rfl ?_
    refine ae_sub rfl (am_ri (by omega) (by omega)) ?_
    show am_E _ (20, [vR y, vI l, vI l], [vI ((c y 9) - 1), vL 1, vL l], aq_h m s F c) _
    refine am_E.go (t2 := (21, [vR y, vI l, vI l], [vL ((c y 9) - 1), vL 1, vL l], aq_h m s F c)) rfl rfl ?_
    refine am_E.call rfl rfl rfl (Nat.le_of_ble_eq_true rfl) (qm_in) ?_
    rintro r5 h5 ⟨rfl, v_3, rfl, hv_3⟩
    show am_E _ (24, [vR y, vI l, vI l], [vI v_3], aq_h m s F c) _
    refine ae_if0 rfl (fun (q_4 : v_3 ≠ 0) => ?_) (fun (q_4 : v_3 = 0) => ?_)
    · refine am_E.go (t2 := (30, [vR y, vI l, vI l], [vR y], aq_h m s F c)) rfl rfl ?_
      refine aq_gf (v := vI (c y 10)) rfl (by omega) hFo (by decide) rfl ?_
      show am_E _ (33, [vR y, vI l, vI l], [vI (c y 10)], aq_h m s F c) _
      skip
      refine am_E.go (t2 := (35, [vR y, vI l, vI l], [vI 8, vI (c y 10)], aq_h m s F c)) rfl rfl ?_
      refine ae_icmp rfl (fun (q_6 : (c y 10) ≠ 8) => ?_) (fun (q_6 : (c y 10) = 8) => ?_)
      · refine am_E.go (t2 := (42, [vR y, vI l, vI l], [vR y], aq_h m s F c)) rfl rfl ?_
        refine aq_gf (v := vR (y + 10)) rfl (by omega) hFo (by decide) rfl ?_
        show am_E _ (45, [vR y, vI l, vI l], [vR (y + 10)], aq_h m s F c) _
        refine am_E.go (t2 := (46, [vR y, vI l, vI l], [vR y, vR (y + 10)], aq_h m s F c)) rfl rfl ?_
        refine aq_gf (v := vI (c y 10)) rfl (by omega) hFo (by decide) rfl ?_
        show am_E _ (49, [vR y, vI l, vI l], [vI (c y 10), vR (y + 10)], aq_h m s F c) _
        skip
        refine am_E.go (t2 := (50, [vR y, vI l, vI l], [vI l, vI (c y 10), vR (y + 10)], aq_h m s F c)) rfl rfl ?_
        refine aq_as (kd := 0) rfl rfl (by omega) hG10 (by omega) (by omega) rfl rfl ?_
        show am_E _ (51, [vR y, vI l, vI l], [], aq_h m s F (aq_u c (y + 10) (c y 10) l)) _
        generalize hdc_8 : aq_u c (y + 10) (c y 10) l = c_8
        have sc_8 := aq_smu (aq_sm0 (c := c) (S := fun a => a = y ∨ a = y + 10)) hdc_8 (Or.inr rfl)
        refine am_E.go (t2 := (52, [vR y, vI l, vI l], [vR y], aq_h m s F c_8)) rfl rfl ?_
        refine am_E.go (t2 := (53, [vR y, vI l, vI l], [vR y, vR y], aq_h m s F c_8)) rfl rfl ?_
        refine aq_gf (v := vI (c_8 y 10)) rfl (by omega) hFo (by decide) rfl ?_
        show am_E _ (56, [vR y, vI l, vI l], [vI (c_8 y 10), vR y], aq_h m s F c_8) _
        have f_9 : c_8 y 10 = c y 10 := by rw [← hdc_8, aq_un (Or.inl (by omega))]
        refine am_E.go (t2 := (57, [vR y, vI l, vI l], [vI 1, vI (c_8 y 10), vR y], aq_h m s F c_8)) rfl rfl ?_
        refine ae_add rfl (am_ri (by omega) (by omega)) ?_
        show am_E _ (58, [vR y, vI l, vI l], [vI ((c_8 y 10) + 1), vR y], aq_h m s F c_8) _
        refine aq_pf rfl (by omega) hFo (by decide) rfl rfl ?_
        show am_E _ (61, [vR y, vI l, vI l], [], aq_h m s F (aq_u c_8 y 10 ((c_8 y 10) + 1))) _
        generalize hdc_10 : aq_u c_8 y 10 ((c_8 y 10) + 1) = c_10
        have sc_10 := aq_smu sc_8 hdc_10 (Or.inl rfl)
        refine am_E.go (t2 := (62, [vR y, vI l, vI l], [vR y], aq_h m s F c_10)) rfl rfl ?_
        refine aq_gf (v := vI (c_10 y 10)) rfl (by omega) hFo (by decide) rfl ?_
        show am_E _ (65, [vR y, vI l, vI l], [vI (c_10 y 10)], aq_h m s F c_10) _
        skip
        refine am_E.ret rfl rfl ?_
        have g9 : c_10 y 9 = c y 9 := by rw [← hdc_10, aq_un (Or.inr (by omega)), ← hdc_8, aq_un (Or.inl (by omega))]
        have g10 : c_10 y 10 = c y 10 + 1 := by rw [← hdc_10, aq_us, ← hdc_8, aq_un (Or.inl (by omega))]
        refine ⟨_, rfl, aq_smi sc_10 (fun a h => by omega), mo_Ix hI sc_10 ⟨by omega, by omega, by omega, by omega, fun i h5 h6 => ?_⟩, Or.inr (Or.inr ⟨by omega, by omega, by rw [g10], g9, g10⟩)⟩
        rw [← hdc_10, aq_un (Or.inl (by omega)), aq_un (Or.inr (by omega)), ← hdc_8, aq_un (Or.inl (by omega)) (a := y + 10) (b := y)]
        by_cases e : i = c y 10
        · rw [e, aq_us]
          omega
        · rw [aq_un (Or.inr e)]
          exact hr4 i h5 (by omega)
      · refine am_E.go (t2 := (40, [vR y, vI l, vI l], [vI (-3)], aq_h m s F c)) rfl rfl ?_
        refine am_E.ret rfl rfl ?_
        exact ⟨_, rfl, aq_sm0, hI, Or.inr (Or.inl ⟨by omega, by omega, rfl, rfl⟩)⟩
    · refine am_E.go (t2 := (28, [vR y, vI l, vI l], [vI (-1)], aq_h m s F c)) rfl rfl ?_
      refine am_E.ret rfl rfl ?_
      exact ⟨_, rfl, aq_sm0, hI, Or.inl ⟨by omega, rfl, rfl⟩⟩
  · refine am_E.go (t2 := (5, [vR y, vI l, vU], [vI l], aq_h m s F c)) rfl rfl ?_
    have e_n : am_w (-l) = -l ∨ l = -2147483648 := by by_cases e : l = -2147483648; exact Or.inr e; exact Or.inl (am_w_id (am_ri (by omega) (by omega)))
    have e_m : l = -2147483648 → am_w (-l) = -2147483648 := by intro e; rw [e]; rfl
    refine am_E.go (t2 := (6, [vR y, vI l, vU], [vI (am_w (-l))], aq_h m s F c)) rfl rfl ?_
    refine am_E.go (t2 := (10, [vR y, vI l, vU], [vI (am_w (-l))], aq_h m s F c)) rfl rfl ?_
    refine am_E.go (t2 := (11, [vR y, vI l, vI (am_w (-l))], [], aq_h m s F c)) rfl rfl ?_
    refine am_E.go (t2 := (12, [vR y, vI l, vI (am_w (-l))], [vI (am_w (-l))], aq_h m s F c)) rfl rfl ?_
    refine am_E.go (t2 := (13, [vR y, vI l, vI (am_w (-l))], [vL (am_w (-l))], aq_h m s F c)) rfl rfl ?_
    refine am_E.go (t2 := (14, [vR y, vI l, vI (am_w (-l))], [vL 1, vL (am_w (-l))], aq_h m s F c)) rfl rfl ?_
    refine am_E.go (t2 := (15, [vR y, vI l, vI (am_w (-l))], [vR y, vL 1, vL (am_w (-l))], aq_h m s F c)) rfl rfl ?_
    refine aq_gf (v := vI (c y 9)) rfl (by omega) hFo (by decide) rfl ?_
    show am_E _ (18, [vR y, vI l, vI (am_w (-l))], [vI (c y 9), vL 1, vL (am_w (-l))], aq_h m s F c) _
    skip
    refine am_E.go (t2 := (19, [vR y, vI l, vI (am_w (-l))], [vI 1, vI (c y 9), vL 1, vL (am_w (-l))], aq_h m s F c)) rfl rfl ?_
    refine ae_sub rfl (am_ri (by omega) (by omega)) ?_
    show am_E _ (20, [vR y, vI l, vI (am_w (-l))], [vI ((c y 9) - 1), vL 1, vL (am_w (-l))], aq_h m s F c) _
    refine am_E.go (t2 := (21, [vR y, vI l, vI (am_w (-l))], [vL ((c y 9) - 1), vL 1, vL (am_w (-l))], aq_h m s F c)) rfl rfl ?_
    refine am_E.call rfl rfl rfl (Nat.le_of_ble_eq_true rfl) (qm_in) ?_
    rintro r5 h5 ⟨rfl, v_13, rfl, hv_13⟩
    show am_E _ (24, [vR y, vI l, vI (am_w (-l))], [vI v_13], aq_h m s F c) _
    refine ae_if0 rfl (fun (q_14 : v_13 ≠ 0) => ?_) (fun (q_14 : v_13 = 0) => ?_)
    · refine am_E.go (t2 := (30, [vR y, vI l, vI (am_w (-l))], [vR y], aq_h m s F c)) rfl rfl ?_
      refine aq_gf (v := vI (c y 10)) rfl (by omega) hFo (by decide) rfl ?_
      show am_E _ (33, [vR y, vI l, vI (am_w (-l))], [vI (c y 10)], aq_h m s F c) _
      skip
      refine am_E.go (t2 := (35, [vR y, vI l, vI (am_w (-l))], [vI 8, vI (c y 10)], aq_h m s F c)) rfl rfl ?_
      refine ae_icmp rfl (fun (q_16 : (c y 10) ≠ 8) => ?_) (fun (q_16 : (c y 10) = 8) => ?_)
      · refine am_E.go (t2 := (42, [vR y, vI l, vI (am_w (-l))], [vR y], aq_h m s F c)) rfl rfl ?_
        refine aq_gf (v := vR (y + 10)) rfl (by omega) hFo (by decide) rfl ?_
        show am_E _ (45, [vR y, vI l, vI (am_w (-l))], [vR (y + 10)], aq_h m s F c) _
        refine am_E.go (t2 := (46, [vR y, vI l, vI (am_w (-l))], [vR y, vR (y + 10)], aq_h m s F c)) rfl rfl ?_
        refine aq_gf (v := vI (c y 10)) rfl (by omega) hFo (by decide) rfl ?_
        show am_E _ (49, [vR y, vI l, vI (am_w (-l))], [vI (c y 10), vR (y + 10)], aq_h m s F c) _
        skip
        refine am_E.go (t2 := (50, [vR y, vI l, vI (am_w (-l))], [vI l, vI (c y 10), vR (y + 10)], aq_h m s F c)) rfl rfl ?_
        refine aq_as (kd := 0) rfl rfl (by omega) hG10 (by omega) (by omega) rfl rfl ?_
        show am_E _ (51, [vR y, vI l, vI (am_w (-l))], [], aq_h m s F (aq_u c (y + 10) (c y 10) l)) _
        generalize hdc_18 : aq_u c (y + 10) (c y 10) l = c_18
        have sc_18 := aq_smu (aq_sm0 (c := c) (S := fun a => a = y ∨ a = y + 10)) hdc_18 (Or.inr rfl)
        refine am_E.go (t2 := (52, [vR y, vI l, vI (am_w (-l))], [vR y], aq_h m s F c_18)) rfl rfl ?_
        refine am_E.go (t2 := (53, [vR y, vI l, vI (am_w (-l))], [vR y, vR y], aq_h m s F c_18)) rfl rfl ?_
        refine aq_gf (v := vI (c_18 y 10)) rfl (by omega) hFo (by decide) rfl ?_
        show am_E _ (56, [vR y, vI l, vI (am_w (-l))], [vI (c_18 y 10), vR y], aq_h m s F c_18) _
        have f_19 : c_18 y 10 = c y 10 := by rw [← hdc_18, aq_un (Or.inl (by omega))]
        refine am_E.go (t2 := (57, [vR y, vI l, vI (am_w (-l))], [vI 1, vI (c_18 y 10), vR y], aq_h m s F c_18)) rfl rfl ?_
        refine ae_add rfl (am_ri (by omega) (by omega)) ?_
        show am_E _ (58, [vR y, vI l, vI (am_w (-l))], [vI ((c_18 y 10) + 1), vR y], aq_h m s F c_18) _
        refine aq_pf rfl (by omega) hFo (by decide) rfl rfl ?_
        show am_E _ (61, [vR y, vI l, vI (am_w (-l))], [], aq_h m s F (aq_u c_18 y 10 ((c_18 y 10) + 1))) _
        generalize hdc_20 : aq_u c_18 y 10 ((c_18 y 10) + 1) = c_20
        have sc_20 := aq_smu sc_18 hdc_20 (Or.inl rfl)
        refine am_E.go (t2 := (62, [vR y, vI l, vI (am_w (-l))], [vR y], aq_h m s F c_20)) rfl rfl ?_
        refine aq_gf (v := vI (c_20 y 10)) rfl (by omega) hFo (by decide) rfl ?_
        show am_E _ (65, [vR y, vI l, vI (am_w (-l))], [vI (c_20 y 10)], aq_h m s F c_20) _
        skip
        refine am_E.ret rfl rfl ?_
        have g9 : c_20 y 9 = c y 9 := by rw [← hdc_20, aq_un (Or.inr (by omega)), ← hdc_18, aq_un (Or.inl (by omega))]
        have g10 : c_20 y 10 = c y 10 + 1 := by rw [← hdc_20, aq_us, ← hdc_18, aq_un (Or.inl (by omega))]
        refine ⟨_, rfl, aq_smi sc_20 (fun a h => by omega), mo_Ix hI sc_20 ⟨by omega, by omega, by omega, by omega, fun i h5 h6 => ?_⟩, Or.inr (Or.inr ⟨by omega, by omega, by rw [g10], g9, g10⟩)⟩
        rw [← hdc_20, aq_un (Or.inl (by omega)), aq_un (Or.inr (by omega)), ← hdc_18, aq_un (Or.inl (by omega)) (a := y + 10) (b := y)]
        by_cases e : i = c y 10
        · rw [e, aq_us]
          omega
        · rw [aq_un (Or.inr e)]
          exact hr4 i h5 (by omega)
      · refine am_E.go (t2 := (40, [vR y, vI l, vI (am_w (-l))], [vI (-3)], aq_h m s F c)) rfl rfl ?_
        refine am_E.ret rfl rfl ?_
        exact ⟨_, rfl, aq_sm0, hI, Or.inr (Or.inl ⟨by omega, by omega, rfl, rfl⟩)⟩
    · refine am_E.go (t2 := (28, [vR y, vI l, vI (am_w (-l))], [vI (-1)], aq_h m s F c)) rfl rfl ?_
      refine am_E.ret rfl rfl ?_
      exact ⟨_, rfl, aq_sm0, hI, Or.inl ⟨by omega, rfl, rfl⟩⟩

theorem qm_X5_back {m s : Nat} {F : aq_F} {c : aq_C} {y : Nat} (hC : mo_C m F y) (hI : mo_I y c) : am_E ac_X5_back (0, [vR y], [], aq_h m s F c) (aq_Z m s F (fun a => y ≤ a ∧ a < y + 24) c (fun r d => mo_I y d ∧ ((c y 10 ≤ 0 ∧ r = some (vI (-2)) ∧ d = c) ∨ (0 < c y 10 ∧ r = some (vI (c y 10 - 1)) ∧ d y 9 = c y 9 ∧ d y 10 = c y 10 - 1)))) := by
  obtain ⟨⟨hm, hFo, hG5, hG6, hG7, hG8, hG9, hG10, hG11, hG12, hG13, hG14, hG15, hG16, hG17, hG18, hG19, hG20, hG21, hG22, hG23⟩, ⟨tbl, hT1, hTt⟩, ⟨tA, tB, tD, hL1, hL2, hL3, hLt⟩⟩ := hC
  obtain ⟨⟨hr0, hr1, hr2, hr3, hr4⟩, hIu⟩ := id hI
  refine am_E.go (t2 := (1, [vR y], [vR y], aq_h m s F c)) rfl rfl ?_
  refine aq_gf (v := vI (c y 10)) rfl (by omega) hFo (by decide) rfl ?_
  show am_E _ (4, [vR y], [vI (c y 10)], aq_h m s F c) _
  skip
  refine ae_if0 rfl (fun (q_2 : (c y 10) ≠ 0) => ?_) (fun (q_2 : (c y 10) = 0) => ?_)
  · refine am_E.go (t2 := (11, [vR y], [vR y], aq_h m s F c)) rfl rfl ?_
    refine am_E.go (t2 := (12, [vR y], [vR y, vR y], aq_h m s F c)) rfl rfl ?_
    refine aq_gf (v := vI (c y 10)) rfl (by omega) hFo (by decide) rfl ?_
    show am_E _ (15, [vR y], [vI (c y 10), vR y], aq_h m s F c) _
    skip
    refine am_E.go (t2 := (16, [vR y], [vI 1, vI (c y 10), vR y], aq_h m s F c)) rfl rfl ?_
    refine ae_sub rfl (am_ri (by omega) (by omega)) ?_
    show am_E _ (17, [vR y], [vI ((c y 10) - 1), vR y], aq_h m s F c) _
    refine aq_pf rfl (by omega) hFo (by decide) rfl rfl ?_
    show am_E _ (20, [vR y], [], aq_h m s F (aq_u c y 10 ((c y 10) - 1))) _
    generalize hdc_4 : aq_u c y 10 ((c y 10) - 1) = c_4
    have sc_4 := aq_smu (aq_sm0 (c := c) (S := fun a => a = y ∨ a = y + 10)) hdc_4 (Or.inl rfl)
    refine am_E.go (t2 := (21, [vR y], [vR y], aq_h m s F c_4)) rfl rfl ?_
    refine aq_gf (v := vI (c_4 y 10)) rfl (by omega) hFo (by decide) rfl ?_
    show am_E _ (24, [vR y], [vI (c_4 y 10)], aq_h m s F c_4) _
    skip
    refine am_E.ret rfl rfl ?_
    have g9 : c_4 y 9 = c y 9 := by rw [← hdc_4, aq_un (Or.inr (by omega))]
    have g10 : c_4 y 10 = c y 10 - 1 := by rw [← hdc_4, aq_us]
    refine ⟨_, rfl, aq_smi sc_4 (fun a h => by omega), mo_Ix hI sc_4 ⟨by omega, by omega, by omega, by omega, fun i h5 h6 => ?_⟩, Or.inr ⟨by omega, by rw [g10], g9, g10⟩⟩
    rw [g9, ← hdc_4, aq_un (Or.inl (by omega))]
    exact hr4 i h5 (by omega)
  · refine am_E.go (t2 := (9, [vR y], [vI (-2)], aq_h m s F c)) rfl rfl ?_
    refine am_E.ret rfl rfl ?_
    exact ⟨_, rfl, aq_sm0, hI, Or.inl ⟨by omega, rfl, rfl⟩⟩

theorem qm_addState_5 {m s : Nat} {F : aq_F} {c0 : aq_C} {y : Nat} (hO : mo_0 m F y) {tbl : Int → Int} (hT : mo_T F y tbl) (hr : mo_r y c0) {bits n : Int} : ∀ (d : Nat) (b : Int) (mn : Int) (pw : Int) (k : Int) (v7 : am_V) (v8 : am_V) (v9 : am_V) (c : aq_C) (hs : aq_sm (mo_S y) c0 c) (h0 : 0 ≤ k) (h1 : k ≤ 201) (hob : mo_k y c0 c) (hd : 201 - k < (d : Int)), am_E ac_X5_addState (321, [vR y, vI bits, vI n, vI b, vI mn, vI pw, vI k, v7, v8, v9], [], aq_h m s F c) (aq_Z m s F (mo_S y) c0 (fun r d => r = none ∧ mo_k y c0 d))
  | 0, b, mn, pw, k, v7, v8, v9, c, hs, h0, h1, hob, hd => by exfalso; omega
  | d + 1, b, mn, pw, k, v7, v8, v9, c, hs, h0, h1, hob, hd => by
    obtain ⟨hm, hFo, hG5, hG6, hG7, hG8, hG9, hG10, hG11, hG12, hG13, hG14, hG15, hG16, hG17, hG18, hG19, hG20, hG21, hG22, hG23⟩ := hO
    obtain ⟨hT1, hTt⟩ := hT
    obtain ⟨hr0, hr1, hr2, hr3, hr4⟩ := hr
    refine am_E.go (t2 := (323, [vR y, vI bits, vI n, vI b, vI mn, vI pw, vI k, v7, v8, v9], [vI k], aq_h m s F c)) rfl rfl ?_
    refine am_E.go (t2 := (326, [vR y, vI bits, vI n, vI b, vI mn, vI pw, vI k, v7, v8, v9], [vI 201, vI k], aq_h m s F c)) rfl rfl ?_
    refine ae_icmp rfl (fun (q_1 : 201 ≤ k) => ?_) (fun (q_1 : k < 201) => ?_)
    · refine am_E.ret rfl rfl ?_
      exact ⟨_, rfl, hs, rfl, hob⟩
    · refine am_E.go (t2 := (330, [vR y, vI bits, vI n, vI b, vI mn, vI pw, vI k, v7, v8, v9], [vR y], aq_h m s F c)) rfl rfl ?_
      refine aq_gf (v := vR (y + 21)) rfl (by omega) hFo (by decide) rfl ?_
      show am_E _ (333, [vR y, vI bits, vI n, vI b, vI mn, vI pw, vI k, v7, v8, v9], [vR (y + 21)], aq_h m s F c) _
      refine am_E.go (t2 := (335, [vR y, vI bits, vI n, vI b, vI mn, vI pw, vI k, v7, v8, v9], [vI k, vR (y + 21)], aq_h m s F c)) rfl rfl ?_
      refine am_E.go (t2 := (336, [vR y, vI bits, vI n, vI b, vI mn, vI pw, vI k, v7, v8, v9], [vI k, vR (y + 21), vI k, vR (y + 21)], aq_h m s F c)) rfl rfl ?_
      refine aq_al (ok := fun k => k == 0) (v := vI (c (y + 21) k)) rfl rfl (by omega) hG21 rfl (by omega) (by omega) rfl ?_
      show am_E _ (337, [vR y, vI bits, vI n, vI b, vI mn, vI pw, vI k, v7, v8, v9], [vI (c (y + 21) k), vI k, vR (y + 21)], aq_h m s F c) _
      refine am_E.go (t2 := (338, [vR y, vI bits, vI n, vI b, vI mn, vI pw, vI k, v7, v8, v9], [vR y, vI (c (y + 21) k), vI k, vR (y + 21)], aq_h m s F c)) rfl rfl ?_
      refine aq_gf (v := vR (y + 22)) rfl (by omega) hFo (by decide) rfl ?_
      show am_E _ (341, [vR y, vI bits, vI n, vI b, vI mn, vI pw, vI k, v7, v8, v9], [vR (y + 22), vI (c (y + 21) k), vI k, vR (y + 21)], aq_h m s F c) _
      refine am_E.go (t2 := (343, [vR y, vI bits, vI n, vI b, vI mn, vI pw, vI k, v7, v8, v9], [vI k, vR (y + 22), vI (c (y + 21) k), vI k, vR (y + 21)], aq_h m s F c)) rfl rfl ?_
      refine aq_al (ok := fun k => k == 0) (v := vI (c (y + 22) k)) rfl rfl (by omega) hG22 rfl (by omega) (by omega) rfl ?_
      show am_E _ (344, [vR y, vI bits, vI n, vI b, vI mn, vI pw, vI k, v7, v8, v9], [vI (c (y + 22) k), vI (c (y + 21) k), vI k, vR (y + 21)], aq_h m s F c) _
      refine am_E.go (t2 := (345, [vR y, vI bits, vI n, vI b, vI mn, vI pw, vI k, v7, v8, v9], [vI (am_w ((c (y + 21) k) + (c (y + 22) k))), vI k, vR (y + 21)], aq_h m s F c)) rfl rfl ?_
      refine aq_as (kd := 0) rfl rfl (by omega) hG21 (by omega) (by omega) rfl rfl ?_
      show am_E _ (346, [vR y, vI bits, vI n, vI b, vI mn, vI pw, vI k, v7, v8, v9], [], aq_h m s F (aq_u c (y + 21) k (am_w ((c (y + 21) k) + (c (y + 22) k))))) _
      generalize hdc_2 : aq_u c (y + 21) k (am_w ((c (y + 21) k) + (c (y + 22) k))) = c_2
      have sc_2 := aq_smu hs hdc_2 (mo_Sk (by decide) (by decide))
      have hobc_2 := mo_ku hob hdc_2 (Or.inl (by omega))
      refine ae_iinc rfl rfl (am_ri (by omega) (by omega)) ?_
      show am_E _ (349, [vR y, vI bits, vI n, vI b, vI mn, vI pw, vI (k + 1), v7, v8, v9], [], aq_h m s F c_2) _
      refine am_E.go (t2 := (321, [vR y, vI bits, vI n, vI b, vI mn, vI pw, vI (k + 1), v7, v8, v9], [], aq_h m s F c_2)) rfl rfl ?_
      exact qm_addState_5 ⟨hm, hFo, hG5, hG6, hG7, hG8, hG9, hG10, hG11, hG12, hG13, hG14, hG15, hG16, hG17, hG18, hG19, hG20, hG21, hG22, hG23⟩ ⟨hT1, hTt⟩ ⟨hr0, hr1, hr2, hr3, hr4⟩ d b mn pw (k + 1) (v7) (v8) (v9) c_2 sc_2 (by omega) (by omega) hobc_2 (by omega)

theorem qm_addState_4 {m s : Nat} {F : aq_F} {c0 : aq_C} {y : Nat} (hO : mo_0 m F y) {tbl : Int → Int} (hT : mo_T F y tbl) (hr : mo_r y c0) {bits n : Int} : ∀ (d : Nat) (b : Int) (mn : Int) (pw : Int) (r : Int) (k : Int) (v8 : am_V) (v9 : am_V) (c : aq_C) (hs : aq_sm (mo_S y) c0 c) (h0 : 0 ≤ k) (h1 : k ≤ 201) (hob : mo_k y c0 c) (hd : 201 - k < (d : Int)) (K0 : ∀ (k2 : Int) (c2 : aq_C) (hs2 : aq_sm (mo_S y) c0 c2) (hob2 : mo_k y c0 c2), am_E ac_X5_addState (312, [vR y, vI bits, vI n, vI b, vI mn, vI pw, vI r, vI k2, v8, v9], [], aq_h m s F c2) (aq_Z m s F (mo_S y) c0 (fun r d => r = none ∧ mo_k y c0 d))), am_E ac_X5_addState (284, [vR y, vI bits, vI n, vI b, vI mn, vI pw, vI r, vI k, v8, v9], [], aq_h m s F c) (aq_Z m s F (mo_S y) c0 (fun r d => r = none ∧ mo_k y c0 d))
  | 0, b, mn, pw, r, k, v8, v9, c, hs, h0, h1, hob, hd, K0 => by exfalso; omega
  | d + 1, b, mn, pw, r, k, v8, v9, c, hs, h0, h1, hob, hd, K0 => by
    obtain ⟨hm, hFo, hG5, hG6, hG7, hG8, hG9, hG10, hG11, hG12, hG13, hG14, hG15, hG16, hG17, hG18, hG19, hG20, hG21, hG22, hG23⟩ := hO
    obtain ⟨hT1, hTt⟩ := hT
    obtain ⟨hr0, hr1, hr2, hr3, hr4⟩ := hr
    refine am_E.go (t2 := (286, [vR y, vI bits, vI n, vI b, vI mn, vI pw, vI r, vI k, v8, v9], [vI k], aq_h m s F c)) rfl rfl ?_
    refine am_E.go (t2 := (289, [vR y, vI bits, vI n, vI b, vI mn, vI pw, vI r, vI k, v8, v9], [vI 201, vI k], aq_h m s F c)) rfl rfl ?_
    refine ae_icmp rfl (fun (q_1 : 201 ≤ k) => ?_) (fun (q_1 : k < 201) => ?_)
    · exact K0 k c hs hob
    · refine am_E.go (t2 := (293, [vR y, vI bits, vI n, vI b, vI mn, vI pw, vI r, vI k, v8, v9], [vR y], aq_h m s F c)) rfl rfl ?_
      refine aq_gf (v := vR (y + 22)) rfl (by omega) hFo (by decide) rfl ?_
      show am_E _ (296, [vR y, vI bits, vI n, vI b, vI mn, vI pw, vI r, vI k, v8, v9], [vR (y + 22)], aq_h m s F c) _
      refine am_E.go (t2 := (298, [vR y, vI bits, vI n, vI b, vI mn, vI pw, vI r, vI k, v8, v9], [vI k, vR (y + 22)], aq_h m s F c)) rfl rfl ?_
      refine am_E.go (t2 := (299, [vR y, vI bits, vI n, vI b, vI mn, vI pw, vI r, vI k, v8, v9], [vR y, vI k, vR (y + 22)], aq_h m s F c)) rfl rfl ?_
      refine aq_gf (v := vR (y + 23)) rfl (by omega) hFo (by decide) rfl ?_
      show am_E _ (302, [vR y, vI bits, vI n, vI b, vI mn, vI pw, vI r, vI k, v8, v9], [vR (y + 23), vI k, vR (y + 22)], aq_h m s F c) _
      refine am_E.go (t2 := (304, [vR y, vI bits, vI n, vI b, vI mn, vI pw, vI r, vI k, v8, v9], [vI k, vR (y + 23), vI k, vR (y + 22)], aq_h m s F c)) rfl rfl ?_
      refine aq_al (ok := fun k => k == 0) (v := vI (c (y + 23) k)) rfl rfl (by omega) hG23 rfl (by omega) (by omega) rfl ?_
      show am_E _ (305, [vR y, vI bits, vI n, vI b, vI mn, vI pw, vI r, vI k, v8, v9], [vI (c (y + 23) k), vI k, vR (y + 22)], aq_h m s F c) _
      refine aq_as (kd := 0) rfl rfl (by omega) hG22 (by omega) (by omega) rfl rfl ?_
      show am_E _ (306, [vR y, vI bits, vI n, vI b, vI mn, vI pw, vI r, vI k, v8, v9], [], aq_h m s F (aq_u c (y + 22) k (c (y + 23) k))) _
      generalize hdc_2 : aq_u c (y + 22) k (c (y + 23) k) = c_2
      have sc_2 := aq_smu hs hdc_2 (mo_Sk (by decide) (by decide))
      have hobc_2 := mo_ku hob hdc_2 (Or.inl (by omega))
      refine ae_iinc rfl rfl (am_ri (by omega) (by omega)) ?_
      show am_E _ (309, [vR y, vI bits, vI n, vI b, vI mn, vI pw, vI r, vI (k + 1), v8, v9], [], aq_h m s F c_2) _
      refine am_E.go (t2 := (284, [vR y, vI bits, vI n, vI b, vI mn, vI pw, vI r, vI (k + 1), v8, v9], [], aq_h m s F c_2)) rfl rfl ?_
      exact qm_addState_4 ⟨hm, hFo, hG5, hG6, hG7, hG8, hG9, hG10, hG11, hG12, hG13, hG14, hG15, hG16, hG17, hG18, hG19, hG20, hG21, hG22, hG23⟩ ⟨hT1, hTt⟩ ⟨hr0, hr1, hr2, hr3, hr4⟩ d b mn pw r (k + 1) (v8) (v9) c_2 sc_2 (by omega) (by omega) hobc_2 (by omega) K0

theorem qm_addState_3 {m s : Nat} {F : aq_F} {c0 : aq_C} {y : Nat} (hO : mo_0 m F y) {tbl : Int → Int} (hT : mo_T F y tbl) (hr : mo_r y c0) {bits n : Int} : ∀ (d : Nat) (b : Int) (mn : Int) (pw : Int) (r : Int) (k : Int) (v8 : am_V) (v9 : am_V) (c : aq_C) (hs : aq_sm (mo_S y) c0 c) (h0 : 0 ≤ k) (h1 : k ≤ 201) (hob : mo_k y c0 c) (hd : 201 - k < (d : Int)) (K0 : ∀ (k2 : Int) (v82 : am_V) (v92 : am_V) (c2 : aq_C) (hs2 : aq_sm (mo_S y) c0 c2) (hob2 : mo_k y c0 c2), am_E ac_X5_addState (281, [vR y, vI bits, vI n, vI b, vI mn, vI pw, vI r, vI k2, v82, v92], [], aq_h m s F c2) (aq_Z m s F (mo_S y) c0 (fun r d => r = none ∧ mo_k y c0 d))), am_E ac_X5_addState (208, [vR y, vI bits, vI n, vI b, vI mn, vI pw, vI r, vI k, v8, v9], [], aq_h m s F c) (aq_Z m s F (mo_S y) c0 (fun r d => r = none ∧ mo_k y c0 d))
  | 0, b, mn, pw, r, k, v8, v9, c, hs, h0, h1, hob, hd, K0 => by exfalso; omega
  | d + 1, b, mn, pw, r, k, v8, v9, c, hs, h0, h1, hob, hd, K0 => by
    obtain ⟨hm, hFo, hG5, hG6, hG7, hG8, hG9, hG10, hG11, hG12, hG13, hG14, hG15, hG16, hG17, hG18, hG19, hG20, hG21, hG22, hG23⟩ := hO
    obtain ⟨hT1, hTt⟩ := hT
    obtain ⟨hr0, hr1, hr2, hr3, hr4⟩ := hr
    refine am_E.go (t2 := (210, [vR y, vI bits, vI n, vI b, vI mn, vI pw, vI r, vI k, v8, v9], [vI k], aq_h m s F c)) rfl rfl ?_
    refine am_E.go (t2 := (213, [vR y, vI bits, vI n, vI b, vI mn, vI pw, vI r, vI k, v8, v9], [vI 201, vI k], aq_h m s F c)) rfl rfl ?_
    refine ae_icmp rfl (fun (q_1 : 201 ≤ k) => ?_) (fun (q_1 : k < 201) => ?_)
    · exact K0 k (v8) (v9) c hs hob
    · refine am_E.go (t2 := (218, [vR y, vI bits, vI n, vI b, vI mn, vI pw, vI r, vI k, v8, v9], [vI k], aq_h m s F c)) rfl rfl ?_
      refine am_E.go (t2 := (219, [vR y, vI bits, vI n, vI b, vI mn, vI pw, vI r, vI k, v8, v9], [vI 2, vI k], aq_h m s F c)) rfl rfl ?_
      refine ae_icmp rfl (fun (q_2 : k < 2) => ?_) (fun (q_2 : 2 ≤ k) => ?_)
      · refine am_E.go (t2 := (235, [vR y, vI bits, vI n, vI b, vI mn, vI pw, vI r, vI k, v8, v9], [vI 0], aq_h m s F c)) rfl rfl ?_
        refine am_E.go (t2 := (237, [vR y, vI bits, vI n, vI b, vI mn, vI pw, vI r, vI k, vI 0, v9], [], aq_h m s F c)) rfl rfl ?_
        refine am_E.go (t2 := (239, [vR y, vI bits, vI n, vI b, vI mn, vI pw, vI r, vI k, vI 0, v9], [vI k], aq_h m s F c)) rfl rfl ?_
        refine am_E.go (t2 := (240, [vR y, vI bits, vI n, vI b, vI mn, vI pw, vI r, vI k, vI 0, v9], [vI 2, vI k], aq_h m s F c)) rfl rfl ?_
        refine ae_add rfl (am_ri (by omega) (by omega)) ?_
        show am_E _ (241, [vR y, vI bits, vI n, vI b, vI mn, vI pw, vI r, vI k, vI 0, v9], [vI (k + 2)], aq_h m s F c) _
        refine am_E.go (t2 := (244, [vR y, vI bits, vI n, vI b, vI mn, vI pw, vI r, vI k, vI 0, v9], [vI 201, vI (k + 2)], aq_h m s F c)) rfl rfl ?_
        refine ae_icmp rfl (fun (q_3 : 201 ≤ (k + 2)) => ?_) (fun (q_3 : (k + 2) < 201) => ?_)
        · refine am_E.go (t2 := (260, [vR y, vI bits, vI n, vI b, vI mn, vI pw, vI r, vI k, vI 0, v9], [vI 0], aq_h m s F c)) rfl rfl ?_
          refine am_E.go (t2 := (262, [vR y, vI bits, vI n, vI b, vI mn, vI pw, vI r, vI k, vI 0, vI 0], [], aq_h m s F c)) rfl rfl ?_
          refine am_E.go (t2 := (263, [vR y, vI bits, vI n, vI b, vI mn, vI pw, vI r, vI k, vI 0, vI 0], [vR y], aq_h m s F c)) rfl rfl ?_
          refine aq_gf (v := vR (y + 23)) rfl (by omega) hFo (by decide) rfl ?_
          show am_E _ (266, [vR y, vI bits, vI n, vI b, vI mn, vI pw, vI r, vI k, vI 0, vI 0], [vR (y + 23)], aq_h m s F c) _
          refine am_E.go (t2 := (268, [vR y, vI bits, vI n, vI b, vI mn, vI pw, vI r, vI k, vI 0, vI 0], [vI k, vR (y + 23)], aq_h m s F c)) rfl rfl ?_
          refine am_E.go (t2 := (270, [vR y, vI bits, vI n, vI b, vI mn, vI pw, vI r, vI k, vI 0, vI 0], [vI 0, vI k, vR (y + 23)], aq_h m s F c)) rfl rfl ?_
          refine am_E.go (t2 := (271, [vR y, vI bits, vI n, vI b, vI mn, vI pw, vI r, vI k, vI 0, vI 0], [vI (am_w (-0)), vI k, vR (y + 23)], aq_h m s F c)) rfl rfl ?_
          refine am_E.go (t2 := (273, [vR y, vI bits, vI n, vI b, vI mn, vI pw, vI r, vI k, vI 0, vI 0], [vI 0, vI (am_w (-0)), vI k, vR (y + 23)], aq_h m s F c)) rfl rfl ?_
          refine am_E.go (t2 := (274, [vR y, vI bits, vI n, vI b, vI mn, vI pw, vI r, vI k, vI 0, vI 0], [vI (am_w ((am_w (-0)) - 0)), vI k, vR (y + 23)], aq_h m s F c)) rfl rfl ?_
          refine aq_as (kd := 0) rfl rfl (by omega) hG23 (by omega) (by omega) rfl rfl ?_
          show am_E _ (275, [vR y, vI bits, vI n, vI b, vI mn, vI pw, vI r, vI k, vI 0, vI 0], [], aq_h m s F (aq_u c (y + 23) k (am_w ((am_w (-0)) - 0)))) _
          generalize hdc_4 : aq_u c (y + 23) k (am_w ((am_w (-0)) - 0)) = c_4
          have sc_4 := aq_smu hs hdc_4 (mo_Sk (by decide) (by decide))
          have hobc_4 := mo_ku hob hdc_4 (Or.inl (by omega))
          refine ae_iinc rfl rfl (am_ri (by omega) (by omega)) ?_
          show am_E _ (278, [vR y, vI bits, vI n, vI b, vI mn, vI pw, vI r, vI (k + 1), vI 0, vI 0], [], aq_h m s F c_4) _
          refine am_E.go (t2 := (208, [vR y, vI bits, vI n, vI b, vI mn, vI pw, vI r, vI (k + 1), vI 0, vI 0], [], aq_h m s F c_4)) rfl rfl ?_
          exact qm_addState_3 ⟨hm, hFo, hG5, hG6, hG7, hG8, hG9, hG10, hG11, hG12, hG13, hG14, hG15, hG16, hG17, hG18, hG19, hG20, hG21, hG22, hG23⟩ ⟨hT1, hTt⟩ ⟨hr0, hr1, hr2, hr3, hr4⟩ d b mn pw r (k + 1) (vI 0) (vI 0) c_4 sc_4 (by omega) (by omega) hobc_4 (by omega) K0
        · refine am_E.go (t2 := (248, [vR y, vI bits, vI n, vI b, vI mn, vI pw, vI r, vI k, vI 0, v9], [vR y], aq_h m s F c)) rfl rfl ?_
          refine aq_gf (v := vR (y + 22)) rfl (by omega) hFo (by decide) rfl ?_
          show am_E _ (251, [vR y, vI bits, vI n, vI b, vI mn, vI pw, vI r, vI k, vI 0, v9], [vR (y + 22)], aq_h m s F c) _
          refine am_E.go (t2 := (253, [vR y, vI bits, vI n, vI b, vI mn, vI pw, vI r, vI k, vI 0, v9], [vI k, vR (y + 22)], aq_h m s F c)) rfl rfl ?_
          refine am_E.go (t2 := (254, [vR y, vI bits, vI n, vI b, vI mn, vI pw, vI r, vI k, vI 0, v9], [vI 2, vI k, vR (y + 22)], aq_h m s F c)) rfl rfl ?_
          refine ae_add rfl (am_ri (by omega) (by omega)) ?_
          show am_E _ (255, [vR y, vI bits, vI n, vI b, vI mn, vI pw, vI r, vI k, vI 0, v9], [vI (k + 2), vR (y + 22)], aq_h m s F c) _
          refine aq_al (ok := fun k => k == 0) (v := vI (c (y + 22) (k + 2))) rfl rfl (by omega) hG22 rfl (by omega) (by omega) rfl ?_
          show am_E _ (256, [vR y, vI bits, vI n, vI b, vI mn, vI pw, vI r, vI k, vI 0, v9], [vI (c (y + 22) (k + 2))], aq_h m s F c) _
          refine am_E.go (t2 := (260, [vR y, vI bits, vI n, vI b, vI mn, vI pw, vI r, vI k, vI 0, v9], [vI (c (y + 22) (k + 2))], aq_h m s F c)) rfl rfl ?_
          refine am_E.go (t2 := (262, [vR y, vI bits, vI n, vI b, vI mn, vI pw, vI r, vI k, vI 0, vI (c (y + 22) (k + 2))], [], aq_h m s F c)) rfl rfl ?_
          refine am_E.go (t2 := (263, [vR y, vI bits, vI n, vI b, vI mn, vI pw, vI r, vI k, vI 0, vI (c (y + 22) (k + 2))], [vR y], aq_h m s F c)) rfl rfl ?_
          refine aq_gf (v := vR (y + 23)) rfl (by omega) hFo (by decide) rfl ?_
          show am_E _ (266, [vR y, vI bits, vI n, vI b, vI mn, vI pw, vI r, vI k, vI 0, vI (c (y + 22) (k + 2))], [vR (y + 23)], aq_h m s F c) _
          refine am_E.go (t2 := (268, [vR y, vI bits, vI n, vI b, vI mn, vI pw, vI r, vI k, vI 0, vI (c (y + 22) (k + 2))], [vI k, vR (y + 23)], aq_h m s F c)) rfl rfl ?_
          refine am_E.go (t2 := (270, [vR y, vI bits, vI n, vI b, vI mn, vI pw, vI r, vI k, vI 0, vI (c (y + 22) (k + 2))], [vI 0, vI k, vR (y + 23)], aq_h m s F c)) rfl rfl ?_
          refine am_E.go (t2 := (271, [vR y, vI bits, vI n, vI b, vI mn, vI pw, vI r, vI k, vI 0, vI (c (y + 22) (k + 2))], [vI (am_w (-0)), vI k, vR (y + 23)], aq_h m s F c)) rfl rfl ?_
          refine am_E.go (t2 := (273, [vR y, vI bits, vI n, vI b, vI mn, vI pw, vI r, vI k, vI 0, vI (c (y + 22) (k + 2))], [vI (c (y + 22) (k + 2)), vI (am_w (-0)), vI k, vR (y + 23)], aq_h m s F c)) rfl rfl ?_
          refine am_E.go (t2 := (274, [vR y, vI bits, vI n, vI b, vI mn, vI pw, vI r, vI k, vI 0, vI (c (y + 22) (k + 2))], [vI (am_w ((am_w (-0)) - (c (y + 22) (k + 2)))), vI k, vR (y + 23)], aq_h m s F c)) rfl rfl ?_
          refine aq_as (kd := 0) rfl rfl (by omega) hG23 (by omega) (by omega) rfl rfl ?_
          show am_E _ (275, [vR y, vI bits, vI n, vI b, vI mn, vI pw, vI r, vI k, vI 0, vI (c (y + 22) (k + 2))], [], aq_h m s F (aq_u c (y + 23) k (am_w ((am_w (-0)) - (c (y + 22) (k + 2)))))) _
          generalize hdc_5 : aq_u c (y + 23) k (am_w ((am_w (-0)) - (c (y + 22) (k + 2)))) = c_5
          have sc_5 := aq_smu hs hdc_5 (mo_Sk (by decide) (by decide))
          have hobc_5 := mo_ku hob hdc_5 (Or.inl (by omega))
          refine ae_iinc rfl rfl (am_ri (by omega) (by omega)) ?_
          show am_E _ (278, [vR y, vI bits, vI n, vI b, vI mn, vI pw, vI r, vI (k + 1), vI 0, vI (c (y + 22) (k + 2))], [], aq_h m s F c_5) _
          refine am_E.go (t2 := (208, [vR y, vI bits, vI n, vI b, vI mn, vI pw, vI r, vI (k + 1), vI 0, vI (c (y + 22) (k + 2))], [], aq_h m s F c_5)) rfl rfl ?_
          exact qm_addState_3 ⟨hm, hFo, hG5, hG6, hG7, hG8, hG9, hG10, hG11, hG12, hG13, hG14, hG15, hG16, hG17, hG18, hG19, hG20, hG21, hG22, hG23⟩ ⟨hT1, hTt⟩ ⟨hr0, hr1, hr2, hr3, hr4⟩ d b mn pw r (k + 1) (vI 0) (vI (c (y + 22) (k + 2))) c_5 sc_5 (by omega) (by omega) hobc_5 (by omega) K0
      · refine am_E.go (t2 := (223, [vR y, vI bits, vI n, vI b, vI mn, vI pw, vI r, vI k, v8, v9], [vR y], aq_h m s F c)) rfl rfl ?_
        refine aq_gf (v := vR (y + 22)) rfl (by omega) hFo (by decide) rfl ?_
        show am_E _ (226, [vR y, vI bits, vI n, vI b, vI mn, vI pw, vI r, vI k, v8, v9], [vR (y + 22)], aq_h m s F c) _
        refine am_E.go (t2 := (228, [vR y, vI bits, vI n, vI b, vI mn, vI pw, vI r, vI k, v8, v9], [vI k, vR (y + 22)], aq_h m s F c)) rfl rfl ?_
        refine am_E.go (t2 := (229, [vR y, vI bits, vI n, vI b, vI mn, vI pw, vI r, vI k, v8, v9], [vI 2, vI k, vR (y + 22)], aq_h m s F c)) rfl rfl ?_
        refine ae_sub rfl (am_ri (by omega) (by omega)) ?_
        show am_E _ (230, [vR y, vI bits, vI n, vI b, vI mn, vI pw, vI r, vI k, v8, v9], [vI (k - 2), vR (y + 22)], aq_h m s F c) _
        refine aq_al (ok := fun k => k == 0) (v := vI (c (y + 22) (k - 2))) rfl rfl (by omega) hG22 rfl (by omega) (by omega) rfl ?_
        show am_E _ (231, [vR y, vI bits, vI n, vI b, vI mn, vI pw, vI r, vI k, v8, v9], [vI (c (y + 22) (k - 2))], aq_h m s F c) _
        refine am_E.go (t2 := (235, [vR y, vI bits, vI n, vI b, vI mn, vI pw, vI r, vI k, v8, v9], [vI (c (y + 22) (k - 2))], aq_h m s F c)) rfl rfl ?_
        refine am_E.go (t2 := (237, [vR y, vI bits, vI n, vI b, vI mn, vI pw, vI r, vI k, vI (c (y + 22) (k - 2)), v9], [], aq_h m s F c)) rfl rfl ?_
        refine am_E.go (t2 := (239, [vR y, vI bits, vI n, vI b, vI mn, vI pw, vI r, vI k, vI (c (y + 22) (k - 2)), v9], [vI k], aq_h m s F c)) rfl rfl ?_
        refine am_E.go (t2 := (240, [vR y, vI bits, vI n, vI b, vI mn, vI pw, vI r, vI k, vI (c (y + 22) (k - 2)), v9], [vI 2, vI k], aq_h m s F c)) rfl rfl ?_
        refine ae_add rfl (am_ri (by omega) (by omega)) ?_
        show am_E _ (241, [vR y, vI bits, vI n, vI b, vI mn, vI pw, vI r, vI k, vI (c (y + 22) (k - 2)), v9], [vI (k + 2)], aq_h m s F c) _
        refine am_E.go (t2 := (244, [vR y, vI bits, vI n, vI b, vI mn, vI pw, vI r, vI k, vI (c (y + 22) (k - 2)), v9], [vI 201, vI (k + 2)], aq_h m s F c)) rfl rfl ?_
        refine ae_icmp rfl (fun (q_6 : 201 ≤ (k + 2)) => ?_) (fun (q_6 : (k + 2) < 201) => ?_)
        · refine am_E.go (t2 := (260, [vR y, vI bits, vI n, vI b, vI mn, vI pw, vI r, vI k, vI (c (y + 22) (k - 2)), v9], [vI 0], aq_h m s F c)) rfl rfl ?_
          refine am_E.go (t2 := (262, [vR y, vI bits, vI n, vI b, vI mn, vI pw, vI r, vI k, vI (c (y + 22) (k - 2)), vI 0], [], aq_h m s F c)) rfl rfl ?_
          refine am_E.go (t2 := (263, [vR y, vI bits, vI n, vI b, vI mn, vI pw, vI r, vI k, vI (c (y + 22) (k - 2)), vI 0], [vR y], aq_h m s F c)) rfl rfl ?_
          refine aq_gf (v := vR (y + 23)) rfl (by omega) hFo (by decide) rfl ?_
          show am_E _ (266, [vR y, vI bits, vI n, vI b, vI mn, vI pw, vI r, vI k, vI (c (y + 22) (k - 2)), vI 0], [vR (y + 23)], aq_h m s F c) _
          refine am_E.go (t2 := (268, [vR y, vI bits, vI n, vI b, vI mn, vI pw, vI r, vI k, vI (c (y + 22) (k - 2)), vI 0], [vI k, vR (y + 23)], aq_h m s F c)) rfl rfl ?_
          refine am_E.go (t2 := (270, [vR y, vI bits, vI n, vI b, vI mn, vI pw, vI r, vI k, vI (c (y + 22) (k - 2)), vI 0], [vI (c (y + 22) (k - 2)), vI k, vR (y + 23)], aq_h m s F c)) rfl rfl ?_
          refine am_E.go (t2 := (271, [vR y, vI bits, vI n, vI b, vI mn, vI pw, vI r, vI k, vI (c (y + 22) (k - 2)), vI 0], [vI (am_w (-(c (y + 22) (k - 2)))), vI k, vR (y + 23)], aq_h m s F c)) rfl rfl ?_
          refine am_E.go (t2 := (273, [vR y, vI bits, vI n, vI b, vI mn, vI pw, vI r, vI k, vI (c (y + 22) (k - 2)), vI 0], [vI 0, vI (am_w (-(c (y + 22) (k - 2)))), vI k, vR (y + 23)], aq_h m s F c)) rfl rfl ?_
          refine am_E.go (t2 := (274, [vR y, vI bits, vI n, vI b, vI mn, vI pw, vI r, vI k, vI (c (y + 22) (k - 2)), vI 0], [vI (am_w ((am_w (-(c (y + 22) (k - 2)))) - 0)), vI k, vR (y + 23)], aq_h m s F c)) rfl rfl ?_
          refine aq_as (kd := 0) rfl rfl (by omega) hG23 (by omega) (by omega) rfl rfl ?_
          show am_E _ (275, [vR y, vI bits, vI n, vI b, vI mn, vI pw, vI r, vI k, vI (c (y + 22) (k - 2)), vI 0], [], aq_h m s F (aq_u c (y + 23) k (am_w ((am_w (-(c (y + 22) (k - 2)))) - 0)))) _
          generalize hdc_7 : aq_u c (y + 23) k (am_w ((am_w (-(c (y + 22) (k - 2)))) - 0)) = c_7
          have sc_7 := aq_smu hs hdc_7 (mo_Sk (by decide) (by decide))
          have hobc_7 := mo_ku hob hdc_7 (Or.inl (by omega))
          refine ae_iinc rfl rfl (am_ri (by omega) (by omega)) ?_
          show am_E _ (278, [vR y, vI bits, vI n, vI b, vI mn, vI pw, vI r, vI (k + 1), vI (c (y + 22) (k - 2)), vI 0], [], aq_h m s F c_7) _
          refine am_E.go (t2 := (208, [vR y, vI bits, vI n, vI b, vI mn, vI pw, vI r, vI (k + 1), vI (c (y + 22) (k - 2)), vI 0], [], aq_h m s F c_7)) rfl rfl ?_
          exact qm_addState_3 ⟨hm, hFo, hG5, hG6, hG7, hG8, hG9, hG10, hG11, hG12, hG13, hG14, hG15, hG16, hG17, hG18, hG19, hG20, hG21, hG22, hG23⟩ ⟨hT1, hTt⟩ ⟨hr0, hr1, hr2, hr3, hr4⟩ d b mn pw r (k + 1) (vI (c (y + 22) (k - 2))) (vI 0) c_7 sc_7 (by omega) (by omega) hobc_7 (by omega) K0
        · refine am_E.go (t2 := (248, [vR y, vI bits, vI n, vI b, vI mn, vI pw, vI r, vI k, vI (c (y + 22) (k - 2)), v9], [vR y], aq_h m s F c)) rfl rfl ?_
          refine aq_gf (v := vR (y + 22)) rfl (by omega) hFo (by decide) rfl ?_
          show am_E _ (251, [vR y, vI bits, vI n, vI b, vI mn, vI pw, vI r, vI k, vI (c (y + 22) (k - 2)), v9], [vR (y + 22)], aq_h m s F c) _
          refine am_E.go (t2 := (253, [vR y, vI bits, vI n, vI b, vI mn, vI pw, vI r, vI k, vI (c (y + 22) (k - 2)), v9], [vI k, vR (y + 22)], aq_h m s F c)) rfl rfl ?_
          refine am_E.go (t2 := (254, [vR y, vI bits, vI n, vI b, vI mn, vI pw, vI r, vI k, vI (c (y + 22) (k - 2)), v9], [vI 2, vI k, vR (y + 22)], aq_h m s F c)) rfl rfl ?_
          refine ae_add rfl (am_ri (by omega) (by omega)) ?_
          show am_E _ (255, [vR y, vI bits, vI n, vI b, vI mn, vI pw, vI r, vI k, vI (c (y + 22) (k - 2)), v9], [vI (k + 2), vR (y + 22)], aq_h m s F c) _
          refine aq_al (ok := fun k => k == 0) (v := vI (c (y + 22) (k + 2))) rfl rfl (by omega) hG22 rfl (by omega) (by omega) rfl ?_
          show am_E _ (256, [vR y, vI bits, vI n, vI b, vI mn, vI pw, vI r, vI k, vI (c (y + 22) (k - 2)), v9], [vI (c (y + 22) (k + 2))], aq_h m s F c) _
          refine am_E.go (t2 := (260, [vR y, vI bits, vI n, vI b, vI mn, vI pw, vI r, vI k, vI (c (y + 22) (k - 2)), v9], [vI (c (y + 22) (k + 2))], aq_h m s F c)) rfl rfl ?_
          refine am_E.go (t2 := (262, [vR y, vI bits, vI n, vI b, vI mn, vI pw, vI r, vI k, vI (c (y + 22) (k - 2)), vI (c (y + 22) (k + 2))], [], aq_h m s F c)) rfl rfl ?_
          refine am_E.go (t2 := (263, [vR y, vI bits, vI n, vI b, vI mn, vI pw, vI r, vI k, vI (c (y + 22) (k - 2)), vI (c (y + 22) (k + 2))], [vR y], aq_h m s F c)) rfl rfl ?_
          refine aq_gf (v := vR (y + 23)) rfl (by omega) hFo (by decide) rfl ?_
          show am_E _ (266, [vR y, vI bits, vI n, vI b, vI mn, vI pw, vI r, vI k, vI (c (y + 22) (k - 2)), vI (c (y + 22) (k + 2))], [vR (y + 23)], aq_h m s F c) _
          refine am_E.go (t2 := (268, [vR y, vI bits, vI n, vI b, vI mn, vI pw, vI r, vI k, vI (c (y + 22) (k - 2)), vI (c (y + 22) (k + 2))], [vI k, vR (y + 23)], aq_h m s F c)) rfl rfl ?_
          refine am_E.go (t2 := (270, [vR y, vI bits, vI n, vI b, vI mn, vI pw, vI r, vI k, vI (c (y + 22) (k - 2)), vI (c (y + 22) (k + 2))], [vI (c (y + 22) (k - 2)), vI k, vR (y + 23)], aq_h m s F c)) rfl rfl ?_
          refine am_E.go (t2 := (271, [vR y, vI bits, vI n, vI b, vI mn, vI pw, vI r, vI k, vI (c (y + 22) (k - 2)), vI (c (y + 22) (k + 2))], [vI (am_w (-(c (y + 22) (k - 2)))), vI k, vR (y + 23)], aq_h m s F c)) rfl rfl ?_
          refine am_E.go (t2 := (273, [vR y, vI bits, vI n, vI b, vI mn, vI pw, vI r, vI k, vI (c (y + 22) (k - 2)), vI (c (y + 22) (k + 2))], [vI (c (y + 22) (k + 2)), vI (am_w (-(c (y + 22) (k - 2)))), vI k, vR (y + 23)], aq_h m s F c)) rfl rfl ?_
          refine am_E.go (t2 := (274, [vR y, vI bits, vI n, vI b, vI mn, vI pw, vI r, vI k, vI (c (y + 22) (k - 2)), vI (c (y + 22) (k + 2))], [vI (am_w ((am_w (-(c (y + 22) (k - 2)))) - (c (y + 22) (k + 2)))), vI k, vR (y + 23)], aq_h m s F c)) rfl rfl ?_
          refine aq_as (kd := 0) rfl rfl (by omega) hG23 (by omega) (by omega) rfl rfl ?_
          show am_E _ (275, [vR y, vI bits, vI n, vI b, vI mn, vI pw, vI r, vI k, vI (c (y + 22) (k - 2)), vI (c (y + 22) (k + 2))], [], aq_h m s F (aq_u c (y + 23) k (am_w ((am_w (-(c (y + 22) (k - 2)))) - (c (y + 22) (k + 2)))))) _
          generalize hdc_8 : aq_u c (y + 23) k (am_w ((am_w (-(c (y + 22) (k - 2)))) - (c (y + 22) (k + 2)))) = c_8
          have sc_8 := aq_smu hs hdc_8 (mo_Sk (by decide) (by decide))
          have hobc_8 := mo_ku hob hdc_8 (Or.inl (by omega))
          refine ae_iinc rfl rfl (am_ri (by omega) (by omega)) ?_
          show am_E _ (278, [vR y, vI bits, vI n, vI b, vI mn, vI pw, vI r, vI (k + 1), vI (c (y + 22) (k - 2)), vI (c (y + 22) (k + 2))], [], aq_h m s F c_8) _
          refine am_E.go (t2 := (208, [vR y, vI bits, vI n, vI b, vI mn, vI pw, vI r, vI (k + 1), vI (c (y + 22) (k - 2)), vI (c (y + 22) (k + 2))], [], aq_h m s F c_8)) rfl rfl ?_
          exact qm_addState_3 ⟨hm, hFo, hG5, hG6, hG7, hG8, hG9, hG10, hG11, hG12, hG13, hG14, hG15, hG16, hG17, hG18, hG19, hG20, hG21, hG22, hG23⟩ ⟨hT1, hTt⟩ ⟨hr0, hr1, hr2, hr3, hr4⟩ d b mn pw r (k + 1) (vI (c (y + 22) (k - 2))) (vI (c (y + 22) (k + 2))) c_8 sc_8 (by omega) (by omega) hobc_8 (by omega) K0

theorem qm_addState_2 {m s : Nat} {F : aq_F} {c0 : aq_C} {y : Nat} (hO : mo_0 m F y) {tbl : Int → Int} (hT : mo_T F y tbl) (hr : mo_r y c0) {bits n : Int} : ∀ (d : Nat) (b : Int) (mn : Int) (pw : Int) (r : Int) (v7 : am_V) (v8 : am_V) (v9 : am_V) (c : aq_C) (hs : aq_sm (mo_S y) c0 c) (h0 : 0 ≤ r) (h1 : r ≤ 101) (h2 : mn ≤ 100) (hob : mo_k y c0 c) (hd : max 0 (mn - r) < (d : Int)), am_E ac_X5_addState (198, [vR y, vI bits, vI n, vI b, vI mn, vI pw, vI r, v7, v8, v9], [], aq_h m s F c) (aq_Z m s F (mo_S y) c0 (fun r d => r = none ∧ mo_k y c0 d))
  | 0, b, mn, pw, r, v7, v8, v9, c, hs, h0, h1, h2, hob, hd => by exfalso; omega
  | d + 1, b, mn, pw, r, v7, v8, v9, c, hs, h0, h1, h2, hob, hd => by
    obtain ⟨hm, hFo, hG5, hG6, hG7, hG8, hG9, hG10, hG11, hG12, hG13, hG14, hG15, hG16, hG17, hG18, hG19, hG20, hG21, hG22, hG23⟩ := hO
    obtain ⟨hT1, hTt⟩ := hT
    obtain ⟨hr0, hr1, hr2, hr3, hr4⟩ := hr
    refine am_E.go (t2 := (200, [vR y, vI bits, vI n, vI b, vI mn, vI pw, vI r, v7, v8, v9], [vI r], aq_h m s F c)) rfl rfl ?_
    refine am_E.go (t2 := (202, [vR y, vI bits, vI n, vI b, vI mn, vI pw, vI r, v7, v8, v9], [vI mn, vI r], aq_h m s F c)) rfl rfl ?_
    refine ae_icmp rfl (fun (q_1 : mn ≤ r) => ?_) (fun (q_1 : r < mn) => ?_)
    · refine am_E.go (t2 := (319, [vR y, vI bits, vI n, vI b, vI mn, vI pw, vI r, v7, v8, v9], [vI 0], aq_h m s F c)) rfl rfl ?_
      refine am_E.go (t2 := (321, [vR y, vI bits, vI n, vI b, vI mn, vI pw, vI 0, v7, v8, v9], [], aq_h m s F c)) rfl rfl ?_
      exact qm_addState_5 ⟨hm, hFo, hG5, hG6, hG7, hG8, hG9, hG10, hG11, hG12, hG13, hG14, hG15, hG16, hG17, hG18, hG19, hG20, hG21, hG22, hG23⟩ ⟨hT1, hTt⟩ ⟨hr0, hr1, hr2, hr3, hr4⟩ 203 b mn pw 0 (v7) (v8) (v9) c hs (by omega) (by omega) hob (by omega)
    · refine am_E.go (t2 := (206, [vR y, vI bits, vI n, vI b, vI mn, vI pw, vI r, v7, v8, v9], [vI 0], aq_h m s F c)) rfl rfl ?_
      refine am_E.go (t2 := (208, [vR y, vI bits, vI n, vI b, vI mn, vI pw, vI r, vI 0, v8, v9], [], aq_h m s F c)) rfl rfl ?_
      refine qm_addState_3 ⟨hm, hFo, hG5, hG6, hG7, hG8, hG9, hG10, hG11, hG12, hG13, hG14, hG15, hG16, hG17, hG18, hG19, hG20, hG21, hG22, hG23⟩ ⟨hT1, hTt⟩ ⟨hr0, hr1, hr2, hr3, hr4⟩ 203 b mn pw r 0 (v8) (v9) c hs (by omega) (by omega) hob (by omega) ?_
      · intro k2_208 v82_208 v92_208 c_2 sc_2 hob2_208
        refine am_E.go (t2 := (282, [vR y, vI bits, vI n, vI b, vI mn, vI pw, vI r, vI k2_208, v82_208, v92_208], [vI 0], aq_h m s F c_2)) rfl rfl ?_
        refine am_E.go (t2 := (284, [vR y, vI bits, vI n, vI b, vI mn, vI pw, vI r, vI 0, v82_208, v92_208], [], aq_h m s F c_2)) rfl rfl ?_
        refine qm_addState_4 ⟨hm, hFo, hG5, hG6, hG7, hG8, hG9, hG10, hG11, hG12, hG13, hG14, hG15, hG16, hG17, hG18, hG19, hG20, hG21, hG22, hG23⟩ ⟨hT1, hTt⟩ ⟨hr0, hr1, hr2, hr3, hr4⟩ 203 b mn pw r 0 (v82_208) (v92_208) c_2 sc_2 (by omega) (by omega) hob2_208 (by omega) ?_
        · intro k2_284 c_3 sc_3 hob2_284
          refine ae_iinc rfl rfl (am_ri (by omega) (by omega)) ?_
          show am_E _ (315, [vR y, vI bits, vI n, vI b, vI mn, vI pw, vI (r + 1), vI k2_284, (v82_208), (v92_208)], [], aq_h m s F c_3) _
          refine am_E.go (t2 := (198, [vR y, vI bits, vI n, vI b, vI mn, vI pw, vI (r + 1), vI k2_284, (v82_208), (v92_208)], [], aq_h m s F c_3)) rfl rfl ?_
          exact qm_addState_2 ⟨hm, hFo, hG5, hG6, hG7, hG8, hG9, hG10, hG11, hG12, hG13, hG14, hG15, hG16, hG17, hG18, hG19, hG20, hG21, hG22, hG23⟩ ⟨hT1, hTt⟩ ⟨hr0, hr1, hr2, hr3, hr4⟩ d b mn pw (r + 1) (vI k2_284) ((v82_208)) ((v92_208)) c_3 sc_3 (by omega) (by omega) (by omega) hob2_284 (by omega)

theorem qm_addState_1 {m s : Nat} {F : aq_F} {c0 : aq_C} {y : Nat} (hO : mo_0 m F y) {tbl : Int → Int} (hT : mo_T F y tbl) (hr : mo_r y c0) {bits n : Int} : ∀ (d : Nat) (b : Int) (mn : Int) (pw : Int) (k : Int) (v7 : am_V) (v8 : am_V) (v9 : am_V) (c : aq_C) (hs : aq_sm (mo_S y) c0 c) (h0 : 0 ≤ k) (h1 : k ≤ 201) (h2 : mn ≤ 100) (hob : mo_k y c0 c) (hd : 201 - k < (d : Int)), am_E ac_X5_addState (159, [vR y, vI bits, vI n, vI b, vI mn, vI pw, vI k, v7, v8, v9], [], aq_h m s F c) (aq_Z m s F (mo_S y) c0 (fun r d => r = none ∧ mo_k y c0 d))
  | 0, b, mn, pw, k, v7, v8, v9, c, hs, h0, h1, h2, hob, hd => by exfalso; omega
  | d + 1, b, mn, pw, k, v7, v8, v9, c, hs, h0, h1, h2, hob, hd => by
    obtain ⟨hm, hFo, hG5, hG6, hG7, hG8, hG9, hG10, hG11, hG12, hG13, hG14, hG15, hG16, hG17, hG18, hG19, hG20, hG21, hG22, hG23⟩ := hO
    obtain ⟨hT1, hTt⟩ := hT
    obtain ⟨hr0, hr1, hr2, hr3, hr4⟩ := hr
    refine am_E.go (t2 := (161, [vR y, vI bits, vI n, vI b, vI mn, vI pw, vI k, v7, v8, v9], [vI k], aq_h m s F c)) rfl rfl ?_
    refine am_E.go (t2 := (164, [vR y, vI bits, vI n, vI b, vI mn, vI pw, vI k, v7, v8, v9], [vI 201, vI k], aq_h m s F c)) rfl rfl ?_
    refine ae_icmp rfl (fun (q_1 : 201 ≤ k) => ?_) (fun (q_1 : k < 201) => ?_)
    · refine am_E.go (t2 := (196, [vR y, vI bits, vI n, vI b, vI mn, vI pw, vI k, v7, v8, v9], [vI 1], aq_h m s F c)) rfl rfl ?_
      refine am_E.go (t2 := (198, [vR y, vI bits, vI n, vI b, vI mn, vI pw, vI 1, v7, v8, v9], [], aq_h m s F c)) rfl rfl ?_
      exact qm_addState_2 ⟨hm, hFo, hG5, hG6, hG7, hG8, hG9, hG10, hG11, hG12, hG13, hG14, hG15, hG16, hG17, hG18, hG19, hG20, hG21, hG22, hG23⟩ ⟨hT1, hTt⟩ ⟨hr0, hr1, hr2, hr3, hr4⟩ 103 b mn pw 1 (v7) (v8) (v9) c hs (by omega) (by omega) (by omega) hob (by omega)
    · refine am_E.go (t2 := (168, [vR y, vI bits, vI n, vI b, vI mn, vI pw, vI k, v7, v8, v9], [vR y], aq_h m s F c)) rfl rfl ?_
      refine aq_gf (v := vR (y + 22)) rfl (by omega) hFo (by decide) rfl ?_
      show am_E _ (171, [vR y, vI bits, vI n, vI b, vI mn, vI pw, vI k, v7, v8, v9], [vR (y + 22)], aq_h m s F c) _
      refine am_E.go (t2 := (173, [vR y, vI bits, vI n, vI b, vI mn, vI pw, vI k, v7, v8, v9], [vI k, vR (y + 22)], aq_h m s F c)) rfl rfl ?_
      refine am_E.go (t2 := (175, [vR y, vI bits, vI n, vI b, vI mn, vI pw, vI k, v7, v8, v9], [vI k, vI k, vR (y + 22)], aq_h m s F c)) rfl rfl ?_
      refine am_E.go (t2 := (177, [vR y, vI bits, vI n, vI b, vI mn, vI pw, vI k, v7, v8, v9], [vI 100, vI k, vI k, vR (y + 22)], aq_h m s F c)) rfl rfl ?_
      refine am_E.go (t2 := (179, [vR y, vI bits, vI n, vI b, vI mn, vI pw, vI k, v7, v8, v9], [vI pw, vI 100, vI k, vI k, vR (y + 22)], aq_h m s F c)) rfl rfl ?_
      refine am_E.go (t2 := (180, [vR y, vI bits, vI n, vI b, vI mn, vI pw, vI k, v7, v8, v9], [vI (am_w (100 + pw)), vI k, vI k, vR (y + 22)], aq_h m s F c)) rfl rfl ?_
      refine ae_icmp rfl (fun (q_2 : k ≠ (am_w (100 + pw))) => ?_) (fun (q_2 : k = (am_w (100 + pw))) => ?_)
      · refine am_E.go (t2 := (188, [vR y, vI bits, vI n, vI b, vI mn, vI pw, vI k, v7, v8, v9], [vI 0, vI k, vR (y + 22)], aq_h m s F c)) rfl rfl ?_
        refine aq_as (kd := 0) rfl rfl (by omega) hG22 (by omega) (by omega) rfl rfl ?_
        show am_E _ (189, [vR y, vI bits, vI n, vI b, vI mn, vI pw, vI k, v7, v8, v9], [], aq_h m s F (aq_u c (y + 22) k 0)) _
        generalize hdc_3 : aq_u c (y + 22) k 0 = c_3
        have sc_3 := aq_smu hs hdc_3 (mo_Sk (by decide) (by decide))
        have hobc_3 := mo_ku hob hdc_3 (Or.inl (by omega))
        refine ae_iinc rfl rfl (am_ri (by omega) (by omega)) ?_
        show am_E _ (192, [vR y, vI bits, vI n, vI b, vI mn, vI pw, vI (k + 1), v7, v8, v9], [], aq_h m s F c_3) _
        refine am_E.go (t2 := (159, [vR y, vI bits, vI n, vI b, vI mn, vI pw, vI (k + 1), v7, v8, v9], [], aq_h m s F c_3)) rfl rfl ?_
        exact qm_addState_1 ⟨hm, hFo, hG5, hG6, hG7, hG8, hG9, hG10, hG11, hG12, hG13, hG14, hG15, hG16, hG17, hG18, hG19, hG20, hG21, hG22, hG23⟩ ⟨hT1, hTt⟩ ⟨hr0, hr1, hr2, hr3, hr4⟩ d b mn pw (k + 1) (v7) (v8) (v9) c_3 sc_3 (by omega) (by omega) (by omega) hobc_3 (by omega)
      · refine am_E.go (t2 := (184, [vR y, vI bits, vI n, vI b, vI mn, vI pw, vI k, v7, v8, v9], [vI 1, vI k, vR (y + 22)], aq_h m s F c)) rfl rfl ?_
        refine am_E.go (t2 := (188, [vR y, vI bits, vI n, vI b, vI mn, vI pw, vI k, v7, v8, v9], [vI 1, vI k, vR (y + 22)], aq_h m s F c)) rfl rfl ?_
        refine aq_as (kd := 0) rfl rfl (by omega) hG22 (by omega) (by omega) rfl rfl ?_
        show am_E _ (189, [vR y, vI bits, vI n, vI b, vI mn, vI pw, vI k, v7, v8, v9], [], aq_h m s F (aq_u c (y + 22) k 1)) _
        generalize hdc_4 : aq_u c (y + 22) k 1 = c_4
        have sc_4 := aq_smu hs hdc_4 (mo_Sk (by decide) (by decide))
        have hobc_4 := mo_ku hob hdc_4 (Or.inl (by omega))
        refine ae_iinc rfl rfl (am_ri (by omega) (by omega)) ?_
        show am_E _ (192, [vR y, vI bits, vI n, vI b, vI mn, vI pw, vI (k + 1), v7, v8, v9], [], aq_h m s F c_4) _
        refine am_E.go (t2 := (159, [vR y, vI bits, vI n, vI b, vI mn, vI pw, vI (k + 1), v7, v8, v9], [], aq_h m s F c_4)) rfl rfl ?_
        exact qm_addState_1 ⟨hm, hFo, hG5, hG6, hG7, hG8, hG9, hG10, hG11, hG12, hG13, hG14, hG15, hG16, hG17, hG18, hG19, hG20, hG21, hG22, hG23⟩ ⟨hT1, hTt⟩ ⟨hr0, hr1, hr2, hr3, hr4⟩ d b mn pw (k + 1) (v7) (v8) (v9) c_4 sc_4 (by omega) (by omega) (by omega) hobc_4 (by omega)

theorem qm_addState_0 {m s : Nat} {F : aq_F} {c0 : aq_C} {y : Nat} (hO : mo_0 m F y) {tbl : Int → Int} (hT : mo_T F y tbl) (hr : mo_r y c0) {bits n : Int} (hn : n = c0 y 9) : ∀ (d : Nat) (b : Int) (mn : Int) (pw : Int) (k : Int) (v7 : am_V) (v8 : am_V) (v9 : am_V) (c : aq_C) (hs : aq_sm (mo_S y) c0 c) (h0 : 0 ≤ k) (h1 : k ≤ c0 y 10) (h2 : 0 ≤ b) (h3 : b < bx_K n) (h4 : 0 ≤ mn) (h5 : mn ≤ 4 * k) (hob : mo_k y c0 c) (hd : c0 y 10 - k < (d : Int)), am_E ac_X5_addState (21, [vR y, vI bits, vI n, vI b, vI mn, vI pw, vI k, v7, v8, v9], [], aq_h m s F c) (aq_Z m s F (mo_S y) c0 (fun r d => r = none ∧ mo_k y c0 d))
  | 0, b, mn, pw, k, v7, v8, v9, c, hs, h0, h1, h2, h3, h4, h5, hob, hd => by exfalso; omega
  | d + 1, b, mn, pw, k, v7, v8, v9, c, hs, h0, h1, h2, h3, h4, h5, hob, hd => by
    obtain ⟨hm, hFo, hG5, hG6, hG7, hG8, hG9, hG10, hG11, hG12, hG13, hG14, hG15, hG16, hG17, hG18, hG19, hG20, hG21, hG22, hG23⟩ := hO
    obtain ⟨hT1, hTt⟩ := hT
    obtain ⟨hr0, hr1, hr2, hr3, hr4⟩ := hr
    refine am_E.go (t2 := (23, [vR y, vI bits, vI n, vI b, vI mn, vI pw, vI k, v7, v8, v9], [vI k], aq_h m s F c)) rfl rfl ?_
    refine am_E.go (t2 := (24, [vR y, vI bits, vI n, vI b, vI mn, vI pw, vI k, v7, v8, v9], [vR y, vI k], aq_h m s F c)) rfl rfl ?_
    refine aq_gf (v := vI (c y 10)) rfl (by omega) hFo (by decide) rfl ?_
    show am_E _ (27, [vR y, vI bits, vI n, vI b, vI mn, vI pw, vI k, v7, v8, v9], [vI (c y 10), vI k], aq_h m s F c) _
    have f_1 := (hob).2.1
    refine ae_icmp rfl (fun (q_2 : (c y 10) ≤ k) => ?_) (fun (q_2 : k < (c y 10)) => ?_)
    · refine am_E.go (t2 := (147, [vR y, vI bits, vI n, vI b, vI mn, vI pw, vI k, v7, v8, v9], [vI mn], aq_h m s F c)) rfl rfl ?_
      refine am_E.go (t2 := (148, [vR y, vI bits, vI n, vI b, vI mn, vI pw, vI k, v7, v8, v9], [vR y, vI mn], aq_h m s F c)) rfl rfl ?_
      refine am_E.go (t2 := (149, [vR y, vI bits, vI n, vI b, vI mn, vI pw, vI k, v7, v8, v9], [vI n, vR y, vI mn], aq_h m s F c)) rfl rfl ?_
      refine am_E.go (t2 := (150, [vR y, vI bits, vI n, vI b, vI mn, vI pw, vI k, v7, v8, v9], [vI b, vI n, vR y, vI mn], aq_h m s F c)) rfl rfl ?_
      refine aq_callv (y := 3) (as2 := [vI n, vI b]) (rest := [vI mn]) rfl rfl (by decide) (Nat.le_of_ble_eq_true rfl) rfl rfl (Nat.le_of_ble_eq_true rfl) (by omega) hFo rfl (Nat.le_of_ble_eq_true rfl) (qm_rings (S := fun a => a = y + 13) ⟨hm, hFo, hG5, hG6, hG7, hG8, hG9, hG10, hG11, hG12, hG13, hG14, hG15, hG16, hG17, hG18, hG19, hG20, hG21, hG22, hG23⟩ rfl ⟨hT1, hTt⟩ (by omega) (by omega) (by omega) (by omega)) ?_
      rintro r5 h5 ⟨c_3, rfl, sc_3, vc_3, rfl, hvc_3⟩
      show am_E _ (153, [vR y, vI bits, vI n, vI b, vI mn, vI pw, vI k, v7, v8, v9], [vI vc_3, vI mn], aq_h m s F c_3) _
      refine ae_add rfl (am_ri (by omega) (by omega)) ?_
      show am_E _ (154, [vR y, vI bits, vI n, vI b, vI mn, vI pw, vI k, v7, v8, v9], [vI (mn + vc_3)], aq_h m s F c_3) _
      refine am_E.go (t2 := (156, [vR y, vI bits, vI n, vI b, vI (mn + vc_3), vI pw, vI k, v7, v8, v9], [], aq_h m s F c_3)) rfl rfl ?_
      refine am_E.go (t2 := (157, [vR y, vI bits, vI n, vI b, vI (mn + vc_3), vI pw, vI k, v7, v8, v9], [vI 0], aq_h m s F c_3)) rfl rfl ?_
      refine am_E.go (t2 := (159, [vR y, vI bits, vI n, vI b, vI (mn + vc_3), vI pw, vI 0, v7, v8, v9], [], aq_h m s F c_3)) rfl rfl ?_
      exact qm_addState_1 ⟨hm, hFo, hG5, hG6, hG7, hG8, hG9, hG10, hG11, hG12, hG13, hG14, hG15, hG16, hG17, hG18, hG19, hG20, hG21, hG22, hG23⟩ ⟨hT1, hTt⟩ ⟨hr0, hr1, hr2, hr3, hr4⟩ 203 b (mn + vc_3) pw 0 (v7) (v8) (v9) c_3 (aq_smt hs (aq_smi sc_3 (fun a h => by unfold mo_S; omega))) (by omega) (by omega) (by omega) (mo_ks hob sc_3 (by omega)) (by omega)
    · refine am_E.go (t2 := (31, [vR y, vI bits, vI n, vI b, vI mn, vI pw, vI k, v7, v8, v9], [vI bits], aq_h m s F c)) rfl rfl ?_
      refine am_E.go (t2 := (33, [vR y, vI bits, vI n, vI b, vI mn, vI pw, vI k, v7, v8, v9], [vI k, vI bits], aq_h m s F c)) rfl rfl ?_
      refine am_E.go (t2 := (34, [vR y, vI bits, vI n, vI b, vI mn, vI pw, vI k, v7, v8, v9], [vI (am_shri bits k)], aq_h m s F c)) rfl rfl ?_
      refine am_E.go (t2 := (35, [vR y, vI bits, vI n, vI b, vI mn, vI pw, vI k, v7, v8, v9], [vI 1, vI (am_shri bits k)], aq_h m s F c)) rfl rfl ?_
      refine am_E.go (t2 := (36, [vR y, vI bits, vI n, vI b, vI mn, vI pw, vI k, v7, v8, v9], [vI (am_and (am_shri bits k) 1)], aq_h m s F c)) rfl rfl ?_
      refine am_E.go (t2 := (37, [vR y, vI bits, vI n, vI b, vI mn, vI pw, vI k, v7, v8, v9], [vI 1, vI (am_and (am_shri bits k) 1)], aq_h m s F c)) rfl rfl ?_
      refine ae_icmp rfl (fun (q_4 : (am_and (am_shri bits k) 1) ≠ 1) => ?_) (fun (q_4 : (am_and (am_shri bits k) 1) = 1) => ?_)
      · refine am_E.go (t2 := (45, [vR y, vI bits, vI n, vI b, vI mn, vI pw, vI k, v7, v8, v9], [vI 0], aq_h m s F c)) rfl rfl ?_
        refine am_E.go (t2 := (47, [vR y, vI bits, vI n, vI b, vI mn, vI pw, vI k, vI 0, v8, v9], [], aq_h m s F c)) rfl rfl ?_
        refine am_E.go (t2 := (48, [vR y, vI bits, vI n, vI b, vI mn, vI pw, vI k, vI 0, v8, v9], [vR y], aq_h m s F c)) rfl rfl ?_
        refine aq_gf (v := vR (y + 10)) rfl (by omega) hFo (by decide) rfl ?_
        show am_E _ (51, [vR y, vI bits, vI n, vI b, vI mn, vI pw, vI k, vI 0, v8, v9], [vR (y + 10)], aq_h m s F c) _
        refine am_E.go (t2 := (53, [vR y, vI bits, vI n, vI b, vI mn, vI pw, vI k, vI 0, v8, v9], [vI k, vR (y + 10)], aq_h m s F c)) rfl rfl ?_
        refine aq_al (ok := fun k => k == 0) (v := vI (c (y + 10) k)) rfl rfl (by omega) hG10 rfl (by omega) (by omega) rfl ?_
        show am_E _ (54, [vR y, vI bits, vI n, vI b, vI mn, vI pw, vI k, vI 0, v8, v9], [vI (c (y + 10) k)], aq_h m s F c) _
        have f_5 := hs (y + 10) (mo_n (by decide) (by decide)) k
        have f_5b := hr4 k (by omega) (by omega)
        refine ae_if0 rfl (fun (q_6 : 0 ≤ (c (y + 10) k)) => ?_) (fun (q_6 : (c (y + 10) k) < 0) => ?_)
        · refine am_E.go (t2 := (69, [vR y, vI bits, vI n, vI b, vI mn, vI pw, vI k, vI 0, v8, v9], [vR y], aq_h m s F c)) rfl rfl ?_
          refine aq_gf (v := vR (y + 10)) rfl (by omega) hFo (by decide) rfl ?_
          show am_E _ (72, [vR y, vI bits, vI n, vI b, vI mn, vI pw, vI k, vI 0, v8, v9], [vR (y + 10)], aq_h m s F c) _
          refine am_E.go (t2 := (74, [vR y, vI bits, vI n, vI b, vI mn, vI pw, vI k, vI 0, v8, v9], [vI k, vR (y + 10)], aq_h m s F c)) rfl rfl ?_
          refine aq_al (ok := fun k => k == 0) (v := vI (c (y + 10) k)) rfl rfl (by omega) hG10 rfl (by omega) (by omega) rfl ?_
          show am_E _ (75, [vR y, vI bits, vI n, vI b, vI mn, vI pw, vI k, vI 0, v8, v9], [vI (c (y + 10) k)], aq_h m s F c) _
          have f_7 := hs (y + 10) (mo_n (by decide) (by decide)) k
          have f_7b := hr4 k (by omega) (by omega)
          refine am_E.go (t2 := (77, [vR y, vI bits, vI n, vI b, vI mn, vI pw, vI k, vI 0, vI (c (y + 10) k), v9], [], aq_h m s F c)) rfl rfl ?_
          refine am_E.go (t2 := (79, [vR y, vI bits, vI n, vI b, vI mn, vI pw, vI k, vI 0, vI (c (y + 10) k), v9], [vI pw], aq_h m s F c)) rfl rfl ?_
          refine am_E.go (t2 := (81, [vR y, vI bits, vI n, vI b, vI mn, vI pw, vI k, vI 0, vI (c (y + 10) k), v9], [vI 0, vI pw], aq_h m s F c)) rfl rfl ?_
          refine am_E.go (t2 := (82, [vR y, vI bits, vI n, vI b, vI mn, vI pw, vI k, vI 0, vI (c (y + 10) k), v9], [vR y, vI 0, vI pw], aq_h m s F c)) rfl rfl ?_
          refine aq_gf (v := vR (y + 10)) rfl (by omega) hFo (by decide) rfl ?_
          show am_E _ (85, [vR y, vI bits, vI n, vI b, vI mn, vI pw, vI k, vI 0, vI (c (y + 10) k), v9], [vR (y + 10), vI 0, vI pw], aq_h m s F c) _
          refine am_E.go (t2 := (87, [vR y, vI bits, vI n, vI b, vI mn, vI pw, vI k, vI 0, vI (c (y + 10) k), v9], [vI k, vR (y + 10), vI 0, vI pw], aq_h m s F c)) rfl rfl ?_
          refine aq_al (ok := fun k => k == 0) (v := vI (c (y + 10) k)) rfl rfl (by omega) hG10 rfl (by omega) (by omega) rfl ?_
          show am_E _ (88, [vR y, vI bits, vI n, vI b, vI mn, vI pw, vI k, vI 0, vI (c (y + 10) k), v9], [vI (c (y + 10) k), vI 0, vI pw], aq_h m s F c) _
          have f_8 := hs (y + 10) (mo_n (by decide) (by decide)) k
          have f_8b := hr4 k (by omega) (by omega)
          refine ae_if0 rfl (fun (q_9 : 0 ≤ (c (y + 10) k)) => ?_) (fun (q_9 : (c (y + 10) k) < 0) => ?_)
          · refine am_E.go (t2 := (96, [vR y, vI bits, vI n, vI b, vI mn, vI pw, vI k, vI 0, vI (c (y + 10) k), v9], [vI 0, vI 0, vI pw], aq_h m s F c)) rfl rfl ?_
            refine am_E.go (t2 := (99, [vR y, vI bits, vI n, vI b, vI mn, vI pw, vI k, vI 0, vI (c (y + 10) k), v9], [vI pw], aq_h m s F c)) rfl rfl ?_
            refine am_E.go (t2 := (100, [vR y, vI bits, vI n, vI b, vI mn, vI pw, vI k, vI 0, vI (c (y + 10) k), v9], [vI 1, vI pw], aq_h m s F c)) rfl rfl ?_
            refine am_E.go (t2 := (104, [vR y, vI bits, vI n, vI b, vI mn, vI pw, vI k, vI 0, vI (c (y + 10) k), v9], [vI 1, vI pw], aq_h m s F c)) rfl rfl ?_
            refine am_E.go (t2 := (105, [vR y, vI bits, vI n, vI b, vI mn, vI pw, vI k, vI 0, vI (c (y + 10) k), v9], [vI (am_w (pw + 1))], aq_h m s F c)) rfl rfl ?_
            refine am_E.go (t2 := (107, [vR y, vI bits, vI n, vI b, vI mn, vI (am_w (pw + 1)), vI k, vI 0, vI (c (y + 10) k), v9], [], aq_h m s F c)) rfl rfl ?_
            refine am_E.go (t2 := (109, [vR y, vI bits, vI n, vI b, vI mn, vI (am_w (pw + 1)), vI k, vI 0, vI (c (y + 10) k), v9], [vI 0], aq_h m s F c)) rfl rfl ?_
            refine am_E.go (t2 := (139, [vR y, vI bits, vI n, vI b, vI mn, vI (am_w (pw + 1)), vI k, vI 0, vI (c (y + 10) k), v9], [], aq_h m s F c)) rfl rfl ?_
            refine ae_iinc rfl rfl (am_ri (by omega) (by omega)) ?_
            show am_E _ (142, [vR y, vI bits, vI n, vI b, vI mn, vI (am_w (pw + 1)), vI (k + 1), vI 0, vI (c (y + 10) k), v9], [], aq_h m s F c) _
            refine am_E.go (t2 := (21, [vR y, vI bits, vI n, vI b, vI mn, vI (am_w (pw + 1)), vI (k + 1), vI 0, vI (c (y + 10) k), v9], [], aq_h m s F c)) rfl rfl ?_
            exact qm_addState_0 ⟨hm, hFo, hG5, hG6, hG7, hG8, hG9, hG10, hG11, hG12, hG13, hG14, hG15, hG16, hG17, hG18, hG19, hG20, hG21, hG22, hG23⟩ ⟨hT1, hTt⟩ ⟨hr0, hr1, hr2, hr3, hr4⟩ hn d b mn (am_w (pw + 1)) (k + 1) (vI 0) (vI (c (y + 10) k)) (v9) c hs (by omega) (by omega) (by omega) (by omega) (by omega) (by omega) hob (by omega)
          · refine am_E.go (t2 := (92, [vR y, vI bits, vI n, vI b, vI mn, vI pw, vI k, vI 0, vI (c (y + 10) k), v9], [vI 1, vI 0, vI pw], aq_h m s F c)) rfl rfl ?_
            refine am_E.go (t2 := (96, [vR y, vI bits, vI n, vI b, vI mn, vI pw, vI k, vI 0, vI (c (y + 10) k), v9], [vI 1, vI 0, vI pw], aq_h m s F c)) rfl rfl ?_
            refine am_E.go (t2 := (103, [vR y, vI bits, vI n, vI b, vI mn, vI pw, vI k, vI 0, vI (c (y + 10) k), v9], [vI pw], aq_h m s F c)) rfl rfl ?_
            refine am_E.go (t2 := (104, [vR y, vI bits, vI n, vI b, vI mn, vI pw, vI k, vI 0, vI (c (y + 10) k), v9], [vI (-1), vI pw], aq_h m s F c)) rfl rfl ?_
            refine am_E.go (t2 := (105, [vR y, vI bits, vI n, vI b, vI mn, vI pw, vI k, vI 0, vI (c (y + 10) k), v9], [vI (am_w (pw + (-1)))], aq_h m s F c)) rfl rfl ?_
            refine am_E.go (t2 := (107, [vR y, vI bits, vI n, vI b, vI mn, vI (am_w (pw + (-1))), vI k, vI 0, vI (c (y + 10) k), v9], [], aq_h m s F c)) rfl rfl ?_
            refine am_E.go (t2 := (109, [vR y, vI bits, vI n, vI b, vI mn, vI (am_w (pw + (-1))), vI k, vI 0, vI (c (y + 10) k), v9], [vI 0], aq_h m s F c)) rfl rfl ?_
            refine am_E.go (t2 := (139, [vR y, vI bits, vI n, vI b, vI mn, vI (am_w (pw + (-1))), vI k, vI 0, vI (c (y + 10) k), v9], [], aq_h m s F c)) rfl rfl ?_
            refine ae_iinc rfl rfl (am_ri (by omega) (by omega)) ?_
            show am_E _ (142, [vR y, vI bits, vI n, vI b, vI mn, vI (am_w (pw + (-1))), vI (k + 1), vI 0, vI (c (y + 10) k), v9], [], aq_h m s F c) _
            refine am_E.go (t2 := (21, [vR y, vI bits, vI n, vI b, vI mn, vI (am_w (pw + (-1))), vI (k + 1), vI 0, vI (c (y + 10) k), v9], [], aq_h m s F c)) rfl rfl ?_
            exact qm_addState_0 ⟨hm, hFo, hG5, hG6, hG7, hG8, hG9, hG10, hG11, hG12, hG13, hG14, hG15, hG16, hG17, hG18, hG19, hG20, hG21, hG22, hG23⟩ ⟨hT1, hTt⟩ ⟨hr0, hr1, hr2, hr3, hr4⟩ hn d b mn (am_w (pw + (-1))) (k + 1) (vI 0) (vI (c (y + 10) k)) (v9) c hs (by omega) (by omega) (by omega) (by omega) (by omega) (by omega) hob (by omega)
        · refine am_E.go (t2 := (58, [vR y, vI bits, vI n, vI b, vI mn, vI pw, vI k, vI 0, v8, v9], [vR y], aq_h m s F c)) rfl rfl ?_
          refine aq_gf (v := vR (y + 10)) rfl (by omega) hFo (by decide) rfl ?_
          show am_E _ (61, [vR y, vI bits, vI n, vI b, vI mn, vI pw, vI k, vI 0, v8, v9], [vR (y + 10)], aq_h m s F c) _
          refine am_E.go (t2 := (63, [vR y, vI bits, vI n, vI b, vI mn, vI pw, vI k, vI 0, v8, v9], [vI k, vR (y + 10)], aq_h m s F c)) rfl rfl ?_
          refine aq_al (ok := fun k => k == 0) (v := vI (c (y + 10) k)) rfl rfl (by omega) hG10 rfl (by omega) (by omega) rfl ?_
          show am_E _ (64, [vR y, vI bits, vI n, vI b, vI mn, vI pw, vI k, vI 0, v8, v9], [vI (c (y + 10) k)], aq_h m s F c) _
          have f_10 := hs (y + 10) (mo_n (by decide) (by decide)) k
          have f_10b := hr4 k (by omega) (by omega)
          refine ae_neg rfl (am_ri (by omega) (by omega)) ?_
          show am_E _ (65, [vR y, vI bits, vI n, vI b, vI mn, vI pw, vI k, vI 0, v8, v9], [vI (-(c (y + 10) k))], aq_h m s F c) _
          refine am_E.go (t2 := (75, [vR y, vI bits, vI n, vI b, vI mn, vI pw, vI k, vI 0, v8, v9], [vI (-(c (y + 10) k))], aq_h m s F c)) rfl rfl ?_
          refine am_E.go (t2 := (77, [vR y, vI bits, vI n, vI b, vI mn, vI pw, vI k, vI 0, vI (-(c (y + 10) k)), v9], [], aq_h m s F c)) rfl rfl ?_
          refine am_E.go (t2 := (79, [vR y, vI bits, vI n, vI b, vI mn, vI pw, vI k, vI 0, vI (-(c (y + 10) k)), v9], [vI pw], aq_h m s F c)) rfl rfl ?_
          refine am_E.go (t2 := (81, [vR y, vI bits, vI n, vI b, vI mn, vI pw, vI k, vI 0, vI (-(c (y + 10) k)), v9], [vI 0, vI pw], aq_h m s F c)) rfl rfl ?_
          refine am_E.go (t2 := (82, [vR y, vI bits, vI n, vI b, vI mn, vI pw, vI k, vI 0, vI (-(c (y + 10) k)), v9], [vR y, vI 0, vI pw], aq_h m s F c)) rfl rfl ?_
          refine aq_gf (v := vR (y + 10)) rfl (by omega) hFo (by decide) rfl ?_
          show am_E _ (85, [vR y, vI bits, vI n, vI b, vI mn, vI pw, vI k, vI 0, vI (-(c (y + 10) k)), v9], [vR (y + 10), vI 0, vI pw], aq_h m s F c) _
          refine am_E.go (t2 := (87, [vR y, vI bits, vI n, vI b, vI mn, vI pw, vI k, vI 0, vI (-(c (y + 10) k)), v9], [vI k, vR (y + 10), vI 0, vI pw], aq_h m s F c)) rfl rfl ?_
          refine aq_al (ok := fun k => k == 0) (v := vI (c (y + 10) k)) rfl rfl (by omega) hG10 rfl (by omega) (by omega) rfl ?_
          show am_E _ (88, [vR y, vI bits, vI n, vI b, vI mn, vI pw, vI k, vI 0, vI (-(c (y + 10) k)), v9], [vI (c (y + 10) k), vI 0, vI pw], aq_h m s F c) _
          have f_11 := hs (y + 10) (mo_n (by decide) (by decide)) k
          have f_11b := hr4 k (by omega) (by omega)
          refine ae_if0 rfl (fun (q_12 : 0 ≤ (c (y + 10) k)) => ?_) (fun (q_12 : (c (y + 10) k) < 0) => ?_)
          · refine am_E.go (t2 := (96, [vR y, vI bits, vI n, vI b, vI mn, vI pw, vI k, vI 0, vI (-(c (y + 10) k)), v9], [vI 0, vI 0, vI pw], aq_h m s F c)) rfl rfl ?_
            refine am_E.go (t2 := (99, [vR y, vI bits, vI n, vI b, vI mn, vI pw, vI k, vI 0, vI (-(c (y + 10) k)), v9], [vI pw], aq_h m s F c)) rfl rfl ?_
            refine am_E.go (t2 := (100, [vR y, vI bits, vI n, vI b, vI mn, vI pw, vI k, vI 0, vI (-(c (y + 10) k)), v9], [vI 1, vI pw], aq_h m s F c)) rfl rfl ?_
            refine am_E.go (t2 := (104, [vR y, vI bits, vI n, vI b, vI mn, vI pw, vI k, vI 0, vI (-(c (y + 10) k)), v9], [vI 1, vI pw], aq_h m s F c)) rfl rfl ?_
            refine am_E.go (t2 := (105, [vR y, vI bits, vI n, vI b, vI mn, vI pw, vI k, vI 0, vI (-(c (y + 10) k)), v9], [vI (am_w (pw + 1))], aq_h m s F c)) rfl rfl ?_
            refine am_E.go (t2 := (107, [vR y, vI bits, vI n, vI b, vI mn, vI (am_w (pw + 1)), vI k, vI 0, vI (-(c (y + 10) k)), v9], [], aq_h m s F c)) rfl rfl ?_
            refine am_E.go (t2 := (109, [vR y, vI bits, vI n, vI b, vI mn, vI (am_w (pw + 1)), vI k, vI 0, vI (-(c (y + 10) k)), v9], [vI 0], aq_h m s F c)) rfl rfl ?_
            refine am_E.go (t2 := (139, [vR y, vI bits, vI n, vI b, vI mn, vI (am_w (pw + 1)), vI k, vI 0, vI (-(c (y + 10) k)), v9], [], aq_h m s F c)) rfl rfl ?_
            refine ae_iinc rfl rfl (am_ri (by omega) (by omega)) ?_
            show am_E _ (142, [vR y, vI bits, vI n, vI b, vI mn, vI (am_w (pw + 1)), vI (k + 1), vI 0, vI (-(c (y + 10) k)), v9], [], aq_h m s F c) _
            refine am_E.go (t2 := (21, [vR y, vI bits, vI n, vI b, vI mn, vI (am_w (pw + 1)), vI (k + 1), vI 0, vI (-(c (y + 10) k)), v9], [], aq_h m s F c)) rfl rfl ?_
            exact qm_addState_0 ⟨hm, hFo, hG5, hG6, hG7, hG8, hG9, hG10, hG11, hG12, hG13, hG14, hG15, hG16, hG17, hG18, hG19, hG20, hG21, hG22, hG23⟩ ⟨hT1, hTt⟩ ⟨hr0, hr1, hr2, hr3, hr4⟩ hn d b mn (am_w (pw + 1)) (k + 1) (vI 0) (vI (-(c (y + 10) k))) (v9) c hs (by omega) (by omega) (by omega) (by omega) (by omega) (by omega) hob (by omega)
          · refine am_E.go (t2 := (92, [vR y, vI bits, vI n, vI b, vI mn, vI pw, vI k, vI 0, vI (-(c (y + 10) k)), v9], [vI 1, vI 0, vI pw], aq_h m s F c)) rfl rfl ?_
            refine am_E.go (t2 := (96, [vR y, vI bits, vI n, vI b, vI mn, vI pw, vI k, vI 0, vI (-(c (y + 10) k)), v9], [vI 1, vI 0, vI pw], aq_h m s F c)) rfl rfl ?_
            refine am_E.go (t2 := (103, [vR y, vI bits, vI n, vI b, vI mn, vI pw, vI k, vI 0, vI (-(c (y + 10) k)), v9], [vI pw], aq_h m s F c)) rfl rfl ?_
            refine am_E.go (t2 := (104, [vR y, vI bits, vI n, vI b, vI mn, vI pw, vI k, vI 0, vI (-(c (y + 10) k)), v9], [vI (-1), vI pw], aq_h m s F c)) rfl rfl ?_
            refine am_E.go (t2 := (105, [vR y, vI bits, vI n, vI b, vI mn, vI pw, vI k, vI 0, vI (-(c (y + 10) k)), v9], [vI (am_w (pw + (-1)))], aq_h m s F c)) rfl rfl ?_
            refine am_E.go (t2 := (107, [vR y, vI bits, vI n, vI b, vI mn, vI (am_w (pw + (-1))), vI k, vI 0, vI (-(c (y + 10) k)), v9], [], aq_h m s F c)) rfl rfl ?_
            refine am_E.go (t2 := (109, [vR y, vI bits, vI n, vI b, vI mn, vI (am_w (pw + (-1))), vI k, vI 0, vI (-(c (y + 10) k)), v9], [vI 0], aq_h m s F c)) rfl rfl ?_
            refine am_E.go (t2 := (139, [vR y, vI bits, vI n, vI b, vI mn, vI (am_w (pw + (-1))), vI k, vI 0, vI (-(c (y + 10) k)), v9], [], aq_h m s F c)) rfl rfl ?_
            refine ae_iinc rfl rfl (am_ri (by omega) (by omega)) ?_
            show am_E _ (142, [vR y, vI bits, vI n, vI b, vI mn, vI (am_w (pw + (-1))), vI (k + 1), vI 0, vI (-(c (y + 10) k)), v9], [], aq_h m s F c) _
            refine am_E.go (t2 := (21, [vR y, vI bits, vI n, vI b, vI mn, vI (am_w (pw + (-1))), vI (k + 1), vI 0, vI (-(c (y + 10) k)), v9], [], aq_h m s F c)) rfl rfl ?_
            exact qm_addState_0 ⟨hm, hFo, hG5, hG6, hG7, hG8, hG9, hG10, hG11, hG12, hG13, hG14, hG15, hG16, hG17, hG18, hG19, hG20, hG21, hG22, hG23⟩ ⟨hT1, hTt⟩ ⟨hr0, hr1, hr2, hr3, hr4⟩ hn d b mn (am_w (pw + (-1))) (k + 1) (vI 0) (vI (-(c (y + 10) k))) (v9) c hs (by omega) (by omega) (by omega) (by omega) (by omega) (by omega) hob (by omega)
      · refine am_E.go (t2 := (41, [vR y, vI bits, vI n, vI b, vI mn, vI pw, vI k, v7, v8, v9], [vI 1], aq_h m s F c)) rfl rfl ?_
        refine am_E.go (t2 := (45, [vR y, vI bits, vI n, vI b, vI mn, vI pw, vI k, v7, v8, v9], [vI 1], aq_h m s F c)) rfl rfl ?_
        refine am_E.go (t2 := (47, [vR y, vI bits, vI n, vI b, vI mn, vI pw, vI k, vI 1, v8, v9], [], aq_h m s F c)) rfl rfl ?_
        refine am_E.go (t2 := (48, [vR y, vI bits, vI n, vI b, vI mn, vI pw, vI k, vI 1, v8, v9], [vR y], aq_h m s F c)) rfl rfl ?_
        refine aq_gf (v := vR (y + 10)) rfl (by omega) hFo (by decide) rfl ?_
        show am_E _ (51, [vR y, vI bits, vI n, vI b, vI mn, vI pw, vI k, vI 1, v8, v9], [vR (y + 10)], aq_h m s F c) _
        refine am_E.go (t2 := (53, [vR y, vI bits, vI n, vI b, vI mn, vI pw, vI k, vI 1, v8, v9], [vI k, vR (y + 10)], aq_h m s F c)) rfl rfl ?_
        refine aq_al (ok := fun k => k == 0) (v := vI (c (y + 10) k)) rfl rfl (by omega) hG10 rfl (by omega) (by omega) rfl ?_
        show am_E _ (54, [vR y, vI bits, vI n, vI b, vI mn, vI pw, vI k, vI 1, v8, v9], [vI (c (y + 10) k)], aq_h m s F c) _
        have f_13 := hs (y + 10) (mo_n (by decide) (by decide)) k
        have f_13b := hr4 k (by omega) (by omega)
        refine ae_if0 rfl (fun (q_14 : 0 ≤ (c (y + 10) k)) => ?_) (fun (q_14 : (c (y + 10) k) < 0) => ?_)
        · refine am_E.go (t2 := (69, [vR y, vI bits, vI n, vI b, vI mn, vI pw, vI k, vI 1, v8, v9], [vR y], aq_h m s F c)) rfl rfl ?_
          refine aq_gf (v := vR (y + 10)) rfl (by omega) hFo (by decide) rfl ?_
          show am_E _ (72, [vR y, vI bits, vI n, vI b, vI mn, vI pw, vI k, vI 1, v8, v9], [vR (y + 10)], aq_h m s F c) _
          refine am_E.go (t2 := (74, [vR y, vI bits, vI n, vI b, vI mn, vI pw, vI k, vI 1, v8, v9], [vI k, vR (y + 10)], aq_h m s F c)) rfl rfl ?_
          refine aq_al (ok := fun k => k == 0) (v := vI (c (y + 10) k)) rfl rfl (by omega) hG10 rfl (by omega) (by omega) rfl ?_
          show am_E _ (75, [vR y, vI bits, vI n, vI b, vI mn, vI pw, vI k, vI 1, v8, v9], [vI (c (y + 10) k)], aq_h m s F c) _
          have f_15 := hs (y + 10) (mo_n (by decide) (by decide)) k
          have f_15b := hr4 k (by omega) (by omega)
          refine am_E.go (t2 := (77, [vR y, vI bits, vI n, vI b, vI mn, vI pw, vI k, vI 1, vI (c (y + 10) k), v9], [], aq_h m s F c)) rfl rfl ?_
          refine am_E.go (t2 := (79, [vR y, vI bits, vI n, vI b, vI mn, vI pw, vI k, vI 1, vI (c (y + 10) k), v9], [vI pw], aq_h m s F c)) rfl rfl ?_
          refine am_E.go (t2 := (81, [vR y, vI bits, vI n, vI b, vI mn, vI pw, vI k, vI 1, vI (c (y + 10) k), v9], [vI 1, vI pw], aq_h m s F c)) rfl rfl ?_
          refine am_E.go (t2 := (82, [vR y, vI bits, vI n, vI b, vI mn, vI pw, vI k, vI 1, vI (c (y + 10) k), v9], [vR y, vI 1, vI pw], aq_h m s F c)) rfl rfl ?_
          refine aq_gf (v := vR (y + 10)) rfl (by omega) hFo (by decide) rfl ?_
          show am_E _ (85, [vR y, vI bits, vI n, vI b, vI mn, vI pw, vI k, vI 1, vI (c (y + 10) k), v9], [vR (y + 10), vI 1, vI pw], aq_h m s F c) _
          refine am_E.go (t2 := (87, [vR y, vI bits, vI n, vI b, vI mn, vI pw, vI k, vI 1, vI (c (y + 10) k), v9], [vI k, vR (y + 10), vI 1, vI pw], aq_h m s F c)) rfl rfl ?_
          refine aq_al (ok := fun k => k == 0) (v := vI (c (y + 10) k)) rfl rfl (by omega) hG10 rfl (by omega) (by omega) rfl ?_
          show am_E _ (88, [vR y, vI bits, vI n, vI b, vI mn, vI pw, vI k, vI 1, vI (c (y + 10) k), v9], [vI (c (y + 10) k), vI 1, vI pw], aq_h m s F c) _
          have f_16 := hs (y + 10) (mo_n (by decide) (by decide)) k
          have f_16b := hr4 k (by omega) (by omega)
          refine ae_if0 rfl (fun (q_17 : 0 ≤ (c (y + 10) k)) => ?_) (fun (q_17 : (c (y + 10) k) < 0) => ?_)
          · refine am_E.go (t2 := (96, [vR y, vI bits, vI n, vI b, vI mn, vI pw, vI k, vI 1, vI (c (y + 10) k), v9], [vI 0, vI 1, vI pw], aq_h m s F c)) rfl rfl ?_
            refine am_E.go (t2 := (103, [vR y, vI bits, vI n, vI b, vI mn, vI pw, vI k, vI 1, vI (c (y + 10) k), v9], [vI pw], aq_h m s F c)) rfl rfl ?_
            refine am_E.go (t2 := (104, [vR y, vI bits, vI n, vI b, vI mn, vI pw, vI k, vI 1, vI (c (y + 10) k), v9], [vI (-1), vI pw], aq_h m s F c)) rfl rfl ?_
            refine am_E.go (t2 := (105, [vR y, vI bits, vI n, vI b, vI mn, vI pw, vI k, vI 1, vI (c (y + 10) k), v9], [vI (am_w (pw + (-1)))], aq_h m s F c)) rfl rfl ?_
            refine am_E.go (t2 := (107, [vR y, vI bits, vI n, vI b, vI mn, vI (am_w (pw + (-1))), vI k, vI 1, vI (c (y + 10) k), v9], [], aq_h m s F c)) rfl rfl ?_
            refine am_E.go (t2 := (109, [vR y, vI bits, vI n, vI b, vI mn, vI (am_w (pw + (-1))), vI k, vI 1, vI (c (y + 10) k), v9], [vI 1], aq_h m s F c)) rfl rfl ?_
            refine am_E.go (t2 := (112, [vR y, vI bits, vI n, vI b, vI mn, vI (am_w (pw + (-1))), vI k, vI 1, vI (c (y + 10) k), v9], [], aq_h m s F c)) rfl rfl ?_
            refine am_E.go (t2 := (113, [vR y, vI bits, vI n, vI b, vI mn, vI (am_w (pw + (-1))), vI k, vI 1, vI (c (y + 10) k), v9], [vR y], aq_h m s F c)) rfl rfl ?_
            refine am_E.go (t2 := (114, [vR y, vI bits, vI n, vI b, vI mn, vI (am_w (pw + (-1))), vI k, vI 1, vI (c (y + 10) k), v9], [vI n, vR y], aq_h m s F c)) rfl rfl ?_
            refine am_E.go (t2 := (116, [vR y, vI bits, vI n, vI b, vI mn, vI (am_w (pw + (-1))), vI k, vI 1, vI (c (y + 10) k), v9], [vI (c (y + 10) k), vI n, vR y], aq_h m s F c)) rfl rfl ?_
            refine aq_callv (y := 3) (as2 := [vI n, vI (c (y + 10) k)]) (rest := []) rfl rfl (by decide) (Nat.le_of_ble_eq_true rfl) rfl rfl (Nat.le_of_ble_eq_true rfl) (by omega) hFo rfl (Nat.le_of_ble_eq_true rfl) (qm_plainBox (S := fun a => a = y + 12) ⟨hm, hFo, hG5, hG6, hG7, hG8, hG9, hG10, hG11, hG12, hG13, hG14, hG15, hG16, hG17, hG18, hG19, hG20, hG21, hG22, hG23⟩ rfl ⟨hT1, hTt⟩ (by omega) (by omega) (by omega)) ?_
            rintro r5 h5 ⟨c_18, rfl, sc_18, vc_18, rfl, hv1c_18, hv2c_18, _⟩
            show am_E _ (119, [vR y, vI bits, vI n, vI b, vI mn, vI (am_w (pw + (-1))), vI k, vI 1, vI (c (y + 10) k), v9], [vI vc_18], aq_h m s F c_18) _
            refine am_E.go (t2 := (121, [vR y, vI bits, vI n, vI b, vI mn, vI (am_w (pw + (-1))), vI k, vI 1, vI (c (y + 10) k), vI vc_18], [], aq_h m s F c_18)) rfl rfl ?_
            refine am_E.go (t2 := (122, [vR y, vI bits, vI n, vI b, vI mn, vI (am_w (pw + (-1))), vI k, vI 1, vI (c (y + 10) k), vI vc_18], [vR y], aq_h m s F c_18)) rfl rfl ?_
            refine am_E.go (t2 := (123, [vR y, vI bits, vI n, vI b, vI mn, vI (am_w (pw + (-1))), vI k, vI 1, vI (c (y + 10) k), vI vc_18], [vI n, vR y], aq_h m s F c_18)) rfl rfl ?_
            refine am_E.go (t2 := (124, [vR y, vI bits, vI n, vI b, vI mn, vI (am_w (pw + (-1))), vI k, vI 1, vI (c (y + 10) k), vI vc_18], [vI b, vI n, vR y], aq_h m s F c_18)) rfl rfl ?_
            refine am_E.go (t2 := (126, [vR y, vI bits, vI n, vI b, vI mn, vI (am_w (pw + (-1))), vI k, vI 1, vI (c (y + 10) k), vI vc_18], [vI vc_18, vI b, vI n, vR y], aq_h m s F c_18)) rfl rfl ?_
            refine aq_callv (y := 4) (as2 := [vI n, vI b, vI vc_18]) (rest := []) rfl rfl (by decide) (Nat.le_of_ble_eq_true rfl) rfl rfl (Nat.le_of_ble_eq_true rfl) (by omega) hFo rfl (Nat.le_of_ble_eq_true rfl) (qm_stacked (S := fun a => a = y ∨ a = y + 12 ∨ a = y + 13) ⟨hm, hFo, hG5, hG6, hG7, hG8, hG9, hG10, hG11, hG12, hG13, hG14, hG15, hG16, hG17, hG18, hG19, hG20, hG21, hG22, hG23⟩ (Or.inl rfl) (Or.inr (Or.inl rfl)) (Or.inr (Or.inr rfl)) ⟨hT1, hTt⟩ (by omega) (by omega) (by omega) (by omega) (by omega) (by omega)) ?_
            rintro r5 h5 ⟨c_19, rfl, sc_19, vc_19, rfl, hv1c_19, hv2c_19, hr1c_19, hr2c_19, hkc_19, _⟩
            show am_E _ (129, [vR y, vI bits, vI n, vI b, vI mn, vI (am_w (pw + (-1))), vI k, vI 1, vI (c (y + 10) k), vI vc_18], [vI vc_19], aq_h m s F c_19) _
            refine am_E.go (t2 := (130, [vR y, vI bits, vI n, vI vc_19, vI mn, vI (am_w (pw + (-1))), vI k, vI 1, vI (c (y + 10) k), vI vc_18], [], aq_h m s F c_19)) rfl rfl ?_
            refine am_E.go (t2 := (132, [vR y, vI bits, vI n, vI vc_19, vI mn, vI (am_w (pw + (-1))), vI k, vI 1, vI (c (y + 10) k), vI vc_18], [vI mn], aq_h m s F c_19)) rfl rfl ?_
            refine am_E.go (t2 := (133, [vR y, vI bits, vI n, vI vc_19, vI mn, vI (am_w (pw + (-1))), vI k, vI 1, vI (c (y + 10) k), vI vc_18], [vR y, vI mn], aq_h m s F c_19)) rfl rfl ?_
            refine aq_gf (v := vI (c_19 y 15)) rfl (by omega) hFo (by decide) rfl ?_
            show am_E _ (136, [vR y, vI bits, vI n, vI vc_19, vI mn, vI (am_w (pw + (-1))), vI k, vI 1, vI (c (y + 10) k), vI vc_18], [vI (c_19 y 15), vI mn], aq_h m s F c_19) _
            skip
            refine ae_add rfl (am_ri (by omega) (by omega)) ?_
            show am_E _ (137, [vR y, vI bits, vI n, vI vc_19, vI mn, vI (am_w (pw + (-1))), vI k, vI 1, vI (c (y + 10) k), vI vc_18], [vI (mn + (c_19 y 15))], aq_h m s F c_19) _
            refine am_E.go (t2 := (139, [vR y, vI bits, vI n, vI vc_19, vI (mn + (c_19 y 15)), vI (am_w (pw + (-1))), vI k, vI 1, vI (c (y + 10) k), vI vc_18], [], aq_h m s F c_19)) rfl rfl ?_
            refine ae_iinc rfl rfl (am_ri (by omega) (by omega)) ?_
            show am_E _ (142, [vR y, vI bits, vI n, vI vc_19, vI (mn + (c_19 y 15)), vI (am_w (pw + (-1))), vI (k + 1), vI 1, vI (c (y + 10) k), vI vc_18], [], aq_h m s F c_19) _
            refine am_E.go (t2 := (21, [vR y, vI bits, vI n, vI vc_19, vI (mn + (c_19 y 15)), vI (am_w (pw + (-1))), vI (k + 1), vI 1, vI (c (y + 10) k), vI vc_18], [], aq_h m s F c_19)) rfl rfl ?_
            exact qm_addState_0 ⟨hm, hFo, hG5, hG6, hG7, hG8, hG9, hG10, hG11, hG12, hG13, hG14, hG15, hG16, hG17, hG18, hG19, hG20, hG21, hG22, hG23⟩ ⟨hT1, hTt⟩ ⟨hr0, hr1, hr2, hr3, hr4⟩ hn d vc_19 (mn + (c_19 y 15)) (am_w (pw + (-1))) (k + 1) (vI 1) (vI (c (y + 10) k)) (vI vc_18) c_19 (aq_smt (aq_smt hs (aq_smi sc_18 (fun a h => by unfold mo_S; omega))) (aq_smi sc_19 (fun a h => by unfold mo_S; omega))) (by omega) (by omega) (by omega) (by omega) (by omega) (by omega) (mo_kt (mo_ks hob sc_18 (by omega)) hkc_19) (by omega)
          · refine am_E.go (t2 := (92, [vR y, vI bits, vI n, vI b, vI mn, vI pw, vI k, vI 1, vI (c (y + 10) k), v9], [vI 1, vI 1, vI pw], aq_h m s F c)) rfl rfl ?_
            refine am_E.go (t2 := (96, [vR y, vI bits, vI n, vI b, vI mn, vI pw, vI k, vI 1, vI (c (y + 10) k), v9], [vI 1, vI 1, vI pw], aq_h m s F c)) rfl rfl ?_
            refine am_E.go (t2 := (99, [vR y, vI bits, vI n, vI b, vI mn, vI pw, vI k, vI 1, vI (c (y + 10) k), v9], [vI pw], aq_h m s F c)) rfl rfl ?_
            refine am_E.go (t2 := (100, [vR y, vI bits, vI n, vI b, vI mn, vI pw, vI k, vI 1, vI (c (y + 10) k), v9], [vI 1, vI pw], aq_h m s F c)) rfl rfl ?_
            refine am_E.go (t2 := (104, [vR y, vI bits, vI n, vI b, vI mn, vI pw, vI k, vI 1, vI (c (y + 10) k), v9], [vI 1, vI pw], aq_h m s F c)) rfl rfl ?_
            refine am_E.go (t2 := (105, [vR y, vI bits, vI n, vI b, vI mn, vI pw, vI k, vI 1, vI (c (y + 10) k), v9], [vI (am_w (pw + 1))], aq_h m s F c)) rfl rfl ?_
            refine am_E.go (t2 := (107, [vR y, vI bits, vI n, vI b, vI mn, vI (am_w (pw + 1)), vI k, vI 1, vI (c (y + 10) k), v9], [], aq_h m s F c)) rfl rfl ?_
            refine am_E.go (t2 := (109, [vR y, vI bits, vI n, vI b, vI mn, vI (am_w (pw + 1)), vI k, vI 1, vI (c (y + 10) k), v9], [vI 1], aq_h m s F c)) rfl rfl ?_
            refine am_E.go (t2 := (112, [vR y, vI bits, vI n, vI b, vI mn, vI (am_w (pw + 1)), vI k, vI 1, vI (c (y + 10) k), v9], [], aq_h m s F c)) rfl rfl ?_
            refine am_E.go (t2 := (113, [vR y, vI bits, vI n, vI b, vI mn, vI (am_w (pw + 1)), vI k, vI 1, vI (c (y + 10) k), v9], [vR y], aq_h m s F c)) rfl rfl ?_
            refine am_E.go (t2 := (114, [vR y, vI bits, vI n, vI b, vI mn, vI (am_w (pw + 1)), vI k, vI 1, vI (c (y + 10) k), v9], [vI n, vR y], aq_h m s F c)) rfl rfl ?_
            refine am_E.go (t2 := (116, [vR y, vI bits, vI n, vI b, vI mn, vI (am_w (pw + 1)), vI k, vI 1, vI (c (y + 10) k), v9], [vI (c (y + 10) k), vI n, vR y], aq_h m s F c)) rfl rfl ?_
            refine aq_callv (y := 3) (as2 := [vI n, vI (c (y + 10) k)]) (rest := []) rfl rfl (by decide) (Nat.le_of_ble_eq_true rfl) rfl rfl (Nat.le_of_ble_eq_true rfl) (by omega) hFo rfl (Nat.le_of_ble_eq_true rfl) (qm_plainBox (S := fun a => a = y + 12) ⟨hm, hFo, hG5, hG6, hG7, hG8, hG9, hG10, hG11, hG12, hG13, hG14, hG15, hG16, hG17, hG18, hG19, hG20, hG21, hG22, hG23⟩ rfl ⟨hT1, hTt⟩ (by omega) (by omega) (by omega)) ?_
            rintro r5 h5 ⟨c_21, rfl, sc_21, vc_21, rfl, hv1c_21, hv2c_21, _⟩
            show am_E _ (119, [vR y, vI bits, vI n, vI b, vI mn, vI (am_w (pw + 1)), vI k, vI 1, vI (c (y + 10) k), v9], [vI vc_21], aq_h m s F c_21) _
            refine am_E.go (t2 := (121, [vR y, vI bits, vI n, vI b, vI mn, vI (am_w (pw + 1)), vI k, vI 1, vI (c (y + 10) k), vI vc_21], [], aq_h m s F c_21)) rfl rfl ?_
            refine am_E.go (t2 := (122, [vR y, vI bits, vI n, vI b, vI mn, vI (am_w (pw + 1)), vI k, vI 1, vI (c (y + 10) k), vI vc_21], [vR y], aq_h m s F c_21)) rfl rfl ?_
            refine am_E.go (t2 := (123, [vR y, vI bits, vI n, vI b, vI mn, vI (am_w (pw + 1)), vI k, vI 1, vI (c (y + 10) k), vI vc_21], [vI n, vR y], aq_h m s F c_21)) rfl rfl ?_
            refine am_E.go (t2 := (124, [vR y, vI bits, vI n, vI b, vI mn, vI (am_w (pw + 1)), vI k, vI 1, vI (c (y + 10) k), vI vc_21], [vI b, vI n, vR y], aq_h m s F c_21)) rfl rfl ?_
            refine am_E.go (t2 := (126, [vR y, vI bits, vI n, vI b, vI mn, vI (am_w (pw + 1)), vI k, vI 1, vI (c (y + 10) k), vI vc_21], [vI vc_21, vI b, vI n, vR y], aq_h m s F c_21)) rfl rfl ?_
            refine aq_callv (y := 4) (as2 := [vI n, vI b, vI vc_21]) (rest := []) rfl rfl (by decide) (Nat.le_of_ble_eq_true rfl) rfl rfl (Nat.le_of_ble_eq_true rfl) (by omega) hFo rfl (Nat.le_of_ble_eq_true rfl) (qm_stacked (S := fun a => a = y ∨ a = y + 12 ∨ a = y + 13) ⟨hm, hFo, hG5, hG6, hG7, hG8, hG9, hG10, hG11, hG12, hG13, hG14, hG15, hG16, hG17, hG18, hG19, hG20, hG21, hG22, hG23⟩ (Or.inl rfl) (Or.inr (Or.inl rfl)) (Or.inr (Or.inr rfl)) ⟨hT1, hTt⟩ (by omega) (by omega) (by omega) (by omega) (by omega) (by omega)) ?_
            rintro r5 h5 ⟨c_22, rfl, sc_22, vc_22, rfl, hv1c_22, hv2c_22, hr1c_22, hr2c_22, hkc_22, _⟩
            show am_E _ (129, [vR y, vI bits, vI n, vI b, vI mn, vI (am_w (pw + 1)), vI k, vI 1, vI (c (y + 10) k), vI vc_21], [vI vc_22], aq_h m s F c_22) _
            refine am_E.go (t2 := (130, [vR y, vI bits, vI n, vI vc_22, vI mn, vI (am_w (pw + 1)), vI k, vI 1, vI (c (y + 10) k), vI vc_21], [], aq_h m s F c_22)) rfl rfl ?_
            refine am_E.go (t2 := (132, [vR y, vI bits, vI n, vI vc_22, vI mn, vI (am_w (pw + 1)), vI k, vI 1, vI (c (y + 10) k), vI vc_21], [vI mn], aq_h m s F c_22)) rfl rfl ?_
            refine am_E.go (t2 := (133, [vR y, vI bits, vI n, vI vc_22, vI mn, vI (am_w (pw + 1)), vI k, vI 1, vI (c (y + 10) k), vI vc_21], [vR y, vI mn], aq_h m s F c_22)) rfl rfl ?_
            refine aq_gf (v := vI (c_22 y 15)) rfl (by omega) hFo (by decide) rfl ?_
            show am_E _ (136, [vR y, vI bits, vI n, vI vc_22, vI mn, vI (am_w (pw + 1)), vI k, vI 1, vI (c (y + 10) k), vI vc_21], [vI (c_22 y 15), vI mn], aq_h m s F c_22) _
            skip
            refine ae_add rfl (am_ri (by omega) (by omega)) ?_
            show am_E _ (137, [vR y, vI bits, vI n, vI vc_22, vI mn, vI (am_w (pw + 1)), vI k, vI 1, vI (c (y + 10) k), vI vc_21], [vI (mn + (c_22 y 15))], aq_h m s F c_22) _
            refine am_E.go (t2 := (139, [vR y, vI bits, vI n, vI vc_22, vI (mn + (c_22 y 15)), vI (am_w (pw + 1)), vI k, vI 1, vI (c (y + 10) k), vI vc_21], [], aq_h m s F c_22)) rfl rfl ?_
            refine ae_iinc rfl rfl (am_ri (by omega) (by omega)) ?_
            show am_E _ (142, [vR y, vI bits, vI n, vI vc_22, vI (mn + (c_22 y 15)), vI (am_w (pw + 1)), vI (k + 1), vI 1, vI (c (y + 10) k), vI vc_21], [], aq_h m s F c_22) _
            refine am_E.go (t2 := (21, [vR y, vI bits, vI n, vI vc_22, vI (mn + (c_22 y 15)), vI (am_w (pw + 1)), vI (k + 1), vI 1, vI (c (y + 10) k), vI vc_21], [], aq_h m s F c_22)) rfl rfl ?_
            exact qm_addState_0 ⟨hm, hFo, hG5, hG6, hG7, hG8, hG9, hG10, hG11, hG12, hG13, hG14, hG15, hG16, hG17, hG18, hG19, hG20, hG21, hG22, hG23⟩ ⟨hT1, hTt⟩ ⟨hr0, hr1, hr2, hr3, hr4⟩ hn d vc_22 (mn + (c_22 y 15)) (am_w (pw + 1)) (k + 1) (vI 1) (vI (c (y + 10) k)) (vI vc_21) c_22 (aq_smt (aq_smt hs (aq_smi sc_21 (fun a h => by unfold mo_S; omega))) (aq_smi sc_22 (fun a h => by unfold mo_S; omega))) (by omega) (by omega) (by omega) (by omega) (by omega) (by omega) (mo_kt (mo_ks hob sc_21 (by omega)) hkc_22) (by omega)
        · refine am_E.go (t2 := (58, [vR y, vI bits, vI n, vI b, vI mn, vI pw, vI k, vI 1, v8, v9], [vR y], aq_h m s F c)) rfl rfl ?_
          refine aq_gf (v := vR (y + 10)) rfl (by omega) hFo (by decide) rfl ?_
          show am_E _ (61, [vR y, vI bits, vI n, vI b, vI mn, vI pw, vI k, vI 1, v8, v9], [vR (y + 10)], aq_h m s F c) _
          refine am_E.go (t2 := (63, [vR y, vI bits, vI n, vI b, vI mn, vI pw, vI k, vI 1, v8, v9], [vI k, vR (y + 10)], aq_h m s F c)) rfl rfl ?_
          refine aq_al (ok := fun k => k == 0) (v := vI (c (y + 10) k)) rfl rfl (by omega) hG10 rfl (by omega) (by omega) rfl ?_
          show am_E _ (64, [vR y, vI bits, vI n, vI b, vI mn, vI pw, vI k, vI 1, v8, v9], [vI (c (y + 10) k)], aq_h m s F c) _
          have f_24 := hs (y + 10) (mo_n (by decide) (by decide)) k
          have f_24b := hr4 k (by omega) (by omega)
          refine ae_neg rfl (am_ri (by omega) (by omega)) ?_
          show am_E _ (65, [vR y, vI bits, vI n, vI b, vI mn, vI pw, vI k, vI 1, v8, v9], [vI (-(c (y + 10) k))], aq_h m s F c) _
          refine am_E.go (t2 := (75, [vR y, vI bits, vI n, vI b, vI mn, vI pw, vI k, vI 1, v8, v9], [vI (-(c (y + 10) k))], aq_h m s F c)) rfl rfl ?_
          refine am_E.go (t2 := (77, [vR y, vI bits, vI n, vI b, vI mn, vI pw, vI k, vI 1, vI (-(c (y + 10) k)), v9], [], aq_h m s F c)) rfl rfl ?_
          refine am_E.go (t2 := (79, [vR y, vI bits, vI n, vI b, vI mn, vI pw, vI k, vI 1, vI (-(c (y + 10) k)), v9], [vI pw], aq_h m s F c)) rfl rfl ?_
          refine am_E.go (t2 := (81, [vR y, vI bits, vI n, vI b, vI mn, vI pw, vI k, vI 1, vI (-(c (y + 10) k)), v9], [vI 1, vI pw], aq_h m s F c)) rfl rfl ?_
          refine am_E.go (t2 := (82, [vR y, vI bits, vI n, vI b, vI mn, vI pw, vI k, vI 1, vI (-(c (y + 10) k)), v9], [vR y, vI 1, vI pw], aq_h m s F c)) rfl rfl ?_
          refine aq_gf (v := vR (y + 10)) rfl (by omega) hFo (by decide) rfl ?_
          show am_E _ (85, [vR y, vI bits, vI n, vI b, vI mn, vI pw, vI k, vI 1, vI (-(c (y + 10) k)), v9], [vR (y + 10), vI 1, vI pw], aq_h m s F c) _
          refine am_E.go (t2 := (87, [vR y, vI bits, vI n, vI b, vI mn, vI pw, vI k, vI 1, vI (-(c (y + 10) k)), v9], [vI k, vR (y + 10), vI 1, vI pw], aq_h m s F c)) rfl rfl ?_
          refine aq_al (ok := fun k => k == 0) (v := vI (c (y + 10) k)) rfl rfl (by omega) hG10 rfl (by omega) (by omega) rfl ?_
          show am_E _ (88, [vR y, vI bits, vI n, vI b, vI mn, vI pw, vI k, vI 1, vI (-(c (y + 10) k)), v9], [vI (c (y + 10) k), vI 1, vI pw], aq_h m s F c) _
          have f_25 := hs (y + 10) (mo_n (by decide) (by decide)) k
          have f_25b := hr4 k (by omega) (by omega)
          refine ae_if0 rfl (fun (q_26 : 0 ≤ (c (y + 10) k)) => ?_) (fun (q_26 : (c (y + 10) k) < 0) => ?_)
          · refine am_E.go (t2 := (96, [vR y, vI bits, vI n, vI b, vI mn, vI pw, vI k, vI 1, vI (-(c (y + 10) k)), v9], [vI 0, vI 1, vI pw], aq_h m s F c)) rfl rfl ?_
            refine am_E.go (t2 := (103, [vR y, vI bits, vI n, vI b, vI mn, vI pw, vI k, vI 1, vI (-(c (y + 10) k)), v9], [vI pw], aq_h m s F c)) rfl rfl ?_
            refine am_E.go (t2 := (104, [vR y, vI bits, vI n, vI b, vI mn, vI pw, vI k, vI 1, vI (-(c (y + 10) k)), v9], [vI (-1), vI pw], aq_h m s F c)) rfl rfl ?_
            refine am_E.go (t2 := (105, [vR y, vI bits, vI n, vI b, vI mn, vI pw, vI k, vI 1, vI (-(c (y + 10) k)), v9], [vI (am_w (pw + (-1)))], aq_h m s F c)) rfl rfl ?_
            refine am_E.go (t2 := (107, [vR y, vI bits, vI n, vI b, vI mn, vI (am_w (pw + (-1))), vI k, vI 1, vI (-(c (y + 10) k)), v9], [], aq_h m s F c)) rfl rfl ?_
            refine am_E.go (t2 := (109, [vR y, vI bits, vI n, vI b, vI mn, vI (am_w (pw + (-1))), vI k, vI 1, vI (-(c (y + 10) k)), v9], [vI 1], aq_h m s F c)) rfl rfl ?_
            refine am_E.go (t2 := (112, [vR y, vI bits, vI n, vI b, vI mn, vI (am_w (pw + (-1))), vI k, vI 1, vI (-(c (y + 10) k)), v9], [], aq_h m s F c)) rfl rfl ?_
            refine am_E.go (t2 := (113, [vR y, vI bits, vI n, vI b, vI mn, vI (am_w (pw + (-1))), vI k, vI 1, vI (-(c (y + 10) k)), v9], [vR y], aq_h m s F c)) rfl rfl ?_
            refine am_E.go (t2 := (114, [vR y, vI bits, vI n, vI b, vI mn, vI (am_w (pw + (-1))), vI k, vI 1, vI (-(c (y + 10) k)), v9], [vI n, vR y], aq_h m s F c)) rfl rfl ?_
            refine am_E.go (t2 := (116, [vR y, vI bits, vI n, vI b, vI mn, vI (am_w (pw + (-1))), vI k, vI 1, vI (-(c (y + 10) k)), v9], [vI (-(c (y + 10) k)), vI n, vR y], aq_h m s F c)) rfl rfl ?_
            refine aq_callv (y := 3) (as2 := [vI n, vI (-(c (y + 10) k))]) (rest := []) rfl rfl (by decide) (Nat.le_of_ble_eq_true rfl) rfl rfl (Nat.le_of_ble_eq_true rfl) (by omega) hFo rfl (Nat.le_of_ble_eq_true rfl) (qm_plainBox (S := fun a => a = y + 12) ⟨hm, hFo, hG5, hG6, hG7, hG8, hG9, hG10, hG11, hG12, hG13, hG14, hG15, hG16, hG17, hG18, hG19, hG20, hG21, hG22, hG23⟩ rfl ⟨hT1, hTt⟩ (by omega) (by omega) (by omega)) ?_
            rintro r5 h5 ⟨c_27, rfl, sc_27, vc_27, rfl, hv1c_27, hv2c_27, _⟩
            show am_E _ (119, [vR y, vI bits, vI n, vI b, vI mn, vI (am_w (pw + (-1))), vI k, vI 1, vI (-(c (y + 10) k)), v9], [vI vc_27], aq_h m s F c_27) _
            refine am_E.go (t2 := (121, [vR y, vI bits, vI n, vI b, vI mn, vI (am_w (pw + (-1))), vI k, vI 1, vI (-(c (y + 10) k)), vI vc_27], [], aq_h m s F c_27)) rfl rfl ?_
            refine am_E.go (t2 := (122, [vR y, vI bits, vI n, vI b, vI mn, vI (am_w (pw + (-1))), vI k, vI 1, vI (-(c (y + 10) k)), vI vc_27], [vR y], aq_h m s F c_27)) rfl rfl ?_
            refine am_E.go (t2 := (123, [vR y, vI bits, vI n, vI b, vI mn, vI (am_w (pw + (-1))), vI k, vI 1, vI (-(c (y + 10) k)), vI vc_27], [vI n, vR y], aq_h m s F c_27)) rfl rfl ?_
            refine am_E.go (t2 := (124, [vR y, vI bits, vI n, vI b, vI mn, vI (am_w (pw + (-1))), vI k, vI 1, vI (-(c (y + 10) k)), vI vc_27], [vI b, vI n, vR y], aq_h m s F c_27)) rfl rfl ?_
            refine am_E.go (t2 := (126, [vR y, vI bits, vI n, vI b, vI mn, vI (am_w (pw + (-1))), vI k, vI 1, vI (-(c (y + 10) k)), vI vc_27], [vI vc_27, vI b, vI n, vR y], aq_h m s F c_27)) rfl rfl ?_
            refine aq_callv (y := 4) (as2 := [vI n, vI b, vI vc_27]) (rest := []) rfl rfl (by decide) (Nat.le_of_ble_eq_true rfl) rfl rfl (Nat.le_of_ble_eq_true rfl) (by omega) hFo rfl (Nat.le_of_ble_eq_true rfl) (qm_stacked (S := fun a => a = y ∨ a = y + 12 ∨ a = y + 13) ⟨hm, hFo, hG5, hG6, hG7, hG8, hG9, hG10, hG11, hG12, hG13, hG14, hG15, hG16, hG17, hG18, hG19, hG20, hG21, hG22, hG23⟩ (Or.inl rfl) (Or.inr (Or.inl rfl)) (Or.inr (Or.inr rfl)) ⟨hT1, hTt⟩ (by omega) (by omega) (by omega) (by omega) (by omega) (by omega)) ?_
            rintro r5 h5 ⟨c_28, rfl, sc_28, vc_28, rfl, hv1c_28, hv2c_28, hr1c_28, hr2c_28, hkc_28, _⟩
            show am_E _ (129, [vR y, vI bits, vI n, vI b, vI mn, vI (am_w (pw + (-1))), vI k, vI 1, vI (-(c (y + 10) k)), vI vc_27], [vI vc_28], aq_h m s F c_28) _
            refine am_E.go (t2 := (130, [vR y, vI bits, vI n, vI vc_28, vI mn, vI (am_w (pw + (-1))), vI k, vI 1, vI (-(c (y + 10) k)), vI vc_27], [], aq_h m s F c_28)) rfl rfl ?_
            refine am_E.go (t2 := (132, [vR y, vI bits, vI n, vI vc_28, vI mn, vI (am_w (pw + (-1))), vI k, vI 1, vI (-(c (y + 10) k)), vI vc_27], [vI mn], aq_h m s F c_28)) rfl rfl ?_
            refine am_E.go (t2 := (133, [vR y, vI bits, vI n, vI vc_28, vI mn, vI (am_w (pw + (-1))), vI k, vI 1, vI (-(c (y + 10) k)), vI vc_27], [vR y, vI mn], aq_h m s F c_28)) rfl rfl ?_
            refine aq_gf (v := vI (c_28 y 15)) rfl (by omega) hFo (by decide) rfl ?_
            show am_E _ (136, [vR y, vI bits, vI n, vI vc_28, vI mn, vI (am_w (pw + (-1))), vI k, vI 1, vI (-(c (y + 10) k)), vI vc_27], [vI (c_28 y 15), vI mn], aq_h m s F c_28) _
            skip
            refine ae_add rfl (am_ri (by omega) (by omega)) ?_
            show am_E _ (137, [vR y, vI bits, vI n, vI vc_28, vI mn, vI (am_w (pw + (-1))), vI k, vI 1, vI (-(c (y + 10) k)), vI vc_27], [vI (mn + (c_28 y 15))], aq_h m s F c_28) _
            refine am_E.go (t2 := (139, [vR y, vI bits, vI n, vI vc_28, vI (mn + (c_28 y 15)), vI (am_w (pw + (-1))), vI k, vI 1, vI (-(c (y + 10) k)), vI vc_27], [], aq_h m s F c_28)) rfl rfl ?_
            refine ae_iinc rfl rfl (am_ri (by omega) (by omega)) ?_
            show am_E _ (142, [vR y, vI bits, vI n, vI vc_28, vI (mn + (c_28 y 15)), vI (am_w (pw + (-1))), vI (k + 1), vI 1, vI (-(c (y + 10) k)), vI vc_27], [], aq_h m s F c_28) _
            refine am_E.go (t2 := (21, [vR y, vI bits, vI n, vI vc_28, vI (mn + (c_28 y 15)), vI (am_w (pw + (-1))), vI (k + 1), vI 1, vI (-(c (y + 10) k)), vI vc_27], [], aq_h m s F c_28)) rfl rfl ?_
            exact qm_addState_0 ⟨hm, hFo, hG5, hG6, hG7, hG8, hG9, hG10, hG11, hG12, hG13, hG14, hG15, hG16, hG17, hG18, hG19, hG20, hG21, hG22, hG23⟩ ⟨hT1, hTt⟩ ⟨hr0, hr1, hr2, hr3, hr4⟩ hn d vc_28 (mn + (c_28 y 15)) (am_w (pw + (-1))) (k + 1) (vI 1) (vI (-(c (y + 10) k))) (vI vc_27) c_28 (aq_smt (aq_smt hs (aq_smi sc_27 (fun a h => by unfold mo_S; omega))) (aq_smi sc_28 (fun a h => by unfold mo_S; omega))) (by omega) (by omega) (by omega) (by omega) (by omega) (by omega) (mo_kt (mo_ks hob sc_27 (by omega)) hkc_28) (by omega)
          · refine am_E.go (t2 := (92, [vR y, vI bits, vI n, vI b, vI mn, vI pw, vI k, vI 1, vI (-(c (y + 10) k)), v9], [vI 1, vI 1, vI pw], aq_h m s F c)) rfl rfl ?_
            refine am_E.go (t2 := (96, [vR y, vI bits, vI n, vI b, vI mn, vI pw, vI k, vI 1, vI (-(c (y + 10) k)), v9], [vI 1, vI 1, vI pw], aq_h m s F c)) rfl rfl ?_
            refine am_E.go (t2 := (99, [vR y, vI bits, vI n, vI b, vI mn, vI pw, vI k, vI 1, vI (-(c (y + 10) k)), v9], [vI pw], aq_h m s F c)) rfl rfl ?_
            refine am_E.go (t2 := (100, [vR y, vI bits, vI n, vI b, vI mn, vI pw, vI k, vI 1, vI (-(c (y + 10) k)), v9], [vI 1, vI pw], aq_h m s F c)) rfl rfl ?_
            refine am_E.go (t2 := (104, [vR y, vI bits, vI n, vI b, vI mn, vI pw, vI k, vI 1, vI (-(c (y + 10) k)), v9], [vI 1, vI pw], aq_h m s F c)) rfl rfl ?_
            refine am_E.go (t2 := (105, [vR y, vI bits, vI n, vI b, vI mn, vI pw, vI k, vI 1, vI (-(c (y + 10) k)), v9], [vI (am_w (pw + 1))], aq_h m s F c)) rfl rfl ?_
            refine am_E.go (t2 := (107, [vR y, vI bits, vI n, vI b, vI mn, vI (am_w (pw + 1)), vI k, vI 1, vI (-(c (y + 10) k)), v9], [], aq_h m s F c)) rfl rfl ?_
            refine am_E.go (t2 := (109, [vR y, vI bits, vI n, vI b, vI mn, vI (am_w (pw + 1)), vI k, vI 1, vI (-(c (y + 10) k)), v9], [vI 1], aq_h m s F c)) rfl rfl ?_
            refine am_E.go (t2 := (112, [vR y, vI bits, vI n, vI b, vI mn, vI (am_w (pw + 1)), vI k, vI 1, vI (-(c (y + 10) k)), v9], [], aq_h m s F c)) rfl rfl ?_
            refine am_E.go (t2 := (113, [vR y, vI bits, vI n, vI b, vI mn, vI (am_w (pw + 1)), vI k, vI 1, vI (-(c (y + 10) k)), v9], [vR y], aq_h m s F c)) rfl rfl ?_
            refine am_E.go (t2 := (114, [vR y, vI bits, vI n, vI b, vI mn, vI (am_w (pw + 1)), vI k, vI 1, vI (-(c (y + 10) k)), v9], [vI n, vR y], aq_h m s F c)) rfl rfl ?_
            refine am_E.go (t2 := (116, [vR y, vI bits, vI n, vI b, vI mn, vI (am_w (pw + 1)), vI k, vI 1, vI (-(c (y + 10) k)), v9], [vI (-(c (y + 10) k)), vI n, vR y], aq_h m s F c)) rfl rfl ?_
            refine aq_callv (y := 3) (as2 := [vI n, vI (-(c (y + 10) k))]) (rest := []) rfl rfl (by decide) (Nat.le_of_ble_eq_true rfl) rfl rfl (Nat.le_of_ble_eq_true rfl) (by omega) hFo rfl (Nat.le_of_ble_eq_true rfl) (qm_plainBox (S := fun a => a = y + 12) ⟨hm, hFo, hG5, hG6, hG7, hG8, hG9, hG10, hG11, hG12, hG13, hG14, hG15, hG16, hG17, hG18, hG19, hG20, hG21, hG22, hG23⟩ rfl ⟨hT1, hTt⟩ (by omega) (by omega) (by omega)) ?_
            rintro r5 h5 ⟨c_30, rfl, sc_30, vc_30, rfl, hv1c_30, hv2c_30, _⟩
            show am_E _ (119, [vR y, vI bits, vI n, vI b, vI mn, vI (am_w (pw + 1)), vI k, vI 1, vI (-(c (y + 10) k)), v9], [vI vc_30], aq_h m s F c_30) _
            refine am_E.go (t2 := (121, [vR y, vI bits, vI n, vI b, vI mn, vI (am_w (pw + 1)), vI k, vI 1, vI (-(c (y + 10) k)), vI vc_30], [], aq_h m s F c_30)) rfl rfl ?_
            refine am_E.go (t2 := (122, [vR y, vI bits, vI n, vI b, vI mn, vI (am_w (pw + 1)), vI k, vI 1, vI (-(c (y + 10) k)), vI vc_30], [vR y], aq_h m s F c_30)) rfl rfl ?_
            refine am_E.go (t2 := (123, [vR y, vI bits, vI n, vI b, vI mn, vI (am_w (pw + 1)), vI k, vI 1, vI (-(c (y + 10) k)), vI vc_30], [vI n, vR y], aq_h m s F c_30)) rfl rfl ?_
            refine am_E.go (t2 := (124, [vR y, vI bits, vI n, vI b, vI mn, vI (am_w (pw + 1)), vI k, vI 1, vI (-(c (y + 10) k)), vI vc_30], [vI b, vI n, vR y], aq_h m s F c_30)) rfl rfl ?_
            refine am_E.go (t2 := (126, [vR y, vI bits, vI n, vI b, vI mn, vI (am_w (pw + 1)), vI k, vI 1, vI (-(c (y + 10) k)), vI vc_30], [vI vc_30, vI b, vI n, vR y], aq_h m s F c_30)) rfl rfl ?_
            refine aq_callv (y := 4) (as2 := [vI n, vI b, vI vc_30]) (rest := []) rfl rfl (by decide) (Nat.le_of_ble_eq_true rfl) rfl rfl (Nat.le_of_ble_eq_true rfl) (by omega) hFo rfl (Nat.le_of_ble_eq_true rfl) (qm_stacked (S := fun a => a = y ∨ a = y + 12 ∨ a = y + 13) ⟨hm, hFo, hG5, hG6, hG7, hG8, hG9, hG10, hG11, hG12, hG13, hG14, hG15, hG16, hG17, hG18, hG19, hG20, hG21, hG22, hG23⟩ (Or.inl rfl) (Or.inr (Or.inl rfl)) (Or.inr (Or.inr rfl)) ⟨hT1, hTt⟩ (by omega) (by omega) (by omega) (by omega) (by omega) (by omega)) ?_
            rintro r5 h5 ⟨c_31, rfl, sc_31, vc_31, rfl, hv1c_31, hv2c_31, hr1c_31, hr2c_31, hkc_31, _⟩
            show am_E _ (129, [vR y, vI bits, vI n, vI b, vI mn, vI (am_w (pw + 1)), vI k, vI 1, vI (-(c (y + 10) k)), vI vc_30], [vI vc_31], aq_h m s F c_31) _
            refine am_E.go (t2 := (130, [vR y, vI bits, vI n, vI vc_31, vI mn, vI (am_w (pw + 1)), vI k, vI 1, vI (-(c (y + 10) k)), vI vc_30], [], aq_h m s F c_31)) rfl rfl ?_
            refine am_E.go (t2 := (132, [vR y, vI bits, vI n, vI vc_31, vI mn, vI (am_w (pw + 1)), vI k, vI 1, vI (-(c (y + 10) k)), vI vc_30], [vI mn], aq_h m s F c_31)) rfl rfl ?_
            refine am_E.go (t2 := (133, [vR y, vI bits, vI n, vI vc_31, vI mn, vI (am_w (pw + 1)), vI k, vI 1, vI (-(c (y + 10) k)), vI vc_30], [vR y, vI mn], aq_h m s F c_31)) rfl rfl ?_
            refine aq_gf (v := vI (c_31 y 15)) rfl (by omega) hFo (by decide) rfl ?_
            show am_E _ (136, [vR y, vI bits, vI n, vI vc_31, vI mn, vI (am_w (pw + 1)), vI k, vI 1, vI (-(c (y + 10) k)), vI vc_30], [vI (c_31 y 15), vI mn], aq_h m s F c_31) _
            skip
            refine ae_add rfl (am_ri (by omega) (by omega)) ?_
            show am_E _ (137, [vR y, vI bits, vI n, vI vc_31, vI mn, vI (am_w (pw + 1)), vI k, vI 1, vI (-(c (y + 10) k)), vI vc_30], [vI (mn + (c_31 y 15))], aq_h m s F c_31) _
            refine am_E.go (t2 := (139, [vR y, vI bits, vI n, vI vc_31, vI (mn + (c_31 y 15)), vI (am_w (pw + 1)), vI k, vI 1, vI (-(c (y + 10) k)), vI vc_30], [], aq_h m s F c_31)) rfl rfl ?_
            refine ae_iinc rfl rfl (am_ri (by omega) (by omega)) ?_
            show am_E _ (142, [vR y, vI bits, vI n, vI vc_31, vI (mn + (c_31 y 15)), vI (am_w (pw + 1)), vI (k + 1), vI 1, vI (-(c (y + 10) k)), vI vc_30], [], aq_h m s F c_31) _
            refine am_E.go (t2 := (21, [vR y, vI bits, vI n, vI vc_31, vI (mn + (c_31 y 15)), vI (am_w (pw + 1)), vI (k + 1), vI 1, vI (-(c (y + 10) k)), vI vc_30], [], aq_h m s F c_31)) rfl rfl ?_
            exact qm_addState_0 ⟨hm, hFo, hG5, hG6, hG7, hG8, hG9, hG10, hG11, hG12, hG13, hG14, hG15, hG16, hG17, hG18, hG19, hG20, hG21, hG22, hG23⟩ ⟨hT1, hTt⟩ ⟨hr0, hr1, hr2, hr3, hr4⟩ hn d vc_31 (mn + (c_31 y 15)) (am_w (pw + 1)) (k + 1) (vI 1) (vI (-(c (y + 10) k))) (vI vc_30) c_31 (aq_smt (aq_smt hs (aq_smi sc_30 (fun a h => by unfold mo_S; omega))) (aq_smi sc_31 (fun a h => by unfold mo_S; omega))) (by omega) (by omega) (by omega) (by omega) (by omega) (by omega) (mo_kt (mo_ks hob sc_30 (by omega)) hkc_31) (by omega)

theorem qm_addState {m s : Nat} {F : aq_F} {c : aq_C} {y : Nat} (hO : mo_0 m F y) {tbl : Int → Int} (hT : mo_T F y tbl) (hr : mo_r y c) {bits : Int} : am_E ac_X5_addState (0, [vR y, vI bits, vU, vU, vU, vU, vU, vU, vU, vU], [], aq_h m s F c) (aq_Z m s F (mo_S y) c (fun r d => r = none ∧ mo_k y c d)) := by
  obtain ⟨hm, hFo, hG5, hG6, hG7, hG8, hG9, hG10, hG11, hG12, hG13, hG14, hG15, hG16, hG17, hG18, hG19, hG20, hG21, hG22, hG23⟩ := hO
  obtain ⟨hT1, hTt⟩ := hT
  obtain ⟨hr0, hr1, hr2, hr3, hr4⟩ := hr
  have hfs := mo_fs (c y 9)
  refine am_E.go (t2 := (1, [vR y, vI bits, vU, vU, vU, vU, vU, vU, vU, vU], [vR y], aq_h m s F c)) rfl rfl ?_
  refine aq_gf (v := vI (c y 9)) rfl (by omega) hFo (by decide) rfl ?_
  show am_E _ (4, [vR y, vI bits, vU, vU, vU, vU, vU, vU, vU, vU], [vI (c y 9)], aq_h m s F c) _
  have f_1 := ((mo_k0 (y := y) (c := c))).1
  refine am_E.go (t2 := (5, [vR y, vI bits, vI (c y 9), vU, vU, vU, vU, vU, vU, vU], [], aq_h m s F c)) rfl rfl ?_
  refine am_E.go (t2 := (6, [vR y, vI bits, vI (c y 9), vU, vU, vU, vU, vU, vU, vU], [vR y], aq_h m s F c)) rfl rfl ?_
  refine am_E.go (t2 := (7, [vR y, vI bits, vI (c y 9), vU, vU, vU, vU, vU, vU, vU], [vI (c y 9), vR y], aq_h m s F c)) rfl rfl ?_
  refine am_E.go (t2 := (8, [vR y, vI bits, vI (c y 9), vU, vU, vU, vU, vU, vU, vU], [vI 0, vI (c y 9), vR y], aq_h m s F c)) rfl rfl ?_
  refine aq_callv (y := 3) (as2 := [vI (c y 9), vI 0]) (rest := []) rfl rfl (by decide) (Nat.le_of_ble_eq_true rfl) rfl rfl (Nat.le_of_ble_eq_true rfl) (by omega) hFo rfl (Nat.le_of_ble_eq_true rfl) (qm_plainBox (S := fun a => a = y + 12) ⟨hm, hFo, hG5, hG6, hG7, hG8, hG9, hG10, hG11, hG12, hG13, hG14, hG15, hG16, hG17, hG18, hG19, hG20, hG21, hG22, hG23⟩ rfl ⟨hT1, hTt⟩ (by omega) (by omega) (by omega)) ?_
  rintro r5 h5 ⟨c_2, rfl, sc_2, vc_2, rfl, hv1c_2, hv2c_2, _⟩
  show am_E _ (11, [vR y, vI bits, vI (c y 9), vU, vU, vU, vU, vU, vU, vU], [vI vc_2], aq_h m s F c_2) _
  refine am_E.go (t2 := (12, [vR y, vI bits, vI (c y 9), vI vc_2, vU, vU, vU, vU, vU, vU], [], aq_h m s F c_2)) rfl rfl ?_
  refine am_E.go (t2 := (13, [vR y, vI bits, vI (c y 9), vI vc_2, vU, vU, vU, vU, vU, vU], [vI 0], aq_h m s F c_2)) rfl rfl ?_
  refine am_E.go (t2 := (15, [vR y, vI bits, vI (c y 9), vI vc_2, vI 0, vU, vU, vU, vU, vU], [], aq_h m s F c_2)) rfl rfl ?_
  refine am_E.go (t2 := (16, [vR y, vI bits, vI (c y 9), vI vc_2, vI 0, vU, vU, vU, vU, vU], [vI 0], aq_h m s F c_2)) rfl rfl ?_
  refine am_E.go (t2 := (18, [vR y, vI bits, vI (c y 9), vI vc_2, vI 0, vI 0, vU, vU, vU, vU], [], aq_h m s F c_2)) rfl rfl ?_
  refine am_E.go (t2 := (19, [vR y, vI bits, vI (c y 9), vI vc_2, vI 0, vI 0, vU, vU, vU, vU], [vI 0], aq_h m s F c_2)) rfl rfl ?_
  refine am_E.go (t2 := (21, [vR y, vI bits, vI (c y 9), vI vc_2, vI 0, vI 0, vI 0, vU, vU, vU], [], aq_h m s F c_2)) rfl rfl ?_
  exact qm_addState_0 ⟨hm, hFo, hG5, hG6, hG7, hG8, hG9, hG10, hG11, hG12, hG13, hG14, hG15, hG16, hG17, hG18, hG19, hG20, hG21, hG22, hG23⟩ ⟨hT1, hTt⟩ ⟨hr0, hr1, hr2, hr3, hr4⟩ rfl 9 vc_2 0 0 0 (vU) (vU) (vU) c_2 (aq_smt (aq_sm0 (c := c) (S := mo_S y)) (aq_smi sc_2 (fun a h => by unfold mo_S; omega))) (by omega) (by omega) (by omega) (by omega) (by omega) (by omega) (mo_ks (mo_k0 (y := y) (c := c)) sc_2 (by omega)) (by omega)
