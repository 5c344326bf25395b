/-! The reference: halves, half, form, free. Printed by wip/p20/sx/gMO13.py. -/

theorem hv_Nb (n t : Int) : 0 ≤ hv_N n t ∧ hv_N n t ≤ 6 := by
  unfold hv_N hv_l
  (repeat' split) <;> decide

theorem qm_formOf {m s : Nat} {F : aq_F} {c : aq_C} {y : Nat} (hO : mo_0 m F y) {n t i j : Int} (hn1 : 1 ≤ n) (hn4 : n ≤ 4) (ht0 : 0 ≤ t) (ht1 : t ≤ n) (hi0 : 0 ≤ i) (hi1 : i < hv_N n t) (hj0 : 0 ≤ j) (hj1 : j < hv_N n t) (hA : ∀ p, 0 ≤ p → p < n → c (y + 18) p = hv_d n t i p) (hB : ∀ p, 0 ≤ p → p < n → c (y + 19) p = hv_d n t j p) : am_E ac_X5_formOf (0, [vR y, vI n, vU, vU, vU, vU, vU], [], aq_h m s F c) (aq_Z m s F (fun a => a = y + 13) c (fun r _ => ∃ v, r = some (vI v) ∧ -4 ≤ v ∧ v ≤ 4)) := by
  have h : n = 1 ∨ n = 2 ∨ n = 3 ∨ n = 4 := by omega
  rcases h with h | h | h | h <;> subst h
  · have h : t = 0 ∨ t = 1 := by omega
    rcases h with h | h <;> subst h
    · have hN : hv_N 1 0 = 0 := rfl
      exfalso; omega
    · have hN : hv_N 1 1 = 1 := rfl
      have hi : i = 0 := by omega
      have hj : j = 0 := by omega
      subst hi
      subst hj
      exact (qm_fo_1100 hO (hA 0 (by decide) (by decide)) (hB 0 (by decide) (by decide))).imp (fun r h2 ⟨d, e1, e2, e3⟩ => ⟨d, e1, e2, 0, e3, by decide, by decide⟩)
  · have h : t = 0 ∨ t = 1 ∨ t = 2 := by omega
    rcases h with h | h | h <;> subst h
    · have hN : hv_N 2 0 = 1 := rfl
      have hi : i = 0 := by omega
      have hj : j = 0 := by omega
      subst hi
      subst hj
      exact (qm_fo_2000 hO (hA 0 (by decide) (by decide)) (hA 1 (by decide) (by decide)) (hB 0 (by decide) (by decide)) (hB 1 (by decide) (by decide))).imp (fun r h2 ⟨d, e1, e2, e3⟩ => ⟨d, e1, e2, 1, e3, by decide, by decide⟩)
    · have hN : hv_N 2 1 = 0 := rfl
      exfalso; omega
    · have hN : hv_N 2 2 = 1 := rfl
      have hi : i = 0 := by omega
      have hj : j = 0 := by omega
      subst hi
      subst hj
      exact (qm_fo_2200 hO (hA 0 (by decide) (by decide)) (hA 1 (by decide) (by decide)) (hB 0 (by decide) (by decide)) (hB 1 (by decide) (by decide))).imp (fun r h2 ⟨d, e1, e2, e3⟩ => ⟨d, e1, e2, 0, e3, by decide, by decide⟩)
  · have h : t = 0 ∨ t = 1 ∨ t = 2 ∨ t = 3 := by omega
    rcases h with h | h | h | h <;> subst h
    · have hN : hv_N 3 0 = 0 := rfl
      exfalso; omega
    · have hN : hv_N 3 1 = 2 := rfl
      have hi : i = 0 ∨ i = 1 := by omega
      have hj : j = 0 ∨ j = 1 := by omega
      rcases hi with hi | hi <;> rcases hj with hj | hj <;> subst hi <;> subst hj
      · exact (qm_fo_3100 hO (hA 0 (by decide) (by decide)) (hA 1 (by decide) (by decide)) (hA 2 (by decide) (by decide)) (hB 0 (by decide) (by decide)) (hB 1 (by decide) (by decide)) (hB 2 (by decide) (by decide))).imp (fun r h2 ⟨d, e1, e2, e3⟩ => ⟨d, e1, e2, 1, e3, by decide, by decide⟩)
      · exact (qm_fo_3101 hO (hA 0 (by decide) (by decide)) (hA 1 (by decide) (by decide)) (hA 2 (by decide) (by decide)) (hB 0 (by decide) (by decide)) (hB 1 (by decide) (by decide)) (hB 2 (by decide) (by decide))).imp (fun r h2 ⟨d, e1, e2, e3⟩ => ⟨d, e1, e2, 0, e3, by decide, by decide⟩)
      · exact (qm_fo_3110 hO (hA 0 (by decide) (by decide)) (hA 1 (by decide) (by decide)) (hA 2 (by decide) (by decide)) (hB 0 (by decide) (by decide)) (hB 1 (by decide) (by decide)) (hB 2 (by decide) (by decide))).imp (fun r h2 ⟨d, e1, e2, e3⟩ => ⟨d, e1, e2, 0, e3, by decide, by decide⟩)
      · exact (qm_fo_3111 hO (hA 0 (by decide) (by decide)) (hA 1 (by decide) (by decide)) (hA 2 (by decide) (by decide)) (hB 0 (by decide) (by decide)) (hB 1 (by decide) (by decide)) (hB 2 (by decide) (by decide))).imp (fun r h2 ⟨d, e1, e2, e3⟩ => ⟨d, e1, e2, 1, e3, by decide, by decide⟩)
    · have hN : hv_N 3 2 = 0 := rfl
      exfalso; omega
    · have hN : hv_N 3 3 = 1 := rfl
      have hi : i = 0 := by omega
      have hj : j = 0 := by omega
      subst hi
      subst hj
      exact (qm_fo_3300 hO (hA 0 (by decide) (by decide)) (hA 1 (by decide) (by decide)) (hA 2 (by decide) (by decide)) (hB 0 (by decide) (by decide)) (hB 1 (by decide) (by decide)) (hB 2 (by decide) (by decide))).imp (fun r h2 ⟨d, e1, e2, e3⟩ => ⟨d, e1, e2, 0, e3, by decide, by decide⟩)
  · have h : t = 0 ∨ t = 1 ∨ t = 2 ∨ t = 3 ∨ t = 4 := by omega
    rcases h with h | h | h | h | h <;> subst h
    · have hN : hv_N 4 0 = 2 := rfl
      have hi : i = 0 ∨ i = 1 := by omega
      have hj : j = 0 ∨ j = 1 := by omega
      rcases hi with hi | hi <;> rcases hj with hj | hj <;> subst hi <;> subst hj
      · exact (qm_fo_4000 hO (hA 0 (by decide) (by decide)) (hA 1 (by decide) (by decide)) (hA 2 (by decide) (by decide)) (hA 3 (by decide) (by decide)) (hB 0 (by decide) (by decide)) (hB 1 (by decide) (by decide)) (hB 2 (by decide) (by decide)) (hB 3 (by decide) (by decide))).imp (fun r h2 ⟨d, e1, e2, e3⟩ => ⟨d, e1, e2, 2, e3, by decide, by decide⟩)
      · exact (qm_fo_4001 hO (hA 0 (by decide) (by decide)) (hA 1 (by decide) (by decide)) (hA 2 (by decide) (by decide)) (hA 3 (by decide) (by decide)) (hB 0 (by decide) (by decide)) (hB 1 (by decide) (by decide)) (hB 2 (by decide) (by decide)) (hB 3 (by decide) (by decide))).imp (fun r h2 ⟨d, e1, e2, e3⟩ => ⟨d, e1, e2, 1, e3, by decide, by decide⟩)
      · exact (qm_fo_4010 hO (hA 0 (by decide) (by decide)) (hA 1 (by decide) (by decide)) (hA 2 (by decide) (by decide)) (hA 3 (by decide) (by decide)) (hB 0 (by decide) (by decide)) (hB 1 (by decide) (by decide)) (hB 2 (by decide) (by decide)) (hB 3 (by decide) (by decide))).imp (fun r h2 ⟨d, e1, e2, e3⟩ => ⟨d, e1, e2, 1, e3, by decide, by decide⟩)
      · exact (qm_fo_4011 hO (hA 0 (by decide) (by decide)) (hA 1 (by decide) (by decide)) (hA 2 (by decide) (by decide)) (hA 3 (by decide) (by decide)) (hB 0 (by decide) (by decide)) (hB 1 (by decide) (by decide)) (hB 2 (by decide) (by decide)) (hB 3 (by decide) (by decide))).imp (fun r h2 ⟨d, e1, e2, e3⟩ => ⟨d, e1, e2, 2, e3, by decide, by decide⟩)
    · have hN : hv_N 4 1 = 0 := rfl
      exfalso; omega
    · have hN : hv_N 4 2 = 3 := rfl
      have hi : i = 0 ∨ i = 1 ∨ i = 2 := by omega
      have hj : j = 0 ∨ j = 1 ∨ j = 2 := by omega
      rcases hi with hi | hi | hi <;> rcases hj with hj | hj | hj <;> subst hi <;> subst hj
      · exact (qm_fo_4200 hO (hA 0 (by decide) (by decide)) (hA 1 (by decide) (by decide)) (hA 2 (by decide) (by decide)) (hA 3 (by decide) (by decide)) (hB 0 (by decide) (by decide)) (hB 1 (by decide) (by decide)) (hB 2 (by decide) (by decide)) (hB 3 (by decide) (by decide))).imp (fun r h2 ⟨d, e1, e2, e3⟩ => ⟨d, e1, e2, 1, e3, by decide, by decide⟩)
      · exact (qm_fo_4201 hO (hA 0 (by decide) (by decide)) (hA 1 (by decide) (by decide)) (hA 2 (by decide) (by decide)) (hA 3 (by decide) (by decide)) (hB 0 (by decide) (by decide)) (hB 1 (by decide) (by decide)) (hB 2 (by decide) (by decide)) (hB 3 (by decide) (by decide))).imp (fun r h2 ⟨d, e1, e2, e3⟩ => ⟨d, e1, e2, 0, e3, by decide, by decide⟩)
      · exact (qm_fo_4202 hO (hA 0 (by decide) (by decide)) (hA 1 (by decide) (by decide)) (hA 2 (by decide) (by decide)) (hA 3 (by decide) (by decide)) (hB 0 (by decide) (by decide)) (hB 1 (by decide) (by decide)) (hB 2 (by decide) (by decide)) (hB 3 (by decide) (by decide))).imp (fun r h2 ⟨d, e1, e2, e3⟩ => ⟨d, e1, e2, (-4), e3, by decide, by decide⟩)
      · exact (qm_fo_4210 hO (hA 0 (by decide) (by decide)) (hA 1 (by decide) (by decide)) (hA 2 (by decide) (by decide)) (hA 3 (by decide) (by decide)) (hB 0 (by decide) (by decide)) (hB 1 (by decide) (by decide)) (hB 2 (by decide) (by decide)) (hB 3 (by decide) (by decide))).imp (fun r h2 ⟨d, e1, e2, e3⟩ => ⟨d, e1, e2, 0, e3, by decide, by decide⟩)
      · exact (qm_fo_4211 hO (hA 0 (by decide) (by decide)) (hA 1 (by decide) (by decide)) (hA 2 (by decide) (by decide)) (hA 3 (by decide) (by decide)) (hB 0 (by decide) (by decide)) (hB 1 (by decide) (by decide)) (hB 2 (by decide) (by decide)) (hB 3 (by decide) (by decide))).imp (fun r h2 ⟨d, e1, e2, e3⟩ => ⟨d, e1, e2, 1, e3, by decide, by decide⟩)
      · exact (qm_fo_4212 hO (hA 0 (by decide) (by decide)) (hA 1 (by decide) (by decide)) (hA 2 (by decide) (by decide)) (hA 3 (by decide) (by decide)) (hB 0 (by decide) (by decide)) (hB 1 (by decide) (by decide)) (hB 2 (by decide) (by decide)) (hB 3 (by decide) (by decide))).imp (fun r h2 ⟨d, e1, e2, e3⟩ => ⟨d, e1, e2, 0, e3, by decide, by decide⟩)
      · exact (qm_fo_4220 hO (hA 0 (by decide) (by decide)) (hA 1 (by decide) (by decide)) (hA 2 (by decide) (by decide)) (hA 3 (by decide) (by decide)) (hB 0 (by decide) (by decide)) (hB 1 (by decide) (by decide)) (hB 2 (by decide) (by decide)) (hB 3 (by decide) (by decide))).imp (fun r h2 ⟨d, e1, e2, e3⟩ => ⟨d, e1, e2, (-4), e3, by decide, by decide⟩)
      · exact (qm_fo_4221 hO (hA 0 (by decide) (by decide)) (hA 1 (by decide) (by decide)) (hA 2 (by decide) (by decide)) (hA 3 (by decide) (by decide)) (hB 0 (by decide) (by decide)) (hB 1 (by decide) (by decide)) (hB 2 (by decide) (by decide)) (hB 3 (by decide) (by decide))).imp (fun r h2 ⟨d, e1, e2, e3⟩ => ⟨d, e1, e2, 0, e3, by decide, by decide⟩)
      · exact (qm_fo_4222 hO (hA 0 (by decide) (by decide)) (hA 1 (by decide) (by decide)) (hA 2 (by decide) (by decide)) (hA 3 (by decide) (by decide)) (hB 0 (by decide) (by decide)) (hB 1 (by decide) (by decide)) (hB 2 (by decide) (by decide)) (hB 3 (by decide) (by decide))).imp (fun r h2 ⟨d, e1, e2, e3⟩ => ⟨d, e1, e2, 1, e3, by decide, by decide⟩)
    · have hN : hv_N 4 3 = 0 := rfl
      exfalso; omega
    · have hN : hv_N 4 4 = 1 := rfl
      have hi : i = 0 := by omega
      have hj : j = 0 := by omega
      subst hi
      subst hj
      exact (qm_fo_4400 hO (hA 0 (by decide) (by decide)) (hA 1 (by decide) (by decide)) (hA 2 (by decide) (by decide)) (hA 3 (by decide) (by decide)) (hB 0 (by decide) (by decide)) (hB 1 (by decide) (by decide)) (hB 2 (by decide) (by decide)) (hB 3 (by decide) (by decide))).imp (fun r h2 ⟨d, e1, e2, e3⟩ => ⟨d, e1, e2, 0, e3, by decide, by decide⟩)

theorem qm_X5_halves {m s : Nat} {F : aq_F} {c : aq_C} {y : Nat} (hC : mo_C m F y) (hI : mo_I y c) {n t : Int} : am_E ac_X5_halves (0, [vR y, vI n, vI t], [], aq_h m s F c) (aq_Z m s F (fun a => y ≤ a ∧ a < y + 24) c (fun r d => aq_vi r ∧ mo_I y d)) := by
  obtain ⟨⟨hm, hFo, hG5, hG6, hG7, hG8, hG9, hG10, hG11, hG12, hG13, hG14, hG15, hG16, hG17, hG18, hG19, hG20, hG21, hG22, hG23⟩, ⟨tbl, hT1, hTt⟩, ⟨tA, tB, tD, hL1, hL2, hL3, hLt⟩⟩ := hC
  refine am_E.go (t2 := (1, [vR y, vI n, vI t], [vI n], aq_h m s F c)) rfl rfl ?_
  refine am_E.go (t2 := (2, [vR y, vI n, vI t], [vI t, vI n], aq_h m s F c)) rfl rfl ?_
  refine am_E.call rfl rfl rfl (Nat.le_of_ble_eq_true rfl) (qm_areHalves) ?_
  rintro r5 h5 ⟨rfl, v_1, rfl, hv_1⟩
  show am_E _ (5, [vR y, vI n, vI t], [vI v_1], aq_h m s F c) _
  refine ae_if0 rfl (fun (q_2 : v_1 = 0) => ?_) (fun (q_2 : v_1 ≠ 0) => ?_)
  · refine am_E.go (t2 := (23, [vR y, vI n, vI t], [vI (-1)], aq_h m s F c)) rfl rfl ?_
    refine am_E.ret rfl rfl ?_
    exact ⟨_, rfl, aq_smi (aq_sm0 (c := c) (S := mo_S y)) (fun a h => mo_Sa h), ⟨_, rfl⟩, mo_Ik hI (aq_sm0 (c := c) (S := mo_S y)) (mo_k0 (y := y) (c := c))⟩
  · refine am_E.go (t2 := (9, [vR y, vI n, vI t], [vR y], aq_h m s F c)) rfl rfl ?_
    refine am_E.go (t2 := (10, [vR y, vI n, vI t], [vI n, vR y], aq_h m s F c)) rfl rfl ?_
    refine am_E.go (t2 := (11, [vR y, vI n, vI t], [vI t, vI n, vR y], aq_h m s F c)) rfl rfl ?_
    refine am_E.go (t2 := (12, [vR y, vI n, vI t], [vI (-1), vI t, vI n, vR y], aq_h m s F c)) rfl rfl ?_
    refine am_E.go (t2 := (13, [vR y, vI n, vI t], [vR y, vI (-1), vI t, vI n, vR y], aq_h m s F c)) rfl rfl ?_
    refine aq_gf (v := vR (y + 18)) rfl (by omega) hFo (by decide) rfl ?_
    show am_E _ (16, [vR y, vI n, vI t], [vR (y + 18), vI (-1), vI t, vI n, vR y], aq_h m s F c) _
    refine aq_callv (y := 5) (as2 := [vI n, vI t, vI (-1), vR (y + 18)]) (rest := []) rfl rfl (by decide) (Nat.le_of_ble_eq_true rfl) rfl rfl (Nat.le_of_ble_eq_true rfl) (by omega) hFo rfl (Nat.le_of_ble_eq_true rfl) (qm_lay (y := y) (a := y + 18) (by omega) hFo (by omega) hG18 (n := n) (t := t) (by omega) (by omega) (by omega) (by omega) (Or.inl rfl)) ?_
    rintro r5 h5 ⟨c_3, rfl, sc_3, vc_3, rfl, hmc_3, hdc_3⟩
    show am_E _ (19, [vR y, vI n, vI t], [vI vc_3], aq_h m s F c_3) _
    have hm5 := hmc_3 rfl
    have hNb := hv_Nb n t
    refine am_E.go (t2 := (23, [vR y, vI n, vI t], [vI vc_3], aq_h m s F c_3)) rfl rfl ?_
    refine am_E.ret rfl rfl ?_
    exact ⟨_, rfl, aq_smi (aq_smt (aq_sm0 (c := c) (S := mo_S y)) (aq_smi sc_3 (fun a h => by unfold mo_S; omega))) (fun a h => mo_Sa h), ⟨_, rfl⟩, mo_Ik hI (aq_smt (aq_sm0 (c := c) (S := mo_S y)) (aq_smi sc_3 (fun a h => by unfold mo_S; omega))) (mo_ks (mo_k0 (y := y) (c := c)) sc_3 (by omega))⟩

theorem qm_X5_half {m s : Nat} {F : aq_F} {c : aq_C} {y : Nat} (hC : mo_C m F y) (hI : mo_I y c) {n t i p : Int} : am_E ac_X5_half (0, [vR y, vI n, vI t, vI i, vI p, vU], [], aq_h m s F c) (aq_Z m s F (fun a => y ≤ a ∧ a < y + 24) c (fun r d => aq_vi r ∧ mo_I y d)) := by
  obtain ⟨⟨hm, hFo, hG5, hG6, hG7, hG8, hG9, hG10, hG11, hG12, hG13, hG14, hG15, hG16, hG17, hG18, hG19, hG20, hG21, hG22, hG23⟩, ⟨tbl, hT1, hTt⟩, ⟨tA, tB, tD, hL1, hL2, hL3, hLt⟩⟩ := hC
  refine am_E.go (t2 := (1, [vR y, vI n, vI t, vI i, vI p, vU], [vI n], aq_h m s F c)) rfl rfl ?_
  refine am_E.go (t2 := (2, [vR y, vI n, vI t, vI i, vI p, vU], [vI t, vI n], aq_h m s F c)) rfl rfl ?_
  refine am_E.call rfl rfl rfl (Nat.le_of_ble_eq_true rfl) (qm_areHalves) ?_
  rintro r5 h5 ⟨rfl, v_1, rfl, hv_1⟩
  show am_E _ (5, [vR y, vI n, vI t, vI i, vI p, vU], [vI v_1], aq_h m s F c) _
  refine ae_if0 rfl (fun (q_2 : v_1 = 0) => ?_) (fun (q_2 : v_1 ≠ 0) => ?_)
  · refine am_E.go (t2 := (27, [vR y, vI n, vI t, vI i, vI p, vU], [vI (-1)], aq_h m s F c)) rfl rfl ?_
    refine am_E.ret rfl rfl ?_
    exact ⟨_, rfl, aq_smi (aq_sm0 (c := c) (S := mo_S y)) (fun a h => mo_Sa h), ⟨_, rfl⟩, mo_Ik hI (aq_sm0 (c := c) (S := mo_S y)) (mo_k0 (y := y) (c := c))⟩
  · refine am_E.go (t2 := (9, [vR y, vI n, vI t, vI i, vI p, vU], [vI i], aq_h m s F c)) rfl rfl ?_
    refine ae_if0 rfl (fun (q_3 : i < 0) => ?_) (fun (q_3 : 0 ≤ i) => ?_)
    · refine am_E.go (t2 := (27, [vR y, vI n, vI t, vI i, vI p, vU], [vI (-1)], aq_h m s F c)) rfl rfl ?_
      refine am_E.ret rfl rfl ?_
      exact ⟨_, rfl, aq_smi (aq_sm0 (c := c) (S := mo_S y)) (fun a h => mo_Sa h), ⟨_, rfl⟩, mo_Ik hI (aq_sm0 (c := c) (S := mo_S y)) (mo_k0 (y := y) (c := c))⟩
    · refine am_E.go (t2 := (14, [vR y, vI n, vI t, vI i, vI p, vU], [vI p], aq_h m s F c)) rfl rfl ?_
      refine am_E.go (t2 := (15, [vR y, vI n, vI t, vI i, vI p, vU], [vL p], aq_h m s F c)) rfl rfl ?_
      refine am_E.go (t2 := (16, [vR y, vI n, vI t, vI i, vI p, vU], [vL 0, vL p], aq_h m s F c)) rfl rfl ?_
      refine am_E.go (t2 := (17, [vR y, vI n, vI t, vI i, vI p, vU], [vI n, vL 0, vL p], aq_h m s F c)) rfl rfl ?_
      refine am_E.go (t2 := (18, [vR y, vI n, vI t, vI i, vI p, vU], [vI 1, vI n, vL 0, vL p], aq_h m s F c)) rfl rfl ?_
      refine ae_sub rfl (am_ri (by omega) (by omega)) ?_
      show am_E _ (19, [vR y, vI n, vI t, vI i, vI p, vU], [vI (n - 1), vL 0, vL p], aq_h m s F c) _
      refine am_E.go (t2 := (20, [vR y, vI n, vI t, vI i, vI p, vU], [vL (n - 1), vL 0, vL p], aq_h m s F c)) rfl rfl ?_
      refine am_E.call rfl rfl rfl (Nat.le_of_ble_eq_true rfl) (qm_in) ?_
      rintro r5 h5 ⟨rfl, v_4, rfl, hv_4⟩
      show am_E _ (23, [vR y, vI n, vI t, vI i, vI p, vU], [vI v_4], aq_h m s F c) _
      refine ae_if0 rfl (fun (q_5 : v_4 ≠ 0) => ?_) (fun (q_5 : v_4 = 0) => ?_)
      · refine am_E.go (t2 := (29, [vR y, vI n, vI t, vI i, vI p, vU], [vI i], aq_h m s F c)) rfl rfl ?_
        refine am_E.go (t2 := (30, [vR y, vI n, vI t, vI i, vI p, vU], [vR y, vI i], aq_h m s F c)) rfl rfl ?_
        refine am_E.go (t2 := (31, [vR y, vI n, vI t, vI i, vI p, vU], [vI n, vR y, vI i], aq_h m s F c)) rfl rfl ?_
        refine am_E.go (t2 := (32, [vR y, vI n, vI t, vI i, vI p, vU], [vI t, vI n, vR y, vI i], aq_h m s F c)) rfl rfl ?_
        refine am_E.go (t2 := (33, [vR y, vI n, vI t, vI i, vI p, vU], [vI (-1), vI t, vI n, vR y, vI i], aq_h m s F c)) rfl rfl ?_
        refine am_E.go (t2 := (34, [vR y, vI n, vI t, vI i, vI p, vU], [vR y, vI (-1), vI t, vI n, vR y, vI i], aq_h m s F c)) rfl rfl ?_
        refine aq_gf (v := vR (y + 18)) rfl (by omega) hFo (by decide) rfl ?_
        show am_E _ (37, [vR y, vI n, vI t, vI i, vI p, vU], [vR (y + 18), vI (-1), vI t, vI n, vR y, vI i], aq_h m s F c) _
        refine aq_callv (y := 5) (as2 := [vI n, vI t, vI (-1), vR (y + 18)]) (rest := [vI i]) rfl rfl (by decide) (Nat.le_of_ble_eq_true rfl) rfl rfl (Nat.le_of_ble_eq_true rfl) (by omega) hFo rfl (Nat.le_of_ble_eq_true rfl) (qm_lay (y := y) (a := y + 18) (by omega) hFo (by omega) hG18 (n := n) (t := t) (by omega) (by omega) (by omega) (by omega) (Or.inl rfl)) ?_
        rintro r5 h5 ⟨c_6, rfl, sc_6, vc_6, rfl, hmc_6, hdc_6⟩
        show am_E _ (40, [vR y, vI n, vI t, vI i, vI p, vU], [vI vc_6, vI i], aq_h m s F c_6) _
        have hm5 := hmc_6 rfl
        have hNb := hv_Nb n t
        refine ae_icmp rfl (fun (q_7 : i < vc_6) => ?_) (fun (q_7 : vc_6 ≤ i) => ?_)
        · refine am_E.go (t2 := (47, [vR y, vI n, vI t, vI i, vI p, vU], [vR y], aq_h m s F c_6)) rfl rfl ?_
          refine am_E.go (t2 := (48, [vR y, vI n, vI t, vI i, vI p, vU], [vI n, vR y], aq_h m s F c_6)) rfl rfl ?_
          refine am_E.go (t2 := (49, [vR y, vI n, vI t, vI i, vI p, vU], [vI t, vI n, vR y], aq_h m s F c_6)) rfl rfl ?_
          refine am_E.go (t2 := (50, [vR y, vI n, vI t, vI i, vI p, vU], [vI i, vI t, vI n, vR y], aq_h m s F c_6)) rfl rfl ?_
          refine am_E.go (t2 := (51, [vR y, vI n, vI t, vI i, vI p, vU], [vR y, vI i, vI t, vI n, vR y], aq_h m s F c_6)) rfl rfl ?_
          refine aq_gf (v := vR (y + 18)) rfl (by omega) hFo (by decide) rfl ?_
          show am_E _ (54, [vR y, vI n, vI t, vI i, vI p, vU], [vR (y + 18), vI i, vI t, vI n, vR y], aq_h m s F c_6) _
          refine aq_callv (y := 5) (as2 := [vI n, vI t, vI i, vR (y + 18)]) (rest := []) rfl rfl (by decide) (Nat.le_of_ble_eq_true rfl) rfl rfl (Nat.le_of_ble_eq_true rfl) (by omega) hFo rfl (Nat.le_of_ble_eq_true rfl) (qm_lay (y := y) (a := y + 18) (by omega) hFo (by omega) hG18 (n := n) (t := t) (by omega) (by omega) (by omega) (by omega) (Or.inr ⟨by omega, by omega⟩)) ?_
          rintro r5 h5 ⟨c_8, rfl, sc_8, vc_8, rfl, hmc_8, hdc_8⟩
          show am_E _ (57, [vR y, vI n, vI t, vI i, vI p, vU], [vI vc_8], aq_h m s F c_8) _
          have hNb := hv_Nb n t
          refine am_E.go (t2 := (59, [vR y, vI n, vI t, vI i, vI p, vI vc_8], [], aq_h m s F c_8)) rfl rfl ?_
          refine am_E.go (t2 := (60, [vR y, vI n, vI t, vI i, vI p, vI vc_8], [vR y], aq_h m s F c_8)) rfl rfl ?_
          refine aq_gf (v := vR (y + 18)) rfl (by omega) hFo (by decide) rfl ?_
          show am_E _ (63, [vR y, vI n, vI t, vI i, vI p, vI vc_8], [vR (y + 18)], aq_h m s F c_8) _
          refine am_E.go (t2 := (65, [vR y, vI n, vI t, vI i, vI p, vI vc_8], [vI p, vR (y + 18)], aq_h m s F c_8)) rfl rfl ?_
          refine aq_al (ok := fun k => k == 0) (v := vI (c_8 (y + 18) p)) rfl rfl (by omega) hG18 rfl (by omega) (by omega) rfl ?_
          show am_E _ (66, [vR y, vI n, vI t, vI i, vI p, vI vc_8], [vI (c_8 (y + 18) p)], aq_h m s F c_8) _
          refine am_E.ret rfl rfl ?_
          exact ⟨_, rfl, aq_smi (aq_smt (aq_smt (aq_sm0 (c := c) (S := mo_S y)) (aq_smi sc_6 (fun a h => by unfold mo_S; omega))) (aq_smi sc_8 (fun a h => by unfold mo_S; omega))) (fun a h => mo_Sa h), ⟨_, rfl⟩, mo_Ik hI (aq_smt (aq_smt (aq_sm0 (c := c) (S := mo_S y)) (aq_smi sc_6 (fun a h => by unfold mo_S; omega))) (aq_smi sc_8 (fun a h => by unfold mo_S; omega))) (mo_ks (mo_ks (mo_k0 (y := y) (c := c)) sc_6 (by omega)) sc_8 (by omega))⟩
        · refine am_E.go (t2 := (45, [vR y, vI n, vI t, vI i, vI p, vU], [vI (-4)], aq_h m s F c_6)) rfl rfl ?_
          refine am_E.ret rfl rfl ?_
          exact ⟨_, rfl, aq_smi (aq_smt (aq_sm0 (c := c) (S := mo_S y)) (aq_smi sc_6 (fun a h => by unfold mo_S; omega))) (fun a h => mo_Sa h), ⟨_, rfl⟩, mo_Ik hI (aq_smt (aq_sm0 (c := c) (S := mo_S y)) (aq_smi sc_6 (fun a h => by unfold mo_S; omega))) (mo_ks (mo_k0 (y := y) (c := c)) sc_6 (by omega))⟩
      · refine am_E.go (t2 := (27, [vR y, vI n, vI t, vI i, vI p, vU], [vI (-1)], aq_h m s F c)) rfl rfl ?_
        refine am_E.ret rfl rfl ?_
        exact ⟨_, rfl, aq_smi (aq_sm0 (c := c) (S := mo_S y)) (fun a h => mo_Sa h), ⟨_, rfl⟩, mo_Ik hI (aq_sm0 (c := c) (S := mo_S y)) (mo_k0 (y := y) (c := c))⟩

theorem qm_form {m s : Nat} {F : aq_F} {c : aq_C} {y : Nat} (hO : mo_0 m F y) {n t i j : Int} : am_E ac_X5_form (0, [vR y, vI n, vI t, vI i, vI j, vU, vU, vU], [], aq_h m s F c) (aq_Z m s F (mo_S y) c (fun r d => mo_k y c d ∧ (∀ i, d (y + 20) i = c (y + 20) i) ∧ ∃ v, r = some (vI v) ∧ -4 ≤ v ∧ v ≤ 4)) := by
  obtain ⟨hm, hFo, hG5, hG6, hG7, hG8, hG9, hG10, hG11, hG12, hG13, hG14, hG15, hG16, hG17, hG18, hG19, hG20, hG21, hG22, hG23⟩ := hO
  refine am_E.go (t2 := (1, [vR y, vI n, vI t, vI i, vI j, vU, vU, vU], [vI n], aq_h m s F c)) rfl rfl ?_
  refine am_E.go (t2 := (2, [vR y, vI n, vI t, vI i, vI j, vU, vU, vU], [vI t, vI n], aq_h m s F c)) rfl rfl ?_
  refine am_E.call rfl rfl rfl (Nat.le_of_ble_eq_true rfl) (qm_areHalves) ?_
  rintro r5 h5 ⟨rfl, v_1, rfl, hv_1⟩
  show am_E _ (5, [vR y, vI n, vI t, vI i, vI j, vU, vU, vU], [vI v_1], aq_h m s F c) _
  refine ae_if0 rfl (fun (q_2 : v_1 ≠ 0) => ?_) (fun (q_2 : v_1 = 0) => ?_)
  · refine am_E.go (t2 := (11, [vR y, vI n, vI t, vI i, vI j, vU, vU, vU], [vR y], aq_h m s F c)) rfl rfl ?_
    refine am_E.go (t2 := (12, [vR y, vI n, vI t, vI i, vI j, vU, vU, vU], [vI n, vR y], aq_h m s F c)) rfl rfl ?_
    refine am_E.go (t2 := (13, [vR y, vI n, vI t, vI i, vI j, vU, vU, vU], [vI t, vI n, vR y], aq_h m s F c)) rfl rfl ?_
    refine am_E.go (t2 := (14, [vR y, vI n, vI t, vI i, vI j, vU, vU, vU], [vI (-1), vI t, vI n, vR y], aq_h m s F c)) rfl rfl ?_
    refine am_E.go (t2 := (15, [vR y, vI n, vI t, vI i, vI j, vU, vU, vU], [vR y, vI (-1), vI t, vI n, vR y], aq_h m s F c)) rfl rfl ?_
    refine aq_gf (v := vR (y + 18)) rfl (by omega) hFo (by decide) rfl ?_
    show am_E _ (18, [vR y, vI n, vI t, vI i, vI j, vU, vU, vU], [vR (y + 18), vI (-1), vI t, vI n, vR y], aq_h m s F c) _
    refine aq_callv (y := 5) (as2 := [vI n, vI t, vI (-1), vR (y + 18)]) (rest := []) rfl rfl (by decide) (Nat.le_of_ble_eq_true rfl) rfl rfl (Nat.le_of_ble_eq_true rfl) (by omega) hFo rfl (Nat.le_of_ble_eq_true rfl) (qm_lay (y := y) (a := y + 18) (by omega) hFo (by omega) hG18 (n := n) (t := t) (by omega) (by omega) (by omega) (by omega) (Or.inl rfl)) ?_
    rintro r5 h5 ⟨c_3, rfl, sc_3, vc_3, rfl, hmc_3, hdc_3⟩
    show am_E _ (21, [vR y, vI n, vI t, vI i, vI j, vU, vU, vU], [vI vc_3], aq_h m s F c_3) _
    have hm5 := hmc_3 rfl
    have hNb := hv_Nb n t
    refine am_E.go (t2 := (23, [vR y, vI n, vI t, vI i, vI j, vI vc_3, vU, vU], [], aq_h m s F c_3)) rfl rfl ?_
    refine am_E.go (t2 := (24, [vR y, vI n, vI t, vI i, vI j, vI vc_3, vU, vU], [vI i], aq_h m s F c_3)) rfl rfl ?_
    refine am_E.go (t2 := (25, [vR y, vI n, vI t, vI i, vI j, vI vc_3, vU, vU], [vL i], aq_h m s F c_3)) rfl rfl ?_
    refine am_E.go (t2 := (26, [vR y, vI n, vI t, vI i, vI j, vI vc_3, vU, vU], [vL 0, vL i], aq_h m s F c_3)) rfl rfl ?_
    refine am_E.go (t2 := (28, [vR y, vI n, vI t, vI i, vI j, vI vc_3, vU, vU], [vI vc_3, vL 0, vL i], aq_h m s F c_3)) rfl rfl ?_
    refine am_E.go (t2 := (29, [vR y, vI n, vI t, vI i, vI j, vI vc_3, vU, vU], [vI 1, vI vc_3, vL 0, vL i], aq_h m s F c_3)) rfl rfl ?_
    refine ae_sub rfl (am_ri (by omega) (by omega)) ?_
    show am_E _ (30, [vR y, vI n, vI t, vI i, vI j, vI vc_3, vU, vU], [vI (vc_3 - 1), vL 0, vL i], aq_h m s F c_3) _
    refine am_E.go (t2 := (31, [vR y, vI n, vI t, vI i, vI j, vI vc_3, vU, vU], [vL (vc_3 - 1), vL 0, vL i], aq_h m s F c_3)) rfl rfl ?_
    refine am_E.call rfl rfl rfl (Nat.le_of_ble_eq_true rfl) (qm_in) ?_
    rintro r5 h5 ⟨rfl, v_4, rfl, hv_4⟩
    show am_E _ (34, [vR y, vI n, vI t, vI i, vI j, vI vc_3, vU, vU], [vI v_4], aq_h m s F c_3) _
    refine ae_if0 rfl (fun (q_5 : v_4 = 0) => ?_) (fun (q_5 : v_4 ≠ 0) => ?_)
    · refine am_E.go (t2 := (53, [vR y, vI n, vI t, vI i, vI j, vI vc_3, vU, vU], [vI (-1)], aq_h m s F c_3)) rfl rfl ?_
      refine am_E.ret rfl rfl ?_
      exact ⟨_, rfl, aq_smi (aq_smt (aq_sm0 (c := c) (S := (fun a => a = y + 13 ∨ a = y + 18 ∨ a = y + 19))) (aq_smi sc_3 (fun a h => by omega))) (fun a h => by unfold mo_S; omega), mo_ks mo_k0 (aq_smt (aq_sm0 (c := c) (S := (fun a => a = y + 13 ∨ a = y + 18 ∨ a = y + 19))) (aq_smi sc_3 (fun a h => by omega))) (by omega), fun i => (aq_smt (aq_sm0 (c := c) (S := (fun a => a = y + 13 ∨ a = y + 18 ∨ a = y + 19))) (aq_smi sc_3 (fun a h => by omega))) _ (by omega) i, _, rfl, by omega, by omega⟩
    · refine am_E.go (t2 := (39, [vR y, vI n, vI t, vI i, vI j, vI vc_3, vU, vU], [vI j], aq_h m s F c_3)) rfl rfl ?_
      refine am_E.go (t2 := (40, [vR y, vI n, vI t, vI i, vI j, vI vc_3, vU, vU], [vL j], aq_h m s F c_3)) rfl rfl ?_
      refine am_E.go (t2 := (41, [vR y, vI n, vI t, vI i, vI j, vI vc_3, vU, vU], [vL 0, vL j], aq_h m s F c_3)) rfl rfl ?_
      refine am_E.go (t2 := (43, [vR y, vI n, vI t, vI i, vI j, vI vc_3, vU, vU], [vI vc_3, vL 0, vL j], aq_h m s F c_3)) rfl rfl ?_
      refine am_E.go (t2 := (44, [vR y, vI n, vI t, vI i, vI j, vI vc_3, vU, vU], [vI 1, vI vc_3, vL 0, vL j], aq_h m s F c_3)) rfl rfl ?_
      refine ae_sub rfl (am_ri (by omega) (by omega)) ?_
      show am_E _ (45, [vR y, vI n, vI t, vI i, vI j, vI vc_3, vU, vU], [vI (vc_3 - 1), vL 0, vL j], aq_h m s F c_3) _
      refine am_E.go (t2 := (46, [vR y, vI n, vI t, vI i, vI j, vI vc_3, vU, vU], [vL (vc_3 - 1), vL 0, vL j], aq_h m s F c_3)) rfl rfl ?_
      refine am_E.call rfl rfl rfl (Nat.le_of_ble_eq_true rfl) (qm_in) ?_
      rintro r5 h5 ⟨rfl, v_6, rfl, hv_6⟩
      show am_E _ (49, [vR y, vI n, vI t, vI i, vI j, vI vc_3, vU, vU], [vI v_6], aq_h m s F c_3) _
      refine ae_if0 rfl (fun (q_7 : v_6 ≠ 0) => ?_) (fun (q_7 : v_6 = 0) => ?_)
      · refine am_E.go (t2 := (55, [vR y, vI n, vI t, vI i, vI j, vI vc_3, vU, vU], [vR y], aq_h m s F c_3)) rfl rfl ?_
        refine am_E.go (t2 := (56, [vR y, vI n, vI t, vI i, vI j, vI vc_3, vU, vU], [vI n, vR y], aq_h m s F c_3)) rfl rfl ?_
        refine am_E.go (t2 := (57, [vR y, vI n, vI t, vI i, vI j, vI vc_3, vU, vU], [vI t, vI n, vR y], aq_h m s F c_3)) rfl rfl ?_
        refine am_E.go (t2 := (58, [vR y, vI n, vI t, vI i, vI j, vI vc_3, vU, vU], [vI i, vI t, vI n, vR y], aq_h m s F c_3)) rfl rfl ?_
        refine am_E.go (t2 := (59, [vR y, vI n, vI t, vI i, vI j, vI vc_3, vU, vU], [vR y, vI i, vI t, vI n, vR y], aq_h m s F c_3)) rfl rfl ?_
        refine aq_gf (v := vR (y + 18)) rfl (by omega) hFo (by decide) rfl ?_
        show am_E _ (62, [vR y, vI n, vI t, vI i, vI j, vI vc_3, vU, vU], [vR (y + 18), vI i, vI t, vI n, vR y], aq_h m s F c_3) _
        refine aq_callv (y := 5) (as2 := [vI n, vI t, vI i, vR (y + 18)]) (rest := []) rfl rfl (by decide) (Nat.le_of_ble_eq_true rfl) rfl rfl (Nat.le_of_ble_eq_true rfl) (by omega) hFo rfl (Nat.le_of_ble_eq_true rfl) (qm_lay (y := y) (a := y + 18) (by omega) hFo (by omega) hG18 (n := n) (t := t) (by omega) (by omega) (by omega) (by omega) (Or.inr ⟨by omega, by omega⟩)) ?_
        rintro r5 h5 ⟨c_8, rfl, sc_8, vc_8, rfl, hmc_8, hdc_8⟩
        show am_E _ (65, [vR y, vI n, vI t, vI i, vI j, vI vc_3, vU, vU], [vI vc_8], aq_h m s F c_8) _
        have hNb := hv_Nb n t
        refine am_E.go (t2 := (67, [vR y, vI n, vI t, vI i, vI j, vI vc_3, vI vc_8, vU], [], aq_h m s F c_8)) rfl rfl ?_
        refine am_E.go (t2 := (68, [vR y, vI n, vI t, vI i, vI j, vI vc_3, vI vc_8, vU], [vR y], aq_h m s F c_8)) rfl rfl ?_
        refine am_E.go (t2 := (69, [vR y, vI n, vI t, vI i, vI j, vI vc_3, vI vc_8, vU], [vI n, vR y], aq_h m s F c_8)) rfl rfl ?_
        refine am_E.go (t2 := (70, [vR y, vI n, vI t, vI i, vI j, vI vc_3, vI vc_8, vU], [vI t, vI n, vR y], aq_h m s F c_8)) rfl rfl ?_
        refine am_E.go (t2 := (72, [vR y, vI n, vI t, vI i, vI j, vI vc_3, vI vc_8, vU], [vI j, vI t, vI n, vR y], aq_h m s F c_8)) rfl rfl ?_
        refine am_E.go (t2 := (73, [vR y, vI n, vI t, vI i, vI j, vI vc_3, vI vc_8, vU], [vR y, vI j, vI t, vI n, vR y], aq_h m s F c_8)) rfl rfl ?_
        refine aq_gf (v := vR (y + 19)) rfl (by omega) hFo (by decide) rfl ?_
        show am_E _ (76, [vR y, vI n, vI t, vI i, vI j, vI vc_3, vI vc_8, vU], [vR (y + 19), vI j, vI t, vI n, vR y], aq_h m s F c_8) _
        refine aq_callv (y := 5) (as2 := [vI n, vI t, vI j, vR (y + 19)]) (rest := []) rfl rfl (by decide) (Nat.le_of_ble_eq_true rfl) rfl rfl (Nat.le_of_ble_eq_true rfl) (by omega) hFo rfl (Nat.le_of_ble_eq_true rfl) (qm_lay (y := y) (a := y + 19) (by omega) hFo (by omega) hG19 (n := n) (t := t) (by omega) (by omega) (by omega) (by omega) (Or.inr ⟨by omega, by omega⟩)) ?_
        rintro r5 h5 ⟨c_9, rfl, sc_9, vc_9, rfl, hmc_9, hdc_9⟩
        show am_E _ (79, [vR y, vI n, vI t, vI i, vI j, vI vc_3, vI vc_8, vU], [vI vc_9], aq_h m s F c_9) _
        have hNb := hv_Nb n t
        refine am_E.go (t2 := (81, [vR y, vI n, vI t, vI i, vI j, vI vc_3, vI vc_8, vI vc_9], [], aq_h m s F c_9)) rfl rfl ?_
        refine am_E.go (t2 := (82, [vR y, vI n, vI t, vI i, vI j, vI vc_3, vI vc_8, vI vc_9], [vR y], aq_h m s F c_9)) rfl rfl ?_
        refine am_E.go (t2 := (83, [vR y, vI n, vI t, vI i, vI j, vI vc_3, vI vc_8, vI vc_9], [vI n, vR y], aq_h m s F c_9)) rfl rfl ?_
        refine aq_callv (y := 2) (as2 := [vI n]) (rest := []) rfl rfl (by decide) (Nat.le_of_ble_eq_true rfl) rfl rfl (Nat.le_of_ble_eq_true rfl) (by omega) hFo rfl (Nat.le_of_ble_eq_true rfl) (qm_formOf ⟨hm, hFo, hG5, hG6, hG7, hG8, hG9, hG10, hG11, hG12, hG13, hG14, hG15, hG16, hG17, hG18, hG19, hG20, hG21, hG22, hG23⟩ (n := n) (t := t) (i := i) (j := j) (by omega) (by omega) (by omega) (by omega) (by omega) (by omega) (by omega) (by omega) (fun p5 h5 h6 => by rw [sc_9 _ (by omega)]; exact hdc_8 (by omega) p5 h5 h6) (fun p5 h5 h6 => hdc_9 (by omega) p5 h5 h6)) ?_
        rintro r5 h5 ⟨c_f, rfl, s_f, v_f, rfl, hf1, hf2⟩
        show am_E _ (86, [vR y, vI n, vI t, vI i, vI j, vI vc_3, vI vc_8, vI vc_9], [vI v_f], aq_h m s F c_f) _
        refine am_E.ret rfl rfl ?_
        exact ⟨_, rfl, aq_smi (aq_smt (aq_smt (aq_smt (aq_smt (aq_sm0 (c := c) (S := (fun a => a = y + 13 ∨ a = y + 18 ∨ a = y + 19))) (aq_smi sc_3 (fun a h => by omega))) (aq_smi sc_8 (fun a h => by omega))) (aq_smi sc_9 (fun a h => by omega))) (aq_smi s_f (fun a h => by omega))) (fun a h => by unfold mo_S; omega), mo_ks mo_k0 (aq_smt (aq_smt (aq_smt (aq_smt (aq_sm0 (c := c) (S := (fun a => a = y + 13 ∨ a = y + 18 ∨ a = y + 19))) (aq_smi sc_3 (fun a h => by omega))) (aq_smi sc_8 (fun a h => by omega))) (aq_smi sc_9 (fun a h => by omega))) (aq_smi s_f (fun a h => by omega))) (by omega), fun i => (aq_smt (aq_smt (aq_smt (aq_smt (aq_sm0 (c := c) (S := (fun a => a = y + 13 ∨ a = y + 18 ∨ a = y + 19))) (aq_smi sc_3 (fun a h => by omega))) (aq_smi sc_8 (fun a h => by omega))) (aq_smi sc_9 (fun a h => by omega))) (aq_smi s_f (fun a h => by omega))) _ (by omega) i, _, rfl, by omega, by omega⟩
      · refine am_E.go (t2 := (53, [vR y, vI n, vI t, vI i, vI j, vI vc_3, vU, vU], [vI (-1)], aq_h m s F c_3)) rfl rfl ?_
        refine am_E.ret rfl rfl ?_
        exact ⟨_, rfl, aq_smi (aq_smt (aq_sm0 (c := c) (S := (fun a => a = y + 13 ∨ a = y + 18 ∨ a = y + 19))) (aq_smi sc_3 (fun a h => by omega))) (fun a h => by unfold mo_S; omega), mo_ks mo_k0 (aq_smt (aq_sm0 (c := c) (S := (fun a => a = y + 13 ∨ a = y + 18 ∨ a = y + 19))) (aq_smi sc_3 (fun a h => by omega))) (by omega), fun i => (aq_smt (aq_sm0 (c := c) (S := (fun a => a = y + 13 ∨ a = y + 18 ∨ a = y + 19))) (aq_smi sc_3 (fun a h => by omega))) _ (by omega) i, _, rfl, by omega, by omega⟩
  · refine am_E.go (t2 := (9, [vR y, vI n, vI t, vI i, vI j, vU, vU, vU], [vI (-1)], aq_h m s F c)) rfl rfl ?_
    refine am_E.ret rfl rfl ?_
    exact ⟨_, rfl, aq_smi (aq_sm0 (c := c) (S := (fun a => a = y + 13 ∨ a = y + 18 ∨ a = y + 19))) (fun a h => by unfold mo_S; omega), mo_ks mo_k0 (aq_sm0 (c := c) (S := (fun a => a = y + 13 ∨ a = y + 18 ∨ a = y + 19))) (by omega), fun i => (aq_sm0 (c := c) (S := (fun a => a = y + 13 ∨ a = y + 18 ∨ a = y + 19))) _ (by omega) i, _, rfl, by omega, by omega⟩

theorem qm_X5_form {m s : Nat} {F : aq_F} {c : aq_C} {y : Nat} (hC : mo_C m F y) (hI : mo_I y c) {n t i j : Int} : am_E ac_X5_form (0, [vR y, vI n, vI t, vI i, vI j, vU, vU, vU], [], aq_h m s F c) (aq_Z m s F (fun a => y ≤ a ∧ a < y + 24) c (fun r d => aq_vi r ∧ mo_I y d)) :=
  (qm_form hC.1).imp (fun r h2 ⟨d, e1, e2, e3, _, v, e4, _⟩ => ⟨d, e1, aq_smi e2 (fun a h => mo_Sa h), ⟨v, e4⟩, mo_Ik hI e2 e3⟩)

theorem nm_lt {a e : Int} (h0 : 2 ≤ a) (h5 : 2 ≤ e) (h : e * e < a * a) : e < a := by
  by_cases h1 : e < a
  · exact h1
  · exfalso
    have := Int.mul_le_mul (show a ≤ e by omega) (show a ≤ e by omega) (by omega) (by omega)
    omega

theorem qm_isPrime_l {m s : Nat} {F : aq_F} {c : aq_C} {p : Int} (hp0 : 2 ≤ p) (hp1 : p ≤ 997) : ∀ (d : Nat) (is : Int) (d5 : Int) (h0 : 2 ≤ d5) (h1 : d5 ≤ 32) (hi : is = 0 ∨ (is = 1 ∧ ∀ e, 2 ≤ e → e < d5 → p % e ≠ 0)) (hd : 32 - d5 < (d : Int)), am_E ac_X5_isPrime (13, [vI p, vI is, vI d5], [], aq_h m s F c) (aq_P m s F c (fun r => ∃ v, r = some (vI v) ∧ (v = 0 ∨ (v = 1 ∧ nm_P p))))
  | 0, is, d5, h0, h1, hi, hd => by exfalso; omega
  | d + 1, is, d5, h0, h1, hi, hd => by
    have e1 : d5 = 32 → d5 * d5 = 1024 := by intro h; rw [h]; rfl
    have e2 := am_sq h0 h1
    refine am_E.go (t2 := (14, [vI p, vI is, vI d5], [vI d5], aq_h m s F c)) rfl rfl ?_
    refine am_E.go (t2 := (15, [vI p, vI is, vI d5], [vI d5, vI d5], aq_h m s F c)) rfl rfl ?_
    refine ae_mul rfl (am_ri (by omega) (by omega)) ?_
    show am_E _ (16, [vI p, vI is, vI d5], [vI (d5 * d5)], aq_h m s F c) _
    refine am_E.go (t2 := (17, [vI p, vI is, vI d5], [vI p, vI (d5 * d5)], aq_h m s F c)) rfl rfl ?_
    refine ae_icmp rfl (fun (q_1 : p < (d5 * d5)) => ?_) (fun (q_1 : (d5 * d5) ≤ p) => ?_)
    · refine am_E.go (t2 := (43, [vI p, vI is, vI d5], [vI is], aq_h m s F c)) rfl rfl ?_
      refine ae_retb rfl (by omega) ?_
      refine ⟨rfl, _, rfl, ?_⟩
      rcases hi with h | ⟨h, h9⟩
      · exact Or.inl h
      · first | (exfalso; omega) | exact Or.inr ⟨h, fun e h5 h6 => h9 e h5 (nm_lt h0 h5 (by omega))⟩
    · refine am_E.go (t2 := (21, [vI p, vI is, vI d5], [vI is], aq_h m s F c)) rfl rfl ?_
      refine ae_if0 rfl (fun (q_2 : is = 0) => ?_) (fun (q_2 : is ≠ 0) => ?_)
      · refine am_E.go (t2 := (43, [vI p, vI is, vI d5], [vI is], aq_h m s F c)) rfl rfl ?_
        refine ae_retb rfl (by omega) ?_
        refine ⟨rfl, _, rfl, ?_⟩
        rcases hi with h | ⟨h, h9⟩
        · exact Or.inl h
        · first | (exfalso; omega) | exact Or.inr ⟨h, fun e h5 h6 => h9 e h5 (nm_lt h0 h5 (by omega))⟩
      · refine am_E.go (t2 := (25, [vI p, vI is, vI d5], [vI p], aq_h m s F c)) rfl rfl ?_
        refine am_E.go (t2 := (26, [vI p, vI is, vI d5], [vI d5, vI p], aq_h m s F c)) rfl rfl ?_
        refine ae_bin (z := p % d5) rfl rfl (am_rem_e (by omega) (by omega)) ?_
        show am_E _ (27, [vI p, vI is, vI d5], [vI (p % d5)], aq_h m s F c) _
        refine ae_if0 rfl (fun (q_3 : (p % d5) = 0) => ?_) (fun (q_3 : (p % d5) ≠ 0) => ?_)
        · refine am_E.go (t2 := (35, [vI p, vI is, vI d5], [vI 0], aq_h m s F c)) rfl rfl ?_
          refine am_E.go (t2 := (36, [vI p, vI 0, vI d5], [], aq_h m s F c)) rfl rfl ?_
          refine ae_iinc rfl rfl (am_ri (by omega) (by omega)) ?_
          show am_E _ (39, [vI p, vI 0, vI (d5 + 1)], [], aq_h m s F c) _
          refine am_E.go (t2 := (13, [vI p, vI 0, vI (d5 + 1)], [], aq_h m s F c)) rfl rfl ?_
          exact qm_isPrime_l hp0 hp1 d 0 (d5 + 1) (by omega) (by omega) (Or.inl rfl) (by omega)
        · refine am_E.go (t2 := (31, [vI p, vI is, vI d5], [vI 1], aq_h m s F c)) rfl rfl ?_
          refine am_E.go (t2 := (35, [vI p, vI is, vI d5], [vI 1], aq_h m s F c)) rfl rfl ?_
          refine am_E.go (t2 := (36, [vI p, vI 1, vI d5], [], aq_h m s F c)) rfl rfl ?_
          refine ae_iinc rfl rfl (am_ri (by omega) (by omega)) ?_
          show am_E _ (39, [vI p, vI 1, vI (d5 + 1)], [], aq_h m s F c) _
          refine am_E.go (t2 := (13, [vI p, vI 1, vI (d5 + 1)], [], aq_h m s F c)) rfl rfl ?_
          exact qm_isPrime_l hp0 hp1 d 1 (d5 + 1) (by omega) (by omega) (by rcases hi with h | ⟨_, h⟩; exact absurd h (by omega); exact Or.inr ⟨rfl, fun e h5 h6 => by by_cases e9 : e = d5; (rw [e9]; assumption); exact h e h5 (by omega)⟩) (by omega)

theorem qm_isPrime {m s : Nat} {F : aq_F} {c : aq_C} {p : Int} (hp0 : 2 ≤ p) (hp1 : p ≤ 997) : am_E ac_X5_isPrime (0, [vI p, vU, vU], [], aq_h m s F c) (aq_P m s F c (fun r => ∃ v, r = some (vI v) ∧ (v = 0 ∨ (v = 1 ∧ nm_P p)))) := by
  refine am_E.go (t2 := (1, [vI p, vU, vU], [vI p], aq_h m s F c)) rfl rfl ?_
  refine am_E.go (t2 := (2, [vI p, vU, vU], [vI 1, vI p], aq_h m s F c)) rfl rfl ?_
  refine ae_icmp rfl (fun (q_1 : p ≤ 1) => ?_) (fun (q_1 : 1 < p) => ?_)
  · refine am_E.go (t2 := (10, [vI p, vU, vU], [vI 0], aq_h m s F c)) rfl rfl ?_
    refine am_E.go (t2 := (11, [vI p, vI 0, vU], [], aq_h m s F c)) rfl rfl ?_
    refine am_E.go (t2 := (12, [vI p, vI 0, vU], [vI 2], aq_h m s F c)) rfl rfl ?_
    refine am_E.go (t2 := (13, [vI p, vI 0, vI 2], [], aq_h m s F c)) rfl rfl ?_
    exact qm_isPrime_l hp0 hp1 32 0 2 (by omega) (by omega) (Or.inl rfl) (by omega)
  · refine am_E.go (t2 := (6, [vI p, vU, vU], [vI 1], aq_h m s F c)) rfl rfl ?_
    refine am_E.go (t2 := (10, [vI p, vU, vU], [vI 1], aq_h m s F c)) rfl rfl ?_
    refine am_E.go (t2 := (11, [vI p, vI 1, vU], [], aq_h m s F c)) rfl rfl ?_
    refine am_E.go (t2 := (12, [vI p, vI 1, vU], [vI 2], aq_h m s F c)) rfl rfl ?_
    refine am_E.go (t2 := (13, [vI p, vI 1, vI 2], [], aq_h m s F c)) rfl rfl ?_
    exact qm_isPrime_l hp0 hp1 32 1 2 (by omega) (by omega) (Or.inr ⟨rfl, fun e h5 h6 => absurd h6 (by omega)⟩) (by omega)

theorem qm_inverse_l {m s : Nat} {F : aq_F} {c : aq_C} {v p w0 : Int} (hv0 : 1 ≤ v) (hvp : v < p) (hp : p ≤ 997) (hw0 : 1 ≤ w0) (hw1 : w0 < p) (hw : (v * w0) % p = 1) : ∀ (d : Nat) (w : Int) (h0 : 1 ≤ w) (h1 : w ≤ w0) (hd : w0 - w < (d : Int)), am_E ac_X5_inverse (2, [vI v, vI p, vI w], [], aq_h m s F c) (aq_P m s F c (fun r => ∃ w, r = some (vI w) ∧ 1 ≤ w ∧ w < p))
  | 0, w, h0, h1, hd => by exfalso; omega
  | d + 1, w, h0, h1, hd => by
    have e2 := nm_mul (a := v) (b := w) (by omega) (by omega) (by omega) (by omega)
    refine am_E.go (t2 := (3, [vI v, vI p, vI w], [vI v], aq_h m s F c)) rfl rfl ?_
    refine am_E.go (t2 := (4, [vI v, vI p, vI w], [vI w, vI v], aq_h m s F c)) rfl rfl ?_
    refine ae_mul rfl (am_ri (by omega) (by omega)) ?_
    show am_E _ (5, [vI v, vI p, vI w], [vI (v * w)], aq_h m s F c) _
    refine am_E.go (t2 := (6, [vI v, vI p, vI w], [vI p, vI (v * w)], aq_h m s F c)) rfl rfl ?_
    refine ae_bin (z := (v * w) % p) rfl rfl (am_rem_e (by omega) (by omega)) ?_
    show am_E _ (7, [vI v, vI p, vI w], [vI ((v * w) % p)], aq_h m s F c) _
    refine am_E.go (t2 := (8, [vI v, vI p, vI w], [vI 1, vI ((v * w) % p)], aq_h m s F c)) rfl rfl ?_
    refine ae_icmp rfl (fun (q_1 : ((v * w) % p) = 1) => ?_) (fun (q_1 : ((v * w) % p) ≠ 1) => ?_)
    · refine am_E.go (t2 := (18, [vI v, vI p, vI w], [vI w], aq_h m s F c)) rfl rfl ?_
      refine am_E.ret rfl rfl ?_
      exact ⟨rfl, _, rfl, by omega, by omega⟩
    · refine ae_iinc rfl rfl (am_ri (by omega) (by omega)) ?_
      show am_E _ (14, [vI v, vI p, vI (w + 1)], [], aq_h m s F c) _
      refine am_E.go (t2 := (2, [vI v, vI p, vI (w + 1)], [], aq_h m s F c)) rfl rfl ?_
      exact qm_inverse_l hv0 hvp hp hw0 hw1 hw d (w + 1) (by omega) (by by_cases e : w = w0; (subst e; exfalso; omega); omega) (by omega)

theorem qm_inverse {m s : Nat} {F : aq_F} {c : aq_C} {v p : Int} (hv0 : 1 ≤ v) (hvp : v < p) (hp : p ≤ 997) (hP : nm_P p) : am_E ac_X5_inverse (0, [vI v, vI p, vU], [], aq_h m s F c) (aq_P m s F c (fun r => ∃ w, r = some (vI w) ∧ 1 ≤ w ∧ w < p)) := by
  obtain ⟨w0, hw0, hw1, hw⟩ := nm_inv hv0 hvp hP
  refine am_E.go (t2 := (1, [vI v, vI p, vU], [vI 1], aq_h m s F c)) rfl rfl ?_
  refine am_E.go (t2 := (2, [vI v, vI p, vI 1], [], aq_h m s F c)) rfl rfl ?_
  exact qm_inverse_l hv0 hvp hp hw0 hw1 hw 1000 1 (by omega) (by omega) (by omega)
