/-! Halves: keepDraft, the constructor. Printed by wip/p20/sx/gHD.py. -/

theorem hc_cp {o n h : Nat} {c d : aq_C} (hI : hc_I o n c) (hh : h < 6) (he : aq_cp c (o + 16) (0 : Int).toNat (o + 10 + h) (0 : Int).toNat (n : Int).toNat = d) : hc_I o n d := by
  obtain ⟨k1, k2, k3, k4⟩ := hI
  have g : ∀ x, x ≠ o + 10 + h → ∀ j, d x j = c x j := fun x hx j => by
    rw [← he]
    unfold aq_cp
    rw [if_neg (fun q => hx q.1)]
  refine ⟨fun i i0 i1 => by rw [g _ (by omega)]; exact k1 i i0 i1, fun h2 hh2 i i0 i1 => ?_, by rw [g _ (by omega)]; exact k3, by rw [g _ (by omega)]; exact k4⟩
  by_cases e : h2 = h
  · subst e
    rw [← he]
    unfold aq_cp
    have z0 : (((0 : Int).toNat : Nat) : Int) = 0 := rfl
    rw [z0, if_pos ⟨rfl, by omega, by omega⟩]
    exact k1 _ (by omega) (by omega)
  · rw [g _ (by omega)]
    exact k2 h2 hh2 i i0 i1
theorem hc_cz {o n h : Nat} {c d : aq_C} (hz : c o 6 < 6) (he : aq_cp c (o + 16) (0 : Int).toNat (o + 10 + h) (0 : Int).toNat (n : Int).toNat = d) : d o 6 < 6 := by
  rw [← he]
  unfold aq_cp
  rw [if_neg (by omega)]
  exact hz
theorem hc_lz {o : Nat} {i x : Int} {c d : aq_C} (hz : c o 6 < 6) (he : aq_u c (o + 1) i x = d) : d o 6 < 6 := by
  rw [← he, aq_un (Or.inl (by omega))]
  exact hz
theorem hc_p {o n : Nat} {x : Int} {c d : aq_C} (h : hc_I o n c) (he : aq_u c o 6 x = d) (h0 : 0 ≤ x) (h6 : x ≤ 6) : hc_I o n d := by
  obtain ⟨k1, k2, k3, k4⟩ := h
  refine ⟨aq_rgn k1 he (by omega), fun h hh => aq_rgn (k2 h hh) he (by omega), ?_, ?_⟩
  · rw [← he, aq_us]; exact h0
  · rw [← he, aq_us]; exact h6

theorem qc_keepDraft_l {m s : Nat} {F : aq_F} {c0 : aq_C} {o n : Nat} (hH : hc_0 m F o n) : ∀ (d : Nat) (p : Int) (c : aq_C) (hs : aq_sm (fun a => o ≤ a ∧ a < o + 18) c0 c) (h0 : 0 ≤ p) (h1 : p ≤ (n : Int)) (hc : hc_I o n c) (hz : c o 6 < 6) (hd : (n : Int) - p < (d : Int)), am_E ac_X2_keepDraft (24, [vR o, vI p], [], aq_h m s F c) (aq_Z m s F (fun a => o ≤ a ∧ a < o + 18) c0 (fun r d => r = none ∧ hc_I o n d))
  | 0, p, c, hs, h0, h1, hc, hz, hd => by exfalso; omega
  | d + 1, p, c, hs, h0, h1, hc, hz, hd => by
    obtain ⟨hm, hn1, hn4, hFo, hFl, hFg, hFt, hFp, hFq, hFd, hFs⟩ := hH
    refine am_E.go (t2 := (25, [vR o, vI p], [vI p], aq_h m s F c)) rfl rfl ?_
    refine am_E.go (t2 := (26, [vR o, vI p], [vR o, vI p], aq_h m s F c)) rfl rfl ?_
    refine aq_gf (v := vI (n : Int)) rfl (by omega) hFo (by decide) rfl ?_
    show am_E _ (29, [vR o, vI p], [vI (n : Int), vI p], aq_h m s F c) _
    refine ae_icmp rfl (fun (q_1 : (n : Int) ≤ p) => ?_) (fun (q_1 : p < (n : Int)) => ?_)
    · refine am_E.go (t2 := (69, [vR o, vI p], [vR o], aq_h m s F c)) rfl rfl ?_
      refine am_E.go (t2 := (70, [vR o, vI p], [vR o, vR o], aq_h m s F c)) rfl rfl ?_
      refine aq_gf (v := vI (c o 6)) rfl (by omega) hFo (by decide) rfl ?_
      show am_E _ (73, [vR o, vI p], [vI (c o 6), vR o], aq_h m s F c) _
      have f_2 := (hc).2.2
      refine am_E.go (t2 := (74, [vR o, vI p], [vI 1, vI (c o 6), vR o], aq_h m s F c)) rfl rfl ?_
      refine ae_add rfl (am_ri (by omega) (by omega)) ?_
      show am_E _ (75, [vR o, vI p], [vI ((c o 6) + 1), vR o], aq_h m s F c) _
      refine aq_pf rfl (by omega) hFo (by decide) rfl rfl ?_
      show am_E _ (78, [vR o, vI p], [], aq_h m s F (aq_u c o 6 ((c o 6) + 1))) _
      generalize hdc_3 : aq_u c o 6 ((c o 6) + 1) = c_3
      have sc_3 := aq_smu hs hdc_3 (by omega)
      have hhcc_3 := hc_p hc hdc_3 (by omega) (by omega)
      have hszc_3 := True.intro
      refine am_E.ret rfl rfl ?_
      exact ⟨_, rfl, sc_3, rfl, hhcc_3⟩
    · refine am_E.go (t2 := (33, [vR o, vI p], [vR o], aq_h m s F c)) rfl rfl ?_
      refine aq_gf (v := vR (o + 1)) rfl (by omega) hFo (by decide) rfl ?_
      show am_E _ (36, [vR o, vI p], [vR (o + 1)], aq_h m s F c) _
      refine am_E.go (t2 := (37, [vR o, vI p], [vR o, vR (o + 1)], aq_h m s F c)) rfl rfl ?_
      refine aq_gf (v := vI (c o 6)) rfl (by omega) hFo (by decide) rfl ?_
      show am_E _ (40, [vR o, vI p], [vI (c o 6), vR (o + 1)], aq_h m s F c) _
      have f_4 := (hc).2.2
      refine am_E.go (t2 := (41, [vR o, vI p], [vI (c o 6), vR (o + 1), vI (c o 6), vR (o + 1)], aq_h m s F c)) rfl rfl ?_
      refine aq_al (ok := fun k => k == 0) (v := vI (c (o + 1) (c o 6))) rfl rfl (by omega) hFl rfl (by omega) (by omega) rfl ?_
      show am_E _ (42, [vR o, vI p], [vI (c (o + 1) (c o 6)), vI (c o 6), vR (o + 1)], aq_h m s F c) _
      refine am_E.go (t2 := (43, [vR o, vI p], [vR o, vI (c (o + 1) (c o 6)), vI (c o 6), vR (o + 1)], aq_h m s F c)) rfl rfl ?_
      refine aq_gf (v := vR (o + 16)) rfl (by omega) hFo (by decide) rfl ?_
      show am_E _ (46, [vR o, vI p], [vR (o + 16), vI (c (o + 1) (c o 6)), vI (c o 6), vR (o + 1)], aq_h m s F c) _
      refine am_E.go (t2 := (47, [vR o, vI p], [vI p, vR (o + 16), vI (c (o + 1) (c o 6)), vI (c o 6), vR (o + 1)], aq_h m s F c)) rfl rfl ?_
      refine aq_al (ok := fun k => k == 0) (v := vI (c (o + 16) p)) rfl rfl (by omega) hFd rfl (by omega) (by omega) rfl ?_
      show am_E _ (48, [vR o, vI p], [vI (c (o + 16) p), vI (c (o + 1) (c o 6)), vI (c o 6), vR (o + 1)], aq_h m s F c) _
      have f_5 := (hc).1 p (by omega) (by omega)
      refine am_E.go (t2 := (49, [vR o, vI p], [vR o, vI (c (o + 16) p), vI (c (o + 1) (c o 6)), vI (c o 6), vR (o + 1)], aq_h m s F c)) rfl rfl ?_
      refine aq_gf (v := vI (n : Int)) rfl (by omega) hFo (by decide) rfl ?_
      show am_E _ (52, [vR o, vI p], [vI (n : Int), vI (c (o + 16) p), vI (c (o + 1) (c o 6)), vI (c o 6), vR (o + 1)], aq_h m s F c) _
      refine ae_icmp rfl (fun (q_6 : (c (o + 16) p) ≠ (n : Int)) => ?_) (fun (q_6 : (c (o + 16) p) = (n : Int)) => ?_)
      · refine am_E.go (t2 := (60, [vR o, vI p], [vI 0, vI (c (o + 1) (c o 6)), vI (c o 6), vR (o + 1)], aq_h m s F c)) rfl rfl ?_
        refine am_E.go (t2 := (61, [vR o, vI p], [vI (am_w ((c (o + 1) (c o 6)) + 0)), vI (c o 6), vR (o + 1)], aq_h m s F c)) rfl rfl ?_
        refine aq_as (kd := 0) rfl rfl (by omega) hFl (by omega) (by omega) rfl rfl ?_
        show am_E _ (62, [vR o, vI p], [], aq_h m s F (aq_u c (o + 1) (c o 6) (am_w ((c (o + 1) (c o 6)) + 0)))) _
        generalize hdc_7 : aq_u c (o + 1) (c o 6) (am_w ((c (o + 1) (c o 6)) + 0)) = c_7
        have sc_7 := aq_smu hs hdc_7 (by omega)
        have hhcc_7 := hc_l hc hdc_7
        have hszc_7 := hc_lz hz hdc_7
        refine ae_iinc rfl rfl (am_ri (by omega) (by omega)) ?_
        show am_E _ (65, [vR o, vI (p + 1)], [], aq_h m s F c_7) _
        refine am_E.go (t2 := (24, [vR o, vI (p + 1)], [], aq_h m s F c_7)) rfl rfl ?_
        exact qc_keepDraft_l ⟨hm, hn1, hn4, hFo, hFl, hFg, hFt, hFp, hFq, hFd, hFs⟩ d (p + 1) c_7 sc_7 (by omega) (by omega) hhcc_7 hszc_7 (by omega)
      · refine am_E.go (t2 := (56, [vR o, vI p], [vI 1, vI (c (o + 1) (c o 6)), vI (c o 6), vR (o + 1)], aq_h m s F c)) rfl rfl ?_
        refine am_E.go (t2 := (60, [vR o, vI p], [vI 1, vI (c (o + 1) (c o 6)), vI (c o 6), vR (o + 1)], aq_h m s F c)) rfl rfl ?_
        refine am_E.go (t2 := (61, [vR o, vI p], [vI (am_w ((c (o + 1) (c o 6)) + 1)), vI (c o 6), vR (o + 1)], aq_h m s F c)) rfl rfl ?_
        refine aq_as (kd := 0) rfl rfl (by omega) hFl (by omega) (by omega) rfl rfl ?_
        show am_E _ (62, [vR o, vI p], [], aq_h m s F (aq_u c (o + 1) (c o 6) (am_w ((c (o + 1) (c o 6)) + 1)))) _
        generalize hdc_8 : aq_u c (o + 1) (c o 6) (am_w ((c (o + 1) (c o 6)) + 1)) = c_8
        have sc_8 := aq_smu hs hdc_8 (by omega)
        have hhcc_8 := hc_l hc hdc_8
        have hszc_8 := hc_lz hz hdc_8
        refine ae_iinc rfl rfl (am_ri (by omega) (by omega)) ?_
        show am_E _ (65, [vR o, vI (p + 1)], [], aq_h m s F c_8) _
        refine am_E.go (t2 := (24, [vR o, vI (p + 1)], [], aq_h m s F c_8)) rfl rfl ?_
        exact qc_keepDraft_l ⟨hm, hn1, hn4, hFo, hFl, hFg, hFt, hFp, hFq, hFd, hFs⟩ d (p + 1) c_8 sc_8 (by omega) (by omega) hhcc_8 hszc_8 (by omega)

theorem qc_keepDraft {m s : Nat} {F : aq_F} {c : aq_C} {o n : Nat} (hH : hc_0 m F o n) (hc : hc_I o n c) (hz : c o 6 < 6) : am_E ac_X2_keepDraft (0, [vR o, vU], [], aq_h m s F c) (aq_Z m s F (fun a => o ≤ a ∧ a < o + 18) c (fun r d => r = none ∧ hc_I o n d)) := by
  obtain ⟨hm, hn1, hn4, hFo, hFl, hFg, hFt, hFp, hFq, hFd, hFs⟩ := hH
  refine am_E.go (t2 := (1, [vR o, vU], [vR o], aq_h m s F c)) rfl rfl ?_
  refine aq_gf (v := vR (o + 16)) rfl (by omega) hFo (by decide) rfl ?_
  show am_E _ (4, [vR o, vU], [vR (o + 16)], aq_h m s F c) _
  refine am_E.go (t2 := (5, [vR o, vU], [vI 0, vR (o + 16)], aq_h m s F c)) rfl rfl ?_
  refine am_E.go (t2 := (6, [vR o, vU], [vR o, vI 0, vR (o + 16)], aq_h m s F c)) rfl rfl ?_
  refine aq_gf (v := vR (o + 9)) rfl (by omega) hFo (by decide) rfl ?_
  show am_E _ (9, [vR o, vU], [vR (o + 9), vI 0, vR (o + 16)], aq_h m s F c) _
  refine am_E.go (t2 := (10, [vR o, vU], [vR o, vR (o + 9), vI 0, vR (o + 16)], aq_h m s F c)) rfl rfl ?_
  refine aq_gf (v := vI (c o 6)) rfl (by omega) hFo (by decide) rfl ?_
  show am_E _ (13, [vR o, vU], [vI (c o 6), vR (o + 9), vI 0, vR (o + 16)], aq_h m s F c) _
  have f_1 := (hc).2.2
  refine aq_al (ok := fun k => decide (3 ≤ k) && decide (k < 7)) (v := vR (o + 10 + (c o 6).toNat)) rfl rfl (by omega) hFp rfl (by omega) (by omega) (aq_gi (by omega)) ?_
  show am_E _ (14, [vR o, vU], [vR (o + 10 + (c o 6).toNat), vI 0, vR (o + 16)], aq_h m s F c) _
  refine am_E.go (t2 := (15, [vR o, vU], [vI 0, vR (o + 10 + (c o 6).toNat), vI 0, vR (o + 16)], aq_h m s F c)) rfl rfl ?_
  refine am_E.go (t2 := (16, [vR o, vU], [vR o, vI 0, vR (o + 10 + (c o 6).toNat), vI 0, vR (o + 16)], aq_h m s F c)) rfl rfl ?_
  refine aq_gf (v := vI (n : Int)) rfl (by omega) hFo (by decide) rfl ?_
  show am_E _ (19, [vR o, vU], [vI (n : Int), vI 0, vR (o + 10 + (c o 6).toNat), vI 0, vR (o + 16)], aq_h m s F c) _
  refine aq_cpy (n := ((n : Int) : Int).toNat) (sp := (0 : Int).toNat) (dp := (0 : Int).toNat) rfl (by omega) (by omega) hFd (hFq _ (by omega)) (by decide) (by omega) (by omega) (by omega) (by omega) (by omega) ?_
  show am_E _ (22, [vR o, vU], [], aq_h m s F (aq_cp c (o + 16) (0 : Int).toNat (o + 10 + (c o 6).toNat) (0 : Int).toNat ((n : Int) : Int).toNat)) _
  generalize hdc_2 : aq_cp c (o + 16) (0 : Int).toNat (o + 10 + (c o 6).toNat) (0 : Int).toNat ((n : Int) : Int).toNat = c_2
  have sc_2 := aq_smc (aq_sm0 (c := c) (S := (fun a => o ≤ a ∧ a < o + 18))) hdc_2 (by omega)
  have hhcc_2 := hc_cp hc (by omega) hdc_2
  have hszc_2 := hc_cz hz hdc_2
  refine am_E.go (t2 := (23, [vR o, vU], [vI 0], aq_h m s F c_2)) rfl rfl ?_
  refine am_E.go (t2 := (24, [vR o, vI 0], [], aq_h m s F c_2)) rfl rfl ?_
  exact qc_keepDraft_l ⟨hm, hn1, hn4, hFo, hFl, hFg, hFt, hFp, hFq, hFd, hFs⟩ 6 0 c_2 sc_2 (by omega) (by omega) hhcc_2 hszc_2 (by omega)

theorem qc_init_l {m s : Nat} {F : aq_F} {c0 : aq_C} {o n : Nat} (hH : hc_0 m F o n) {D : Int} (hD : D ≤ 625) : ∀ (d : Nat) (i : Int) (c : aq_C) (hs : aq_sm (fun a => o ≤ a ∧ a < o + 18) c0 c) (h0 : 0 ≤ i) (h1 : i ≤ D) (hc : hc_I o n c) (hd : D - i < (d : Int)), am_E ac_X2_init (77, [vR o, vI (n : Int), vI D, vI i], [], aq_h m s F c) (aq_Z m s F (fun a => o ≤ a ∧ a < o + 18) c0 (fun r d => r = none ∧ hc_I o n d))
  | 0, i, c, hs, h0, h1, hc, hd => by exfalso; omega
  | d + 1, i, c, hs, h0, h1, hc, hd => by
    obtain ⟨hm, hn1, hn4, hFo, hFl, hFg, hFt, hFp, hFq, hFd, hFs⟩ := hH
    refine am_E.go (t2 := (78, [vR o, vI (n : Int), vI D, vI i], [vI i], aq_h m s F c)) rfl rfl ?_
    refine am_E.go (t2 := (79, [vR o, vI (n : Int), vI D, vI i], [vI D, vI i], aq_h m s F c)) rfl rfl ?_
    refine ae_icmp rfl (fun (q_1 : D ≤ i) => ?_) (fun (q_1 : i < D) => ?_)
    · refine am_E.ret rfl rfl ?_
      exact ⟨_, rfl, hs, rfl, hc⟩
    · refine am_E.go (t2 := (83, [vR o, vI (n : Int), vI D, vI i], [vR o], aq_h m s F c)) rfl rfl ?_
      refine am_E.go (t2 := (84, [vR o, vI (n : Int), vI D, vI i], [vR o, vR o], aq_h m s F c)) rfl rfl ?_
      refine aq_gf (v := vR (o + 16)) rfl (by omega) hFo (by decide) rfl ?_
      show am_E _ (87, [vR o, vI (n : Int), vI D, vI i], [vR (o + 16), vR o], aq_h m s F c) _
      refine aq_callv (y := 2) (as2 := [vR (o + 16)]) (rest := []) rfl rfl (by decide) (Nat.le_of_ble_eq_true rfl) rfl rfl (Nat.le_of_ble_eq_true rfl) (by omega) hFo rfl (Nat.le_of_ble_eq_true rfl) (qc_isHalf ⟨hm, hn1, hn4, hFo, hFl, hFg, hFt, hFp, hFq, hFd, hFs⟩ hc) ?_
      rintro r5 h5 ⟨rfl, v_2, rfl, hv_2⟩
      show am_E _ (90, [vR o, vI (n : Int), vI D, vI i], [vI v_2], aq_h m s F c) _
      refine ae_if0 rfl (fun (q_3 : v_2 = 0) => ?_) (fun (q_3 : v_2 ≠ 0) => ?_)
      · refine am_E.go (t2 := (107, [vR o, vI (n : Int), vI D, vI i], [vR o], aq_h m s F c)) rfl rfl ?_
        refine aq_callv (y := 1) (as2 := []) (rest := []) rfl rfl (by decide) (Nat.le_of_ble_eq_true rfl) rfl rfl (Nat.le_of_ble_eq_true rfl) (by omega) hFo rfl (Nat.le_of_ble_eq_true rfl) (qc_nextDraft ⟨hm, hn1, hn4, hFo, hFl, hFg, hFt, hFp, hFq, hFd, hFs⟩ hc) ?_
        rintro r5 h5 ⟨c_4, rfl, sc_4, rfl, hhc_4⟩
        show am_E _ (110, [vR o, vI (n : Int), vI D, vI i], [], aq_h m s F c_4) _
        refine ae_iinc rfl rfl (am_ri (by omega) (by omega)) ?_
        show am_E _ (113, [vR o, vI (n : Int), vI D, vI (i + 1)], [], aq_h m s F c_4) _
        refine am_E.go (t2 := (77, [vR o, vI (n : Int), vI D, vI (i + 1)], [], aq_h m s F c_4)) rfl rfl ?_
        exact qc_init_l ⟨hm, hn1, hn4, hFo, hFl, hFg, hFt, hFp, hFq, hFd, hFs⟩ hD d (i + 1) c_4 (aq_smt hs sc_4) (by omega) (by omega) hhc_4 (by omega)
      · refine am_E.go (t2 := (94, [vR o, vI (n : Int), vI D, vI i], [vR o], aq_h m s F c)) rfl rfl ?_
        refine aq_gf (v := vI (c o 6)) rfl (by omega) hFo (by decide) rfl ?_
        show am_E _ (97, [vR o, vI (n : Int), vI D, vI i], [vI (c o 6)], aq_h m s F c) _
        have f_5 := (hc).2.2
        refine am_E.go (t2 := (99, [vR o, vI (n : Int), vI D, vI i], [vI 6, vI (c o 6)], aq_h m s F c)) rfl rfl ?_
        refine ae_icmp rfl (fun (q_6 : 6 ≤ (c o 6)) => ?_) (fun (q_6 : (c o 6) < 6) => ?_)
        · refine am_E.go (t2 := (107, [vR o, vI (n : Int), vI D, vI i], [vR o], aq_h m s F c)) rfl rfl ?_
          refine aq_callv (y := 1) (as2 := []) (rest := []) rfl rfl (by decide) (Nat.le_of_ble_eq_true rfl) rfl rfl (Nat.le_of_ble_eq_true rfl) (by omega) hFo rfl (Nat.le_of_ble_eq_true rfl) (qc_nextDraft ⟨hm, hn1, hn4, hFo, hFl, hFg, hFt, hFp, hFq, hFd, hFs⟩ hc) ?_
          rintro r5 h5 ⟨c_7, rfl, sc_7, rfl, hhc_7⟩
          show am_E _ (110, [vR o, vI (n : Int), vI D, vI i], [], aq_h m s F c_7) _
          refine ae_iinc rfl rfl (am_ri (by omega) (by omega)) ?_
          show am_E _ (113, [vR o, vI (n : Int), vI D, vI (i + 1)], [], aq_h m s F c_7) _
          refine am_E.go (t2 := (77, [vR o, vI (n : Int), vI D, vI (i + 1)], [], aq_h m s F c_7)) rfl rfl ?_
          exact qc_init_l ⟨hm, hn1, hn4, hFo, hFl, hFg, hFt, hFp, hFq, hFd, hFs⟩ hD d (i + 1) c_7 (aq_smt hs sc_7) (by omega) (by omega) hhc_7 (by omega)
        · refine am_E.go (t2 := (103, [vR o, vI (n : Int), vI D, vI i], [vR o], aq_h m s F c)) rfl rfl ?_
          refine aq_callv (y := 1) (as2 := []) (rest := []) rfl rfl (by decide) (Nat.le_of_ble_eq_true rfl) rfl rfl (Nat.le_of_ble_eq_true rfl) (by omega) hFo rfl (Nat.le_of_ble_eq_true rfl) (qc_keepDraft ⟨hm, hn1, hn4, hFo, hFl, hFg, hFt, hFp, hFq, hFd, hFs⟩ hc (by omega)) ?_
          rintro r5 h5 ⟨c_8, rfl, sc_8, rfl, hhc_8⟩
          show am_E _ (106, [vR o, vI (n : Int), vI D, vI i], [], aq_h m s F c_8) _
          refine am_E.go (t2 := (107, [vR o, vI (n : Int), vI D, vI i], [vR o], aq_h m s F c_8)) rfl rfl ?_
          refine aq_callv (y := 1) (as2 := []) (rest := []) rfl rfl (by decide) (Nat.le_of_ble_eq_true rfl) rfl rfl (Nat.le_of_ble_eq_true rfl) (by omega) hFo rfl (Nat.le_of_ble_eq_true rfl) (qc_nextDraft ⟨hm, hn1, hn4, hFo, hFl, hFg, hFt, hFp, hFq, hFd, hFs⟩ hhc_8) ?_
          rintro r5 h5 ⟨c_9, rfl, sc_9, rfl, hhc_9⟩
          show am_E _ (110, [vR o, vI (n : Int), vI D, vI i], [], aq_h m s F c_9) _
          refine ae_iinc rfl rfl (am_ri (by omega) (by omega)) ?_
          show am_E _ (113, [vR o, vI (n : Int), vI D, vI (i + 1)], [], aq_h m s F c_9) _
          refine am_E.go (t2 := (77, [vR o, vI (n : Int), vI D, vI (i + 1)], [], aq_h m s F c_9)) rfl rfl ?_
          exact qc_init_l ⟨hm, hn1, hn4, hFo, hFl, hFg, hFt, hFp, hFq, hFd, hFs⟩ hD d (i + 1) c_9 (aq_smt (aq_smt hs sc_8) sc_9) (by omega) (by omega) hhc_9 (by omega)

theorem qc_pw1 {m s : Nat} {F : aq_F} {c : aq_C} {o : Nat} {Z : Option am_V → am_H → Prop} (k : am_E ac_X2_init (77, [vR o, vI 1, vI 2, vI 0], [], aq_h m s F c) Z) : am_E ac_X2_init (54, [vR o, vI 1, vU, vU], [], aq_h m s F c) Z := by
  refine am_E.go (t2 := (55, [vR o, vI 1, vU, vU], [vI 1], aq_h m s F c)) rfl rfl ?_
  refine am_E.go (t2 := (56, [vR o, vI 1, vI 1, vU], [], aq_h m s F c)) rfl rfl ?_
  refine am_E.go (t2 := (57, [vR o, vI 1, vI 1, vU], [vI 0], aq_h m s F c)) rfl rfl ?_
  refine am_E.go (t2 := (58, [vR o, vI 1, vI 1, vI 0], [], aq_h m s F c)) rfl rfl ?_
  refine am_E.go (t2 := (59, [vR o, vI 1, vI 1, vI 0], [vI 0], aq_h m s F c)) rfl rfl ?_
  refine am_E.go (t2 := (60, [vR o, vI 1, vI 1, vI 0], [vI 1, vI 0], aq_h m s F c)) rfl rfl ?_
  refine am_E.go (t2 := (63, [vR o, vI 1, vI 1, vI 0], [], aq_h m s F c)) rfl rfl ?_
  refine am_E.go (t2 := (64, [vR o, vI 1, vI 1, vI 0], [vI 1], aq_h m s F c)) rfl rfl ?_
  refine am_E.go (t2 := (65, [vR o, vI 1, vI 1, vI 0], [vI 1, vI 1], aq_h m s F c)) rfl rfl ?_
  refine am_E.go (t2 := (66, [vR o, vI 1, vI 1, vI 0], [vI 1, vI 1, vI 1], aq_h m s F c)) rfl rfl ?_
  refine am_E.go (t2 := (67, [vR o, vI 1, vI 1, vI 0], [vI 2, vI 1], aq_h m s F c)) rfl rfl ?_
  refine am_E.go (t2 := (68, [vR o, vI 1, vI 1, vI 0], [vI 2], aq_h m s F c)) rfl rfl ?_
  refine am_E.go (t2 := (69, [vR o, vI 1, vI 2, vI 0], [], aq_h m s F c)) rfl rfl ?_
  refine am_E.go (t2 := (72, [vR o, vI 1, vI 2, vI 1], [], aq_h m s F c)) rfl rfl ?_
  refine am_E.go (t2 := (58, [vR o, vI 1, vI 2, vI 1], [], aq_h m s F c)) rfl rfl ?_
  refine am_E.go (t2 := (59, [vR o, vI 1, vI 2, vI 1], [vI 1], aq_h m s F c)) rfl rfl ?_
  refine am_E.go (t2 := (60, [vR o, vI 1, vI 2, vI 1], [vI 1, vI 1], aq_h m s F c)) rfl rfl ?_
  refine am_E.go (t2 := (75, [vR o, vI 1, vI 2, vI 1], [], aq_h m s F c)) rfl rfl ?_
  refine am_E.go (t2 := (76, [vR o, vI 1, vI 2, vI 1], [vI 0], aq_h m s F c)) rfl rfl ?_
  refine am_E.go (t2 := (77, [vR o, vI 1, vI 2, vI 0], [], aq_h m s F c)) rfl rfl ?_
  exact k

theorem qc_pw2 {m s : Nat} {F : aq_F} {c : aq_C} {o : Nat} {Z : Option am_V → am_H → Prop} (k : am_E ac_X2_init (77, [vR o, vI 2, vI 9, vI 0], [], aq_h m s F c) Z) : am_E ac_X2_init (54, [vR o, vI 2, vU, vU], [], aq_h m s F c) Z := by
  refine am_E.go (t2 := (55, [vR o, vI 2, vU, vU], [vI 1], aq_h m s F c)) rfl rfl ?_
  refine am_E.go (t2 := (56, [vR o, vI 2, vI 1, vU], [], aq_h m s F c)) rfl rfl ?_
  refine am_E.go (t2 := (57, [vR o, vI 2, vI 1, vU], [vI 0], aq_h m s F c)) rfl rfl ?_
  refine am_E.go (t2 := (58, [vR o, vI 2, vI 1, vI 0], [], aq_h m s F c)) rfl rfl ?_
  refine am_E.go (t2 := (59, [vR o, vI 2, vI 1, vI 0], [vI 0], aq_h m s F c)) rfl rfl ?_
  refine am_E.go (t2 := (60, [vR o, vI 2, vI 1, vI 0], [vI 2, vI 0], aq_h m s F c)) rfl rfl ?_
  refine am_E.go (t2 := (63, [vR o, vI 2, vI 1, vI 0], [], aq_h m s F c)) rfl rfl ?_
  refine am_E.go (t2 := (64, [vR o, vI 2, vI 1, vI 0], [vI 1], aq_h m s F c)) rfl rfl ?_
  refine am_E.go (t2 := (65, [vR o, vI 2, vI 1, vI 0], [vI 2, vI 1], aq_h m s F c)) rfl rfl ?_
  refine am_E.go (t2 := (66, [vR o, vI 2, vI 1, vI 0], [vI 1, vI 2, vI 1], aq_h m s F c)) rfl rfl ?_
  refine am_E.go (t2 := (67, [vR o, vI 2, vI 1, vI 0], [vI 3, vI 1], aq_h m s F c)) rfl rfl ?_
  refine am_E.go (t2 := (68, [vR o, vI 2, vI 1, vI 0], [vI 3], aq_h m s F c)) rfl rfl ?_
  refine am_E.go (t2 := (69, [vR o, vI 2, vI 3, vI 0], [], aq_h m s F c)) rfl rfl ?_
  refine am_E.go (t2 := (72, [vR o, vI 2, vI 3, vI 1], [], aq_h m s F c)) rfl rfl ?_
  refine am_E.go (t2 := (58, [vR o, vI 2, vI 3, vI 1], [], aq_h m s F c)) rfl rfl ?_
  refine am_E.go (t2 := (59, [vR o, vI 2, vI 3, vI 1], [vI 1], aq_h m s F c)) rfl rfl ?_
  refine am_E.go (t2 := (60, [vR o, vI 2, vI 3, vI 1], [vI 2, vI 1], aq_h m s F c)) rfl rfl ?_
  refine am_E.go (t2 := (63, [vR o, vI 2, vI 3, vI 1], [], aq_h m s F c)) rfl rfl ?_
  refine am_E.go (t2 := (64, [vR o, vI 2, vI 3, vI 1], [vI 3], aq_h m s F c)) rfl rfl ?_
  refine am_E.go (t2 := (65, [vR o, vI 2, vI 3, vI 1], [vI 2, vI 3], aq_h m s F c)) rfl rfl ?_
  refine am_E.go (t2 := (66, [vR o, vI 2, vI 3, vI 1], [vI 1, vI 2, vI 3], aq_h m s F c)) rfl rfl ?_
  refine am_E.go (t2 := (67, [vR o, vI 2, vI 3, vI 1], [vI 3, vI 3], aq_h m s F c)) rfl rfl ?_
  refine am_E.go (t2 := (68, [vR o, vI 2, vI 3, vI 1], [vI 9], aq_h m s F c)) rfl rfl ?_
  refine am_E.go (t2 := (69, [vR o, vI 2, vI 9, vI 1], [], aq_h m s F c)) rfl rfl ?_
  refine am_E.go (t2 := (72, [vR o, vI 2, vI 9, vI 2], [], aq_h m s F c)) rfl rfl ?_
  refine am_E.go (t2 := (58, [vR o, vI 2, vI 9, vI 2], [], aq_h m s F c)) rfl rfl ?_
  refine am_E.go (t2 := (59, [vR o, vI 2, vI 9, vI 2], [vI 2], aq_h m s F c)) rfl rfl ?_
  refine am_E.go (t2 := (60, [vR o, vI 2, vI 9, vI 2], [vI 2, vI 2], aq_h m s F c)) rfl rfl ?_
  refine am_E.go (t2 := (75, [vR o, vI 2, vI 9, vI 2], [], aq_h m s F c)) rfl rfl ?_
  refine am_E.go (t2 := (76, [vR o, vI 2, vI 9, vI 2], [vI 0], aq_h m s F c)) rfl rfl ?_
  refine am_E.go (t2 := (77, [vR o, vI 2, vI 9, vI 0], [], aq_h m s F c)) rfl rfl ?_
  exact k

theorem qc_pw3 {m s : Nat} {F : aq_F} {c : aq_C} {o : Nat} {Z : Option am_V → am_H → Prop} (k : am_E ac_X2_init (77, [vR o, vI 3, vI 64, vI 0], [], aq_h m s F c) Z) : am_E ac_X2_init (54, [vR o, vI 3, vU, vU], [], aq_h m s F c) Z := by
  refine am_E.go (t2 := (55, [vR o, vI 3, vU, vU], [vI 1], aq_h m s F c)) rfl rfl ?_
  refine am_E.go (t2 := (56, [vR o, vI 3, vI 1, vU], [], aq_h m s F c)) rfl rfl ?_
  refine am_E.go (t2 := (57, [vR o, vI 3, vI 1, vU], [vI 0], aq_h m s F c)) rfl rfl ?_
  refine am_E.go (t2 := (58, [vR o, vI 3, vI 1, vI 0], [], aq_h m s F c)) rfl rfl ?_
  refine am_E.go (t2 := (59, [vR o, vI 3, vI 1, vI 0], [vI 0], aq_h m s F c)) rfl rfl ?_
  refine am_E.go (t2 := (60, [vR o, vI 3, vI 1, vI 0], [vI 3, vI 0], aq_h m s F c)) rfl rfl ?_
  refine am_E.go (t2 := (63, [vR o, vI 3, vI 1, vI 0], [], aq_h m s F c)) rfl rfl ?_
  refine am_E.go (t2 := (64, [vR o, vI 3, vI 1, vI 0], [vI 1], aq_h m s F c)) rfl rfl ?_
  refine am_E.go (t2 := (65, [vR o, vI 3, vI 1, vI 0], [vI 3, vI 1], aq_h m s F c)) rfl rfl ?_
  refine am_E.go (t2 := (66, [vR o, vI 3, vI 1, vI 0], [vI 1, vI 3, vI 1], aq_h m s F c)) rfl rfl ?_
  refine am_E.go (t2 := (67, [vR o, vI 3, vI 1, vI 0], [vI 4, vI 1], aq_h m s F c)) rfl rfl ?_
  refine am_E.go (t2 := (68, [vR o, vI 3, vI 1, vI 0], [vI 4], aq_h m s F c)) rfl rfl ?_
  refine am_E.go (t2 := (69, [vR o, vI 3, vI 4, vI 0], [], aq_h m s F c)) rfl rfl ?_
  refine am_E.go (t2 := (72, [vR o, vI 3, vI 4, vI 1], [], aq_h m s F c)) rfl rfl ?_
  refine am_E.go (t2 := (58, [vR o, vI 3, vI 4, vI 1], [], aq_h m s F c)) rfl rfl ?_
  refine am_E.go (t2 := (59, [vR o, vI 3, vI 4, vI 1], [vI 1], aq_h m s F c)) rfl rfl ?_
  refine am_E.go (t2 := (60, [vR o, vI 3, vI 4, vI 1], [vI 3, vI 1], aq_h m s F c)) rfl rfl ?_
  refine am_E.go (t2 := (63, [vR o, vI 3, vI 4, vI 1], [], aq_h m s F c)) rfl rfl ?_
  refine am_E.go (t2 := (64, [vR o, vI 3, vI 4, vI 1], [vI 4], aq_h m s F c)) rfl rfl ?_
  refine am_E.go (t2 := (65, [vR o, vI 3, vI 4, vI 1], [vI 3, vI 4], aq_h m s F c)) rfl rfl ?_
  refine am_E.go (t2 := (66, [vR o, vI 3, vI 4, vI 1], [vI 1, vI 3, vI 4], aq_h m s F c)) rfl rfl ?_
  refine am_E.go (t2 := (67, [vR o, vI 3, vI 4, vI 1], [vI 4, vI 4], aq_h m s F c)) rfl rfl ?_
  refine am_E.go (t2 := (68, [vR o, vI 3, vI 4, vI 1], [vI 16], aq_h m s F c)) rfl rfl ?_
  refine am_E.go (t2 := (69, [vR o, vI 3, vI 16, vI 1], [], aq_h m s F c)) rfl rfl ?_
  refine am_E.go (t2 := (72, [vR o, vI 3, vI 16, vI 2], [], aq_h m s F c)) rfl rfl ?_
  refine am_E.go (t2 := (58, [vR o, vI 3, vI 16, vI 2], [], aq_h m s F c)) rfl rfl ?_
  refine am_E.go (t2 := (59, [vR o, vI 3, vI 16, vI 2], [vI 2], aq_h m s F c)) rfl rfl ?_
  refine am_E.go (t2 := (60, [vR o, vI 3, vI 16, vI 2], [vI 3, vI 2], aq_h m s F c)) rfl rfl ?_
  refine am_E.go (t2 := (63, [vR o, vI 3, vI 16, vI 2], [], aq_h m s F c)) rfl rfl ?_
  refine am_E.go (t2 := (64, [vR o, vI 3, vI 16, vI 2], [vI 16], aq_h m s F c)) rfl rfl ?_
  refine am_E.go (t2 := (65, [vR o, vI 3, vI 16, vI 2], [vI 3, vI 16], aq_h m s F c)) rfl rfl ?_
  refine am_E.go (t2 := (66, [vR o, vI 3, vI 16, vI 2], [vI 1, vI 3, vI 16], aq_h m s F c)) rfl rfl ?_
  refine am_E.go (t2 := (67, [vR o, vI 3, vI 16, vI 2], [vI 4, vI 16], aq_h m s F c)) rfl rfl ?_
  refine am_E.go (t2 := (68, [vR o, vI 3, vI 16, vI 2], [vI 64], aq_h m s F c)) rfl rfl ?_
  refine am_E.go (t2 := (69, [vR o, vI 3, vI 64, vI 2], [], aq_h m s F c)) rfl rfl ?_
  refine am_E.go (t2 := (72, [vR o, vI 3, vI 64, vI 3], [], aq_h m s F c)) rfl rfl ?_
  refine am_E.go (t2 := (58, [vR o, vI 3, vI 64, vI 3], [], aq_h m s F c)) rfl rfl ?_
  refine am_E.go (t2 := (59, [vR o, vI 3, vI 64, vI 3], [vI 3], aq_h m s F c)) rfl rfl ?_
  refine am_E.go (t2 := (60, [vR o, vI 3, vI 64, vI 3], [vI 3, vI 3], aq_h m s F c)) rfl rfl ?_
  refine am_E.go (t2 := (75, [vR o, vI 3, vI 64, vI 3], [], aq_h m s F c)) rfl rfl ?_
  refine am_E.go (t2 := (76, [vR o, vI 3, vI 64, vI 3], [vI 0], aq_h m s F c)) rfl rfl ?_
  refine am_E.go (t2 := (77, [vR o, vI 3, vI 64, vI 0], [], aq_h m s F c)) rfl rfl ?_
  exact k

theorem qc_pw4 {m s : Nat} {F : aq_F} {c : aq_C} {o : Nat} {Z : Option am_V → am_H → Prop} (k : am_E ac_X2_init (77, [vR o, vI 4, vI 625, vI 0], [], aq_h m s F c) Z) : am_E ac_X2_init (54, [vR o, vI 4, vU, vU], [], aq_h m s F c) Z := by
  refine am_E.go (t2 := (55, [vR o, vI 4, vU, vU], [vI 1], aq_h m s F c)) rfl rfl ?_
  refine am_E.go (t2 := (56, [vR o, vI 4, vI 1, vU], [], aq_h m s F c)) rfl rfl ?_
  refine am_E.go (t2 := (57, [vR o, vI 4, vI 1, vU], [vI 0], aq_h m s F c)) rfl rfl ?_
  refine am_E.go (t2 := (58, [vR o, vI 4, vI 1, vI 0], [], aq_h m s F c)) rfl rfl ?_
  refine am_E.go (t2 := (59, [vR o, vI 4, vI 1, vI 0], [vI 0], aq_h m s F c)) rfl rfl ?_
  refine am_E.go (t2 := (60, [vR o, vI 4, vI 1, vI 0], [vI 4, vI 0], aq_h m s F c)) rfl rfl ?_
  refine am_E.go (t2 := (63, [vR o, vI 4, vI 1, vI 0], [], aq_h m s F c)) rfl rfl ?_
  refine am_E.go (t2 := (64, [vR o, vI 4, vI 1, vI 0], [vI 1], aq_h m s F c)) rfl rfl ?_
  refine am_E.go (t2 := (65, [vR o, vI 4, vI 1, vI 0], [vI 4, vI 1], aq_h m s F c)) rfl rfl ?_
  refine am_E.go (t2 := (66, [vR o, vI 4, vI 1, vI 0], [vI 1, vI 4, vI 1], aq_h m s F c)) rfl rfl ?_
  refine am_E.go (t2 := (67, [vR o, vI 4, vI 1, vI 0], [vI 5, vI 1], aq_h m s F c)) rfl rfl ?_
  refine am_E.go (t2 := (68, [vR o, vI 4, vI 1, vI 0], [vI 5], aq_h m s F c)) rfl rfl ?_
  refine am_E.go (t2 := (69, [vR o, vI 4, vI 5, vI 0], [], aq_h m s F c)) rfl rfl ?_
  refine am_E.go (t2 := (72, [vR o, vI 4, vI 5, vI 1], [], aq_h m s F c)) rfl rfl ?_
  refine am_E.go (t2 := (58, [vR o, vI 4, vI 5, vI 1], [], aq_h m s F c)) rfl rfl ?_
  refine am_E.go (t2 := (59, [vR o, vI 4, vI 5, vI 1], [vI 1], aq_h m s F c)) rfl rfl ?_
  refine am_E.go (t2 := (60, [vR o, vI 4, vI 5, vI 1], [vI 4, vI 1], aq_h m s F c)) rfl rfl ?_
  refine am_E.go (t2 := (63, [vR o, vI 4, vI 5, vI 1], [], aq_h m s F c)) rfl rfl ?_
  refine am_E.go (t2 := (64, [vR o, vI 4, vI 5, vI 1], [vI 5], aq_h m s F c)) rfl rfl ?_
  refine am_E.go (t2 := (65, [vR o, vI 4, vI 5, vI 1], [vI 4, vI 5], aq_h m s F c)) rfl rfl ?_
  refine am_E.go (t2 := (66, [vR o, vI 4, vI 5, vI 1], [vI 1, vI 4, vI 5], aq_h m s F c)) rfl rfl ?_
  refine am_E.go (t2 := (67, [vR o, vI 4, vI 5, vI 1], [vI 5, vI 5], aq_h m s F c)) rfl rfl ?_
  refine am_E.go (t2 := (68, [vR o, vI 4, vI 5, vI 1], [vI 25], aq_h m s F c)) rfl rfl ?_
  refine am_E.go (t2 := (69, [vR o, vI 4, vI 25, vI 1], [], aq_h m s F c)) rfl rfl ?_
  refine am_E.go (t2 := (72, [vR o, vI 4, vI 25, vI 2], [], aq_h m s F c)) rfl rfl ?_
  refine am_E.go (t2 := (58, [vR o, vI 4, vI 25, vI 2], [], aq_h m s F c)) rfl rfl ?_
  refine am_E.go (t2 := (59, [vR o, vI 4, vI 25, vI 2], [vI 2], aq_h m s F c)) rfl rfl ?_
  refine am_E.go (t2 := (60, [vR o, vI 4, vI 25, vI 2], [vI 4, vI 2], aq_h m s F c)) rfl rfl ?_
  refine am_E.go (t2 := (63, [vR o, vI 4, vI 25, vI 2], [], aq_h m s F c)) rfl rfl ?_
  refine am_E.go (t2 := (64, [vR o, vI 4, vI 25, vI 2], [vI 25], aq_h m s F c)) rfl rfl ?_
  refine am_E.go (t2 := (65, [vR o, vI 4, vI 25, vI 2], [vI 4, vI 25], aq_h m s F c)) rfl rfl ?_
  refine am_E.go (t2 := (66, [vR o, vI 4, vI 25, vI 2], [vI 1, vI 4, vI 25], aq_h m s F c)) rfl rfl ?_
  refine am_E.go (t2 := (67, [vR o, vI 4, vI 25, vI 2], [vI 5, vI 25], aq_h m s F c)) rfl rfl ?_
  refine am_E.go (t2 := (68, [vR o, vI 4, vI 25, vI 2], [vI 125], aq_h m s F c)) rfl rfl ?_
  refine am_E.go (t2 := (69, [vR o, vI 4, vI 125, vI 2], [], aq_h m s F c)) rfl rfl ?_
  refine am_E.go (t2 := (72, [vR o, vI 4, vI 125, vI 3], [], aq_h m s F c)) rfl rfl ?_
  refine am_E.go (t2 := (58, [vR o, vI 4, vI 125, vI 3], [], aq_h m s F c)) rfl rfl ?_
  refine am_E.go (t2 := (59, [vR o, vI 4, vI 125, vI 3], [vI 3], aq_h m s F c)) rfl rfl ?_
  refine am_E.go (t2 := (60, [vR o, vI 4, vI 125, vI 3], [vI 4, vI 3], aq_h m s F c)) rfl rfl ?_
  refine am_E.go (t2 := (63, [vR o, vI 4, vI 125, vI 3], [], aq_h m s F c)) rfl rfl ?_
  refine am_E.go (t2 := (64, [vR o, vI 4, vI 125, vI 3], [vI 125], aq_h m s F c)) rfl rfl ?_
  refine am_E.go (t2 := (65, [vR o, vI 4, vI 125, vI 3], [vI 4, vI 125], aq_h m s F c)) rfl rfl ?_
  refine am_E.go (t2 := (66, [vR o, vI 4, vI 125, vI 3], [vI 1, vI 4, vI 125], aq_h m s F c)) rfl rfl ?_
  refine am_E.go (t2 := (67, [vR o, vI 4, vI 125, vI 3], [vI 5, vI 125], aq_h m s F c)) rfl rfl ?_
  refine am_E.go (t2 := (68, [vR o, vI 4, vI 125, vI 3], [vI 625], aq_h m s F c)) rfl rfl ?_
  refine am_E.go (t2 := (69, [vR o, vI 4, vI 625, vI 3], [], aq_h m s F c)) rfl rfl ?_
  refine am_E.go (t2 := (72, [vR o, vI 4, vI 625, vI 4], [], aq_h m s F c)) rfl rfl ?_
  refine am_E.go (t2 := (58, [vR o, vI 4, vI 625, vI 4], [], aq_h m s F c)) rfl rfl ?_
  refine am_E.go (t2 := (59, [vR o, vI 4, vI 625, vI 4], [vI 4], aq_h m s F c)) rfl rfl ?_
  refine am_E.go (t2 := (60, [vR o, vI 4, vI 625, vI 4], [vI 4, vI 4], aq_h m s F c)) rfl rfl ?_
  refine am_E.go (t2 := (75, [vR o, vI 4, vI 625, vI 4], [], aq_h m s F c)) rfl rfl ?_
  refine am_E.go (t2 := (76, [vR o, vI 4, vI 625, vI 4], [vI 0], aq_h m s F c)) rfl rfl ?_
  refine am_E.go (t2 := (77, [vR o, vI 4, vI 625, vI 0], [], aq_h m s F c)) rfl rfl ?_
  exact k

theorem qc_pw {m s : Nat} {F : aq_F} {c : aq_C} {o n : Nat} {Z : Option am_V → am_H → Prop} (h1 : 1 ≤ n) (h4 : n ≤ 4) (k : ∀ D : Int, 0 ≤ D → D ≤ 625 → am_E ac_X2_init (77, [vR o, vI (n : Int), vI D, vI 0], [], aq_h m s F c) Z) : am_E ac_X2_init (54, [vR o, vI (n : Int), vU, vU], [], aq_h m s F c) Z := by
  have hn : n = 1 ∨ n = 2 ∨ n = 3 ∨ n = 4 := by omega
  rcases hn with hn | hn | hn | hn <;> subst hn
  · exact qc_pw1 (k 2 (by omega) (by omega))
  · exact qc_pw2 (k 9 (by omega) (by omega))
  · exact qc_pw3 (k 64 (by omega) (by omega))
  · exact qc_pw4 (k 625 (by omega) (by omega))

def hc_t0 : Nat → aq_T := fun j => aq_ot (ac_ft 2 j)
/-- strands is set -/
def hc_t1 (o n : Nat) : Nat → aq_T := fun y => match y with
  | 0 => .inr (vI (n : Int))
  | 2 => .inr (vR (o + 1))
  | 3 => .inr (vR (o + 2))
  | y => hc_t0 y

def hv_Z (o n sT : Nat) (F : aq_F) (c : aq_C) : Option am_V → am_H → Prop := fun r h2 => ∃ (s2 : Nat) (F2 : aq_F) (c2 : aq_C), r = none ∧ h2 = aq_h (o + 18) s2 F2 c2 ∧ s2 ≤ sT ∧ sb_H (o + 18) F2 o n ∧ (∀ b, b < o → F2 b = F b) ∧ ∀ b, b < o → ∀ j, c2 b j = c b j
theorem qc_init {s : Nat} {F : aq_F} {c : aq_C} {o n : Nat} (h1 : 1 ≤ n) (h4 : n ≤ 4) (hF : F o = (12, 7, hc_t0)) (hc : ∀ j, c o j = 0) : am_E ac_X2_init (0, [vR o, vI (n : Int), vU, vU], [], aq_h (o + 1) s F c) (hv_Z o n (s + 200) F c) := by
  refine am_E.go (t2 := (1, [vR o, vI (n : Int), vU, vU], [vR o], aq_h (o + 1) s F c)) rfl rfl ?_
  refine am_E.go (t2 := (4, [vR o, vI (n : Int), vU, vU], [], aq_h (o + 1) s F c)) rfl rfl ?_
  refine am_E.go (t2 := (5, [vR o, vI (n : Int), vU, vU], [vR o], aq_h (o + 1) s F c)) rfl rfl ?_
  refine am_E.go (t2 := (7, [vR o, vI (n : Int), vU, vU], [vI 6, vR o], aq_h (o + 1) s F c)) rfl rfl ?_
  refine aq_stp (o := o) (n := 6) (a := o + 1) (m2 := o + 2) rfl rfl hF (by omega) (by decide) rfl (by omega) rfl (by decide) rfl rfl ?_
  intro s_1 F_1 c_1 es_1 y_1 a_1 o_1 z_1 u_1
  show am_E _ (12, [vR o, vI (n : Int), vU, vU], [], aq_h (o + 2) s_1 F_1 c_1) _
  refine am_E.go (t2 := (13, [vR o, vI (n : Int), vU, vU], [vR o], aq_h (o + 2) s_1 F_1 c_1)) rfl rfl ?_
  refine am_E.go (t2 := (15, [vR o, vI (n : Int), vU, vU], [vI 6, vR o], aq_h (o + 2) s_1 F_1 c_1)) rfl rfl ?_
  refine am_E.go (t2 := (17, [vR o, vI (n : Int), vU, vU], [vI 6, vI 6, vR o], aq_h (o + 2) s_1 F_1 c_1)) rfl rfl ?_
  refine aq_gst (o := o) (n := 6) (w := 6) (a := o + 2) (m2 := o + 9) rfl rfl y_1 (by omega) rfl rfl (by omega) (by omega) rfl (by decide) rfl rfl ?_
  intro s_2 F_2 c_2 es_2 y_2 a_2 r_2 o_2 z_2 u_2
  show am_E _ (24, [vR o, vI (n : Int), vU, vU], [], aq_h (o + 9) s_2 F_2 c_2) _
  refine am_E.go (t2 := (25, [vR o, vI (n : Int), vU, vU], [vR o], aq_h (o + 9) s_2 F_2 c_2)) rfl rfl ?_
  refine am_E.go (t2 := (26, [vR o, vI (n : Int), vU, vU], [vI (n : Int), vR o], aq_h (o + 9) s_2 F_2 c_2)) rfl rfl ?_
  refine aq_pf rfl (by omega) y_2 (by decide) rfl rfl ?_
  show am_E _ (29, [vR o, vI (n : Int), vU, vU], [], aq_h (o + 9) s_2 F_2 (aq_u c_2 o 0 (n : Int))) _
  generalize hd : aq_u c_2 o 0 (n : Int) = c_3
  have z0 : c_3 o 0 = (n : Int) := by rw [← hd, aq_us]
  have zb : ∀ b j, (b ≠ o ∨ j ≠ 0) → c_3 b j = c_2 b j := fun b j hb => by rw [← hd, aq_un hb]
  have ef : aq_h (o + 9) s_2 F_2 c_3 = aq_h (o + 9) s_2 (am_up F_2 o (12, 7, hc_t1 o n)) c_3 := by
    refine aq_eq fun a => ?_
    by_cases e : a = o
    · subst e
      rw [am_up_s, y_2]
      refine ⟨rfl, rfl, fun i => ?_⟩
      match i with
      | 0 => exact congrArg vI z0.symm
      | 1 => rfl
      | 2 => rfl
      | 3 => rfl
      | i + 4 => rfl
    · rw [am_up_n e]
      exact ⟨rfl, rfl, fun i => rfl⟩
  rw [ef]
  have y_3 : am_up F_2 o (12, 7, hc_t1 o n) o = (12, 7, hc_t1 o n) := am_up_s
  have o_3 : ∀ b, b ≠ o → am_up F_2 o (12, 7, hc_t1 o n) b = F_2 b := fun b hb => am_up_n hb
  generalize am_up F_2 o (12, 7, hc_t1 o n) = F_3 at y_3 o_3 ⊢
  show am_E _ (29, [vR o, vI (n : Int), vU, vU], [], aq_h (o + 9) s_2 F_3 c_3) _
  refine am_E.go (t2 := (30, [vR o, vI (n : Int), vU, vU], [vR o], aq_h (o + 9) s_2 F_3 c_3)) rfl rfl ?_
  refine am_E.go (t2 := (32, [vR o, vI (n : Int), vU, vU], [vI 6, vR o], aq_h (o + 9) s_2 F_3 c_3)) rfl rfl ?_
  refine am_E.go (t2 := (33, [vR o, vI (n : Int), vU, vU], [vI (n : Int), vI 6, vR o], aq_h (o + 9) s_2 F_3 c_3)) rfl rfl ?_
  refine aq_gst (o := o) (n := 6) (w := n) (a := o + 9) (m2 := o + 16) rfl rfl y_3 (by omega) rfl rfl (by omega) (by omega) rfl (by decide) rfl rfl ?_
  intro s_4 F_4 c_4 es_4 y_4 a_4 r_4 o_4 z_4 u_4
  show am_E _ (40, [vR o, vI (n : Int), vU, vU], [], aq_h (o + 16) s_4 F_4 c_4) _
  refine am_E.go (t2 := (41, [vR o, vI (n : Int), vU, vU], [vR o], aq_h (o + 16) s_4 F_4 c_4)) rfl rfl ?_
  refine am_E.go (t2 := (42, [vR o, vI (n : Int), vU, vU], [vI (n : Int), vR o], aq_h (o + 16) s_4 F_4 c_4)) rfl rfl ?_
  refine aq_stp (o := o) (n := n) (a := o + 16) (m2 := o + 17) rfl rfl y_4 (by omega) (by decide) rfl (by omega) rfl (by decide) rfl rfl ?_
  intro s_5 F_5 c_5 es_5 y_5 a_5 o_5 z_5 u_5
  show am_E _ (47, [vR o, vI (n : Int), vU, vU], [], aq_h (o + 17) s_5 F_5 c_5) _
  refine am_E.go (t2 := (48, [vR o, vI (n : Int), vU, vU], [vR o], aq_h (o + 17) s_5 F_5 c_5)) rfl rfl ?_
  refine am_E.go (t2 := (49, [vR o, vI (n : Int), vU, vU], [vI (n : Int), vR o], aq_h (o + 17) s_5 F_5 c_5)) rfl rfl ?_
  refine aq_stp (o := o) (n := n) (a := o + 17) (m2 := o + 18) rfl rfl y_5 (by omega) (by decide) rfl (by omega) rfl (by decide) rfl rfl ?_
  intro s_6 F_6 c_6 es_6 y_6 a_6 o_6 z_6 u_6
  show am_E _ (54, [vR o, vI (n : Int), vU, vU], [], aq_h (o + 18) s_6 F_6 c_6) _
  have et : am_up (am_up (am_up (hc_t1 o n) 1 (.inr (vR (o + 9)))) 4 (.inr (vR (o + 16)))) 5 (.inr (vR (o + 17))) = hc_t o n := by
    funext k
    match k with
    | 0 => rfl
    | 1 => rfl
    | 2 => rfl
    | 3 => rfl
    | 4 => rfl
    | 5 => rfl
    | k + 6 =>
      repeat rw [am_up_n (by omega)]
      match k with
      | 0 => rfl
      | k + 1 => rfl
  rw [et] at y_6
  have g1 : F_6 (o + 1) = (0, 6, fun _ => .inl 0) := by rw [o_6 _ (by omega) (by omega), o_5 _ (by omega) (by omega), o_4 _ (by omega) (by omega), o_3 _ (by omega), o_2 _ (by omega) (by omega)]; exact a_1
  have g2 : F_6 (o + 2) = (3, 6, fun j => aq_g 6 j (o + 3 + j)) := by rw [o_6 _ (by omega) (by omega), o_5 _ (by omega) (by omega), o_4 _ (by omega) (by omega), o_3 _ (by omega)]; exact a_2
  have g3 : ∀ j, j < 6 → F_6 (o + 3 + j) = (0, 6, fun _ => .inl 0) := fun j hj => by rw [o_6 _ (by omega) (by omega), o_5 _ (by omega) (by omega), o_4 _ (by omega) (by omega), o_3 _ (by omega)]; exact r_2 j hj
  have g9 : F_6 (o + 9) = (3, 6, fun j => aq_g 6 j (o + 10 + j)) := by rw [o_6 _ (by omega) (by omega), o_5 _ (by omega) (by omega)]; exact a_4
  have g10 : ∀ h, h < 6 → F_6 (o + 10 + h) = (0, n, fun _ => .inl 0) := fun h hh => by rw [o_6 _ (by omega) (by omega), o_5 _ (by omega) (by omega)]; exact r_4 h hh
  have g16 : F_6 (o + 16) = (0, n, fun _ => .inl 0) := by rw [o_6 _ (by omega) (by omega)]; exact a_5
  have gb : ∀ b, b < o → F_6 b = F b := fun b hb => by rw [o_6 _ (by omega) (by omega), o_5 _ (by omega) (by omega), o_4 _ (by omega) (by omega), o_3 _ (by omega), o_2 _ (by omega) (by omega), o_1 _ (by omega) (by omega)]
  have hH : hc_0 (o + 18) F_6 o n := ⟨Nat.le_refl _, h1, h4, y_6, g1, g2, g3, g9, g10, g16, a_6⟩
  have zc : ∀ b, b < o → ∀ j, c_6 b j = c b j := fun b hb j => by rw [u_6 _ (by omega), u_5 _ (by omega), u_4 _ (by omega), zb _ _ (Or.inl (by omega)), u_2 _ (by omega), u_1 _ (by omega)]
  have zd : ∀ j, c_6 (o + 16) j = 0 := fun j => by rw [u_6 _ (by omega)]; exact z_5 j
  have zp : ∀ h, h < 6 → ∀ j, c_6 (o + 10 + h) j = 0 := fun h hh j => by rw [u_6 _ (by omega), u_5 _ (by omega)]; exact z_4 _ (by omega) (by omega) j
  have zo : c_6 o 6 = 0 := by rw [u_6 _ (by omega), u_5 _ (by omega), u_4 _ (by omega), zb _ _ (Or.inr (by decide)), u_2 _ (by omega), u_1 _ (by omega)]; exact hc 6
  have hI : hc_I o n c_6 := ⟨fun i _ _ => by rw [zd]; omega, fun h hh i _ _ => by rw [zp h hh]; omega, by omega, by omega⟩
  refine qc_pw h1 h4 (fun D hD0 hD => ?_)
  refine am_E.imp (qc_init_l hH hD 626 0 c_6 aq_sm0 (by omega) (by omega) hI (by omega)) ?_
  rintro r h2 ⟨d, rfl, e1, rfl, i1, i2, i3, i4⟩
  have f0 : ∀ a, (a = o + 1 ∨ (o + 10 ≤ a ∧ a < o + 16)) → ∃ w, F_6 a = (0, w, fun _ => .inl 0) := by
    intro a ha
    rcases ha with ha | ha
    · exact ⟨6, by rw [ha]; exact g1⟩
    · have := g10 (a - (o + 10)) (by omega)
      rw [show o + 10 + (a - (o + 10)) = a by omega] at this
      exact ⟨_, this⟩
  rw [aq_fzh f0]
  have q1 : ∀ a, ¬ (a = o + 1 ∨ (o + 10 ≤ a ∧ a < o + 16)) → aq_fz (fun a => a = o + 1 ∨ (o + 10 ≤ a ∧ a < o + 16)) F_6 d a = F_6 a := fun a ha => aq_fzn ha
  have q2 : aq_fz (fun a => a = o + 1 ∨ (o + 10 ≤ a ∧ a < o + 16)) F_6 d (o + 1) = (0, 6, fun j => .inr (vI (d (o + 1) (j : Int)))) := aq_fzy (Or.inl rfl) g1
  have q3 : ∀ h, h < 6 → aq_fz (fun a => a = o + 1 ∨ (o + 10 ≤ a ∧ a < o + 16)) F_6 d (o + 10 + h) = (0, n, fun j => .inr (vI (d (o + 10 + ((h : Int)).toNat) (j : Int)))) := fun h hh => by
    rw [Int.toNat_natCast]
    exact aq_fzy (Or.inr (by omega)) (g10 h hh)
  generalize aq_fz (fun a => a = o + 1 ∨ (o + 10 ≤ a ∧ a < o + 16)) F_6 d = F_7 at q1 q2 q3 ⊢
  have ez : ((d o 6).toNat : Int) = d o 6 := Int.toNat_of_nonneg i3
  have ef2 : aq_h (o + 18) s_6 F_7 d = aq_h (o + 18) s_6 (am_up F_7 o (12, 7, hv_t o n (d o 6).toNat)) d := by
    refine aq_eq fun a => ?_
    by_cases e : a = o
    · subst e
      rw [am_up_s, q1 _ (by omega), y_6]
      refine ⟨rfl, rfl, fun i => ?_⟩
      match i with
      | 0 => rfl
      | 1 => rfl
      | 2 => rfl
      | 3 => rfl
      | 4 => rfl
      | 5 => rfl
      | 6 => exact congrArg vI ez
      | i + 7 => rfl
    · rw [am_up_n e]
      exact ⟨rfl, rfl, fun i => rfl⟩
  rw [ef2]
  refine ⟨s_6, _, d, rfl, rfl, ?_, ⟨(d o 6).toNat, fun i => d (o + 1) i, fun h i => d (o + 10 + h.toNat) i, Nat.le_refl _, h1, h4, by omega, am_up_s, ?_, ?_, fun j hj => ?_, ?_, fun h hh => ?_, ?_, ?_, fun h p k0 k1 k2 k3 => ?_⟩, fun b hb => ?_, fun b hb j => ?_⟩
  · omega
  · rw [am_up_n (by omega)]; exact q2
  · rw [am_up_n (by omega), q1 _ (by omega)]; exact g2
  · rw [am_up_n (by omega), q1 _ (by omega)]; exact g3 j hj
  · rw [am_up_n (by omega), q1 _ (by omega)]; exact g9
  · rw [am_up_n (by omega)]; exact q3 h hh
  · rw [am_up_n (by omega), q1 _ (by omega)]; exact g16
  · rw [am_up_n (by omega), q1 _ (by omega)]; exact a_6
  · have := i2 h.toNat (by omega) p k2 k3
    show 0 ≤ d (o + 10 + h.toNat) p ∧ d (o + 10 + h.toNat) p ≤ (n : Int)
    omega
  · rw [am_up_n (by omega), q1 _ (by omega)]; exact gb b hb
  · rw [e1 _ (by omega)]; exact zc b hb j
