
def fo_vk : Bool := (List.range 5).all (fun n => (List.range 5).all (fun t => (List.range 6).all (fun i => (List.range 6).all (fun j => decide (-4 ≤ fo_v (n : Int) (t : Int) (i : Int) (j : Int)) && decide (fo_v (n : Int) (t : Int) (i : Int) (j : Int) ≤ 4)))))
theorem fo_vkt : fo_vk = true := by decide +kernel
theorem fo_vb {n t i j : Int} (h1 : 1 ≤ n) (h4 : n ≤ 4) (t0 : 0 ≤ t) (t1 : t ≤ n) (i0 : 0 ≤ i) (i1 : i < hv_N n t) (j0 : 0 ≤ j) (j1 : j < hv_N n t) : -4 ≤ fo_v n t i j ∧ fo_v n t i j ≤ 4 := by
  have hb := hv_Nb n t
  have ck := fo_vkt
  unfold fo_vk at ck
  have a := List.all_eq_true.mp ck n.toNat (List.mem_range.mpr (by omega))
  have b := List.all_eq_true.mp a t.toNat (List.mem_range.mpr (by omega))
  have c := List.all_eq_true.mp b i.toNat (List.mem_range.mpr (by omega))
  have d := List.all_eq_true.mp c j.toNat (List.mem_range.mpr (by omega))
  simp only [Bool.and_eq_true, decide_eq_true_eq] at d
  rw [Int.toNat_of_nonneg (show 0 ≤ n by omega), Int.toNat_of_nonneg t0, Int.toNat_of_nonneg i0, Int.toNat_of_nonneg j0] at d
  exact d
theorem nm_tme {v p : Int} (hp : 0 < p) : (v.tmod p + p) % p = v % p := by
  have ht := Int.tmod_eq_emod (a := v) (b := p)
  have e0 := Int.emod_emod v p
  by_cases hh : 0 ≤ v ∨ p ∣ v
  · rw [ht, if_pos hh, show v % p - ((0 : Nat) : Int) + p = v % p + p * 1 by omega, Int.add_mul_emod_self_left, e0]
  · rw [ht, if_neg hh, show v % p - (p.natAbs : Int) + p = v % p by omega, e0]
theorem en_1 {v p f e : Int} (h : e = rs_ v p f 6 0 0) (hf : f = -4) : e = en_ v p f := by
  rw [h, en_, if_pos hf, rs_, if_neg (by omega)]
theorem en_2 {v p f e : Int} (h : e = rs_ v p f 6 0 (1 % p)) (hf : f ≠ -4) : e = en_ v p f := by
  rw [h, en_, if_neg hf]
theorem fe_r {n t v p mn : Int} (h : ((1 ≤ n ∧ n ≤ 4 ∧ 0 ≤ t ∧ t ≤ n) ∧ -1000 ≤ v ∧ v ≤ 1000) ∧ (2 ≤ p ∧ p ≤ 997) ∧ ip_ p 32 2 = 1) (hm : mn = hv_N n t) : rk_r mn p 8 0 0 (fun i j => en_ (v % p) p (fo_v n t i j)) = fe_a n t v p := by
  have hb := hv_Nb n t
  have hR : mx_R (hv_N n t) p (fun i j => en_ (v % p) p (fo_v n t i j)) (fun i j => en_ (v % p) p (fo_v n t i j)) := mx_R1 h.2.1.1 (fun i j _ _ _ _ => ⟨en_b (by omega), rfl⟩)
  rw [hm, fe_a, if_pos h]
  exact Eq.symm (rk_e h.2.1.1 h.2.1.2 (ip_nm h.2.1.2 h.2.2) (by omega) 8 0 0 _ _ (by omega) (by omega) (by omega) hR)
def fg_ (y : Nat) (n t lt p mn i j : Int) (c : aq_C) : Prop := ∀ a b : Int, 0 ≤ a → 0 ≤ b → b < mn → (a < i ∨ (a = i ∧ b < j)) → c (y + 20) (6 * a + b) = en_ lt p (fo_v n t a b)
theorem fg_u {y : Nat} {n t lt p mn i j x : Int} {c d : aq_C} (h : fg_ y n t lt p mn i j c) (he : aq_u c (y + 20) (6 * i + j) x = d) (hx : x = en_ lt p (fo_v n t i j)) (hm : mn ≤ 6) (hj : j < mn) (hj0 : 0 ≤ j) : fg_ y n t lt p mn i (j + 1) d := fun a b a1 a2 a3 a4 => by
  rw [← he]
  by_cases e : a = i ∧ b = j
  · rw [e.1, e.2, aq_us, hx]
  · rw [aq_un (Or.inr (by omega))]
    exact h a b a1 a2 a3 (by omega)
theorem fg_c {y : Nat} {n t lt p mn i j : Int} {c d : aq_C} (h : fg_ y n t lt p mn i j c) (hs : ∀ k, d (y + 20) k = c (y + 20) k) : fg_ y n t lt p mn i j d := fun a b a1 a2 a3 a4 => by
  rw [hs]
  exact h a b a1 a2 a3 a4

theorem qx_form5 {m s : Nat} {F : aq_F} {c : aq_C} {y : Nat} (hO : mo_0 m F y) {n t i j : Int} (hn1 : 1 ≤ n) (hn4 : n ≤ 4) (ht0 : 0 ≤ t) (ht1 : t ≤ n) (hi0 : 0 ≤ i) (hi1 : i < hv_N n t) (hj0 : 0 ≤ j) (hj1 : j < hv_N n t) : am_E ac_X5_form (0, [vR y, vI n, vI t, vI i, vI j, vU, vU, vU], [], aq_h m s F c) (aq_Z m s F (mo_S y) c (fun r d => mo_k y c d ∧ (∀ i, d (y + 20) i = c (y + 20) i) ∧ r = some (vI (fo_v n t i j)))) := by
  obtain ⟨hm, hFo, hG5, hG6, hG7, hG8, hG9, hG10, hG11, hG12, hG13, hG14, hG15, hG16, hG17, hG18, hG19, hG20, hG21, hG22, hG23⟩ := hO
  refine am_E.go (t2 := (1, [vR y, vI n, vI t, vI i, vI j, vU, vU, vU], [vI n], aq_h m s F c)) rfl rfl ?_
  refine am_E.go (t2 := (2, [vR y, vI n, vI t, vI i, vI j, vU, vU, vU], [vI t, vI n], aq_h m s F c)) rfl rfl ?_
  refine am_E.call rfl rfl rfl (Nat.le_of_ble_eq_true rfl) (qm_areHalves) ?_
  rintro r5 h5 ⟨rfl, v_1, rfl, hv_1⟩
  show am_E _ (5, [vR y, vI n, vI t, vI i, vI j, vU, vU, vU], [vI v_1], aq_h m s F c) _
  refine ae_if0 rfl (fun (q_2 : v_1 ≠ 0) => ?_) (fun (q_2 : v_1 = 0) => ?_)
  · refine am_E.go (t2 := (11, [vR y, vI n, vI t, vI i, vI j, vU, vU, vU], [vR y], aq_h m s F c)) rfl rfl ?_
    refine am_E.go (t2 := (12, [vR y, vI n, vI t, vI i, vI j, vU, vU, vU], [vI n, vR y], aq_h m s F c)) rfl rfl ?_
    refine am_E.go (t2 := (13, [vR y, vI n, vI t, vI i, vI j, vU, vU, vU], [vI t, vI n, vR y], aq_h m s F c)) rfl rfl ?_
    refine am_E.go (t2 := (14, [vR y, vI n, vI t, vI i, vI j, vU, vU, vU], [vI (-1), vI t, vI n, vR y], aq_h m s F c)) rfl rfl ?_
    refine am_E.go (t2 := (15, [vR y, vI n, vI t, vI i, vI j, vU, vU, vU], [vR y, vI (-1), vI t, vI n, vR y], aq_h m s F c)) rfl rfl ?_
    refine aq_gf (v := vR (y + 18)) rfl (by omega) hFo (by decide) rfl ?_
    show am_E _ (18, [vR y, vI n, vI t, vI i, vI j, vU, vU, vU], [vR (y + 18), vI (-1), vI t, vI n, vR y], aq_h m s F c) _
    refine aq_callv (y := 5) (as2 := [vI n, vI t, vI (-1), vR (y + 18)]) (rest := []) rfl rfl (by decide) (Nat.le_of_ble_eq_true rfl) rfl rfl (Nat.le_of_ble_eq_true rfl) (by omega) hFo rfl (Nat.le_of_ble_eq_true rfl) (qm_lay (y := y) (a := y + 18) (by omega) hFo (by omega) hG18 (n := n) (t := t) (by omega) (by omega) (by omega) (by omega) (Or.inl rfl)) ?_
    rintro r5 h5 ⟨c_3, rfl, sc_3, vc_3, rfl, hmc_3, hdc_3⟩
    show am_E _ (21, [vR y, vI n, vI t, vI i, vI j, vU, vU, vU], [vI vc_3], aq_h m s F c_3) _
    have hm5 := hmc_3 rfl
    have hNb := hv_Nb n t
    refine am_E.go (t2 := (23, [vR y, vI n, vI t, vI i, vI j, vI vc_3, vU, vU], [], aq_h m s F c_3)) rfl rfl ?_
    refine am_E.go (t2 := (24, [vR y, vI n, vI t, vI i, vI j, vI vc_3, vU, vU], [vI i], aq_h m s F c_3)) rfl rfl ?_
    refine am_E.go (t2 := (25, [vR y, vI n, vI t, vI i, vI j, vI vc_3, vU, vU], [vL i], aq_h m s F c_3)) rfl rfl ?_
    refine am_E.go (t2 := (26, [vR y, vI n, vI t, vI i, vI j, vI vc_3, vU, vU], [vL 0, vL i], aq_h m s F c_3)) rfl rfl ?_
    refine am_E.go (t2 := (28, [vR y, vI n, vI t, vI i, vI j, vI vc_3, vU, vU], [vI vc_3, vL 0, vL i], aq_h m s F c_3)) rfl rfl ?_
    refine am_E.go (t2 := (29, [vR y, vI n, vI t, vI i, vI j, vI vc_3, vU, vU], [vI 1, vI vc_3, vL 0, vL i], aq_h m s F c_3)) rfl rfl ?_
    refine ae_sub rfl (am_ri (by omega) (by omega)) ?_
    show am_E _ (30, [vR y, vI n, vI t, vI i, vI j, vI vc_3, vU, vU], [vI (vc_3 - 1), vL 0, vL i], aq_h m s F c_3) _
    refine am_E.go (t2 := (31, [vR y, vI n, vI t, vI i, vI j, vI vc_3, vU, vU], [vL (vc_3 - 1), vL 0, vL i], aq_h m s F c_3)) rfl rfl ?_
    refine am_E.call rfl rfl rfl (Nat.le_of_ble_eq_true rfl) (qm_in) ?_
    rintro r5 h5 ⟨rfl, v_4, rfl, hv_4⟩
    show am_E _ (34, [vR y, vI n, vI t, vI i, vI j, vI vc_3, vU, vU], [vI v_4], aq_h m s F c_3) _
    refine ae_if0 rfl (fun (q_5 : v_4 = 0) => ?_) (fun (q_5 : v_4 ≠ 0) => ?_)
    · refine am_E.go (t2 := (53, [vR y, vI n, vI t, vI i, vI j, vI vc_3, vU, vU], [vI (-1)], aq_h m s F c_3)) rfl rfl ?_
      refine am_E.ret rfl rfl ?_
      exfalso
      omega
    · refine am_E.go (t2 := (39, [vR y, vI n, vI t, vI i, vI j, vI vc_3, vU, vU], [vI j], aq_h m s F c_3)) rfl rfl ?_
      refine am_E.go (t2 := (40, [vR y, vI n, vI t, vI i, vI j, vI vc_3, vU, vU], [vL j], aq_h m s F c_3)) rfl rfl ?_
      refine am_E.go (t2 := (41, [vR y, vI n, vI t, vI i, vI j, vI vc_3, vU, vU], [vL 0, vL j], aq_h m s F c_3)) rfl rfl ?_
      refine am_E.go (t2 := (43, [vR y, vI n, vI t, vI i, vI j, vI vc_3, vU, vU], [vI vc_3, vL 0, vL j], aq_h m s F c_3)) rfl rfl ?_
      refine am_E.go (t2 := (44, [vR y, vI n, vI t, vI i, vI j, vI vc_3, vU, vU], [vI 1, vI vc_3, vL 0, vL j], aq_h m s F c_3)) rfl rfl ?_
      refine ae_sub rfl (am_ri (by omega) (by omega)) ?_
      show am_E _ (45, [vR y, vI n, vI t, vI i, vI j, vI vc_3, vU, vU], [vI (vc_3 - 1), vL 0, vL j], aq_h m s F c_3) _
      refine am_E.go (t2 := (46, [vR y, vI n, vI t, vI i, vI j, vI vc_3, vU, vU], [vL (vc_3 - 1), vL 0, vL j], aq_h m s F c_3)) rfl rfl ?_
      refine am_E.call rfl rfl rfl (Nat.le_of_ble_eq_true rfl) (qm_in) ?_
      rintro r5 h5 ⟨rfl, v_6, rfl, hv_6⟩
      show am_E _ (49, [vR y, vI n, vI t, vI i, vI j, vI vc_3, vU, vU], [vI v_6], aq_h m s F c_3) _
      refine ae_if0 rfl (fun (q_7 : v_6 ≠ 0) => ?_) (fun (q_7 : v_6 = 0) => ?_)
      · refine am_E.go (t2 := (55, [vR y, vI n, vI t, vI i, vI j, vI vc_3, vU, vU], [vR y], aq_h m s F c_3)) rfl rfl ?_
        refine am_E.go (t2 := (56, [vR y, vI n, vI t, vI i, vI j, vI vc_3, vU, vU], [vI n, vR y], aq_h m s F c_3)) rfl rfl ?_
        refine am_E.go (t2 := (57, [vR y, vI n, vI t, vI i, vI j, vI vc_3, vU, vU], [vI t, vI n, vR y], aq_h m s F c_3)) rfl rfl ?_
        refine am_E.go (t2 := (58, [vR y, vI n, vI t, vI i, vI j, vI vc_3, vU, vU], [vI i, vI t, vI n, vR y], aq_h m s F c_3)) rfl rfl ?_
        refine am_E.go (t2 := (59, [vR y, vI n, vI t, vI i, vI j, vI vc_3, vU, vU], [vR y, vI i, vI t, vI n, vR y], aq_h m s F c_3)) rfl rfl ?_
        refine aq_gf (v := vR (y + 18)) rfl (by omega) hFo (by decide) rfl ?_
        show am_E _ (62, [vR y, vI n, vI t, vI i, vI j, vI vc_3, vU, vU], [vR (y + 18), vI i, vI t, vI n, vR y], aq_h m s F c_3) _
        refine aq_callv (y := 5) (as2 := [vI n, vI t, vI i, vR (y + 18)]) (rest := []) rfl rfl (by decide) (Nat.le_of_ble_eq_true rfl) rfl rfl (Nat.le_of_ble_eq_true rfl) (by omega) hFo rfl (Nat.le_of_ble_eq_true rfl) (qm_lay (y := y) (a := y + 18) (by omega) hFo (by omega) hG18 (n := n) (t := t) (by omega) (by omega) (by omega) (by omega) (Or.inr ⟨by omega, by omega⟩)) ?_
        rintro r5 h5 ⟨c_8, rfl, sc_8, vc_8, rfl, hmc_8, hdc_8⟩
        show am_E _ (65, [vR y, vI n, vI t, vI i, vI j, vI vc_3, vU, vU], [vI vc_8], aq_h m s F c_8) _
        have hNb := hv_Nb n t
        refine am_E.go (t2 := (67, [vR y, vI n, vI t, vI i, vI j, vI vc_3, vI vc_8, vU], [], aq_h m s F c_8)) rfl rfl ?_
        refine am_E.go (t2 := (68, [vR y, vI n, vI t, vI i, vI j, vI vc_3, vI vc_8, vU], [vR y], aq_h m s F c_8)) rfl rfl ?_
        refine am_E.go (t2 := (69, [vR y, vI n, vI t, vI i, vI j, vI vc_3, vI vc_8, vU], [vI n, vR y], aq_h m s F c_8)) rfl rfl ?_
        refine am_E.go (t2 := (70, [vR y, vI n, vI t, vI i, vI j, vI vc_3, vI vc_8, vU], [vI t, vI n, vR y], aq_h m s F c_8)) rfl rfl ?_
        refine am_E.go (t2 := (72, [vR y, vI n, vI t, vI i, vI j, vI vc_3, vI vc_8, vU], [vI j, vI t, vI n, vR y], aq_h m s F c_8)) rfl rfl ?_
        refine am_E.go (t2 := (73, [vR y, vI n, vI t, vI i, vI j, vI vc_3, vI vc_8, vU], [vR y, vI j, vI t, vI n, vR y], aq_h m s F c_8)) rfl rfl ?_
        refine aq_gf (v := vR (y + 19)) rfl (by omega) hFo (by decide) rfl ?_
        show am_E _ (76, [vR y, vI n, vI t, vI i, vI j, vI vc_3, vI vc_8, vU], [vR (y + 19), vI j, vI t, vI n, vR y], aq_h m s F c_8) _
        refine aq_callv (y := 5) (as2 := [vI n, vI t, vI j, vR (y + 19)]) (rest := []) rfl rfl (by decide) (Nat.le_of_ble_eq_true rfl) rfl rfl (Nat.le_of_ble_eq_true rfl) (by omega) hFo rfl (Nat.le_of_ble_eq_true rfl) (qm_lay (y := y) (a := y + 19) (by omega) hFo (by omega) hG19 (n := n) (t := t) (by omega) (by omega) (by omega) (by omega) (Or.inr ⟨by omega, by omega⟩)) ?_
        rintro r5 h5 ⟨c_9, rfl, sc_9, vc_9, rfl, hmc_9, hdc_9⟩
        show am_E _ (79, [vR y, vI n, vI t, vI i, vI j, vI vc_3, vI vc_8, vU], [vI vc_9], aq_h m s F c_9) _
        have hNb := hv_Nb n t
        refine am_E.go (t2 := (81, [vR y, vI n, vI t, vI i, vI j, vI vc_3, vI vc_8, vI vc_9], [], aq_h m s F c_9)) rfl rfl ?_
        refine am_E.go (t2 := (82, [vR y, vI n, vI t, vI i, vI j, vI vc_3, vI vc_8, vI vc_9], [vR y], aq_h m s F c_9)) rfl rfl ?_
        refine am_E.go (t2 := (83, [vR y, vI n, vI t, vI i, vI j, vI vc_3, vI vc_8, vI vc_9], [vI n, vR y], aq_h m s F c_9)) rfl rfl ?_
        refine aq_callv (y := 2) (as2 := [vI n]) (rest := []) rfl rfl (by decide) (Nat.le_of_ble_eq_true rfl) rfl rfl (Nat.le_of_ble_eq_true rfl) (by omega) hFo rfl (Nat.le_of_ble_eq_true rfl) (qz_formOf ⟨hm, hFo, hG5, hG6, hG7, hG8, hG9, hG10, hG11, hG12, hG13, hG14, hG15, hG16, hG17, hG18, hG19, hG20, hG21, hG22, hG23⟩ (n := n) (t := t) (i := i) (j := j) (by omega) (by omega) (by omega) (by omega) (by omega) (by omega) (by omega) (by omega) (fun p5 h5 h6 => by rw [sc_9 _ (by omega)]; exact hdc_8 (by omega) p5 h5 h6) (fun p5 h5 h6 => hdc_9 (by omega) p5 h5 h6)) ?_
        rintro r5 h5 ⟨c_f, rfl, s_f, rfl⟩
        show am_E _ (86, [vR y, vI n, vI t, vI i, vI j, vI vc_3, vI vc_8, vI vc_9], [vI (fo_v n t i j)], aq_h m s F c_f) _
        refine am_E.ret rfl rfl ?_
        exact ⟨_, rfl, aq_smi (aq_smt (aq_smt (aq_smt (aq_smt (aq_sm0 (c := c) (S := (fun a => a = y + 13 ∨ a = y + 18 ∨ a = y + 19))) (aq_smi sc_3 (fun a h => by omega))) (aq_smi sc_8 (fun a h => by omega))) (aq_smi sc_9 (fun a h => by omega))) (aq_smi s_f (fun a h => by omega))) (fun a h => by unfold mo_S; omega), mo_ks mo_k0 (aq_smt (aq_smt (aq_smt (aq_smt (aq_sm0 (c := c) (S := (fun a => a = y + 13 ∨ a = y + 18 ∨ a = y + 19))) (aq_smi sc_3 (fun a h => by omega))) (aq_smi sc_8 (fun a h => by omega))) (aq_smi sc_9 (fun a h => by omega))) (aq_smi s_f (fun a h => by omega))) (by omega), fun i => (aq_smt (aq_smt (aq_smt (aq_smt (aq_sm0 (c := c) (S := (fun a => a = y + 13 ∨ a = y + 18 ∨ a = y + 19))) (aq_smi sc_3 (fun a h => by omega))) (aq_smi sc_8 (fun a h => by omega))) (aq_smi sc_9 (fun a h => by omega))) (aq_smi s_f (fun a h => by omega))) _ (by omega) i, rfl⟩
      · refine am_E.go (t2 := (53, [vR y, vI n, vI t, vI i, vI j, vI vc_3, vU, vU], [vI (-1)], aq_h m s F c_3)) rfl rfl ?_
        refine am_E.ret rfl rfl ?_
        exfalso
        omega
  · refine am_E.go (t2 := (9, [vR y, vI n, vI t, vI i, vI j, vU, vU, vU], [vI (-1)], aq_h m s F c)) rfl rfl ?_
    refine am_E.ret rfl rfl ?_
    exfalso
    omega

theorem qx_free_w {m s : Nat} {F : aq_F} {c : aq_C} {y : Nat} (hO : mo_0 m F y) {n t v p mn lt : Int} (hmn : mn ≤ 6) {T : Int → Int → Int} (hM : ∀ a b : Int, 0 ≤ a → a < mn → 0 ≤ b → b < mn → c (y + 20) (6 * a + b) = T a b) {W : Int} {Z : Option am_V → am_H → Prop} : ∀ (d : Nat) (rk : Int) (cc : Int) (w : Int) (v10 : am_V) (v11 : am_V) (h0 : 0 ≤ cc) (h1 : cc < mn) (h2 : 0 ≤ rk) (h3 : rk ≤ w) (h4 : w ≤ mn) (hW : mx_p T mn cc d w = W) (hd : mn - w < (d : Int)) (K0 : ∀ (w2 : Int) (f1 : rk ≤ w2) (f2 : w2 ≤ mn) (f3 : w2 = W), am_E ac_X5_free (220, [vR y, vI n, vI t, vI v, vI p, vI mn, vI lt, vI rk, vI cc, vI w2, v10, v11], [], aq_h m s F c) Z), am_E ac_X5_free (191, [vR y, vI n, vI t, vI v, vI p, vI mn, vI lt, vI rk, vI cc, vI w, v10, v11], [], aq_h m s F c) Z
  | 0, rk, cc, w, v10, v11, h0, h1, h2, h3, h4, hW, hd, K0 => by exfalso; omega
  | d + 1, rk, cc, w, v10, v11, h0, h1, h2, h3, h4, hW, hd, K0 => by
    obtain ⟨hm, hFo, hG5, hG6, hG7, hG8, hG9, hG10, hG11, hG12, hG13, hG14, hG15, hG16, hG17, hG18, hG19, hG20, hG21, hG22, hG23⟩ := hO
    refine am_E.go (t2 := (193, [vR y, vI n, vI t, vI v, vI p, vI mn, vI lt, vI rk, vI cc, vI w, v10, v11], [vI w], aq_h m s F c)) rfl rfl ?_
    refine am_E.go (t2 := (195, [vR y, vI n, vI t, vI v, vI p, vI mn, vI lt, vI rk, vI cc, vI w, v10, v11], [vI mn, vI w], aq_h m s F c)) rfl rfl ?_
    refine ae_icmp rfl (fun (q_1 : mn ≤ w) => ?_) (fun (q_1 : w < mn) => ?_)
    · exact K0 w (by omega) (by omega) (by rw [← hW, mx_p]; first | (rw [if_neg (show ¬ w < mn by omega)]) | (rw [if_pos (show w < mn by omega), if_neg (show ¬ T w cc = 0 by omega)]))
    · refine am_E.go (t2 := (199, [vR y, vI n, vI t, vI v, vI p, vI mn, vI lt, vI rk, vI cc, vI w, v10, v11], [vR y], aq_h m s F c)) rfl rfl ?_
      refine aq_gf (v := vR (y + 20)) rfl (by omega) hFo (by decide) rfl ?_
      show am_E _ (202, [vR y, vI n, vI t, vI v, vI p, vI mn, vI lt, vI rk, vI cc, vI w, v10, v11], [vR (y + 20)], aq_h m s F c) _
      refine am_E.go (t2 := (204, [vR y, vI n, vI t, vI v, vI p, vI mn, vI lt, vI rk, vI cc, vI w, v10, v11], [vI 6, vR (y + 20)], aq_h m s F c)) rfl rfl ?_
      refine am_E.go (t2 := (206, [vR y, vI n, vI t, vI v, vI p, vI mn, vI lt, vI rk, vI cc, vI w, v10, v11], [vI w, vI 6, vR (y + 20)], aq_h m s F c)) rfl rfl ?_
      refine ae_mul rfl (am_ri (by omega) (by omega)) ?_
      show am_E _ (207, [vR y, vI n, vI t, vI v, vI p, vI mn, vI lt, vI rk, vI cc, vI w, v10, v11], [vI (6 * w), vR (y + 20)], aq_h m s F c) _
      refine am_E.go (t2 := (209, [vR y, vI n, vI t, vI v, vI p, vI mn, vI lt, vI rk, vI cc, vI w, v10, v11], [vI cc, vI (6 * w), vR (y + 20)], aq_h m s F c)) rfl rfl ?_
      refine ae_add rfl (am_ri (by omega) (by omega)) ?_
      show am_E _ (210, [vR y, vI n, vI t, vI v, vI p, vI mn, vI lt, vI rk, vI cc, vI w, v10, v11], [vI ((6 * w) + cc), vR (y + 20)], aq_h m s F c) _
      refine aq_al (ok := fun k => k == 0) (v := vI (c (y + 20) ((6 * w) + cc))) rfl rfl (by omega) hG20 rfl (by omega) (by omega) rfl ?_
      show am_E _ (211, [vR y, vI n, vI t, vI v, vI p, vI mn, vI lt, vI rk, vI cc, vI w, v10, v11], [vI (c (y + 20) ((6 * w) + cc))], aq_h m s F c) _
      have f_2 := hM w cc (by omega) (by omega) (by omega) (by omega)
      refine ae_if0 rfl (fun (q_3 : (c (y + 20) ((6 * w) + cc)) ≠ 0) => ?_) (fun (q_3 : (c (y + 20) ((6 * w) + cc)) = 0) => ?_)
      · exact K0 w (by omega) (by omega) (by rw [← hW, mx_p]; first | (rw [if_neg (show ¬ w < mn by omega)]) | (rw [if_pos (show w < mn by omega), if_neg (show ¬ T w cc = 0 by omega)]))
      · refine ae_iinc rfl rfl (am_ri (by omega) (by omega)) ?_
        show am_E _ (217, [vR y, vI n, vI t, vI v, vI p, vI mn, vI lt, vI rk, vI cc, vI (w + 1), v10, v11], [], aq_h m s F c) _
        refine am_E.go (t2 := (191, [vR y, vI n, vI t, vI v, vI p, vI mn, vI lt, vI rk, vI cc, vI (w + 1), v10, v11], [], aq_h m s F c)) rfl rfl ?_
        exact qx_free_w ⟨hm, hFo, hG5, hG6, hG7, hG8, hG9, hG10, hG11, hG12, hG13, hG14, hG15, hG16, hG17, hG18, hG19, hG20, hG21, hG22, hG23⟩ hmn hM d rk cc (w + 1) (v10) (v11) (by omega) (by omega) (by omega) (by omega) (by omega) (by rw [← hW, mx_p, if_pos (show w < mn by omega), if_pos (show T w cc = 0 by omega)]) (by omega) K0

theorem qx_free_r {m s : Nat} {F : aq_F} {c0 : aq_C} {y : Nat} (hO : mo_0 m F y) (hI : mo_I y c0) {n t v p mn lt : Int} (hn1 : 1 ≤ n) (hn4 : n ≤ 4) (ht0 : 0 ≤ t) (ht1 : t ≤ n) (hp0 : 2 ≤ p) (hp1 : p ≤ 997) (hP : nm_P p) (hmn0 : 0 ≤ mn) (hmn : mn ≤ 6) (hl0 : 0 ≤ lt) (hl1 : lt < p) {X : Int} : ∀ (d : Nat) (rk : Int) (cc : Int) (v9 : am_V) (v10 : am_V) (v11 : am_V) (T : Int → Int → Int) (c : aq_C) (hs : aq_sm (mo_S y) c0 c) (h0 : 0 ≤ cc) (h1 : cc ≤ mn) (h2 : 0 ≤ rk) (h3 : rk ≤ cc) (hob : mo_k y c0 c) (hM : ∀ a b : Int, 0 ≤ a → a < mn → 0 ≤ b → b < mn → c (y + 20) (6 * a + b) = T a b) (hA : ∀ a b : Int, 0 ≤ a → a < mn → 0 ≤ b → b < mn → 0 ≤ T a b ∧ T a b < p) (hT : rk_r mn p d cc rk T = X) (hd : mn - cc < (d : Int)), am_E ac_X5_free (180, [vR y, vI n, vI t, vI v, vI p, vI mn, vI lt, vI rk, vI cc, v9, v10, v11], [], aq_h m s F c) (aq_Z m s F (fun a => y ≤ a ∧ a < y + 24) c0 (fun r d => r = some (vI X) ∧ mo_I y d))
  | 0, rk, cc, v9, v10, v11, T, c, hs, h0, h1, h2, h3, hob, hM, hA, hT, hd => by exfalso; omega
  | d + 1, rk, cc, v9, v10, v11, T, c, hs, h0, h1, h2, h3, hob, hM, hA, hT, hd => by
    obtain ⟨hm, hFo, hG5, hG6, hG7, hG8, hG9, hG10, hG11, hG12, hG13, hG14, hG15, hG16, hG17, hG18, hG19, hG20, hG21, hG22, hG23⟩ := hO
    refine am_E.go (t2 := (182, [vR y, vI n, vI t, vI v, vI p, vI mn, vI lt, vI rk, vI cc, v9, v10, v11], [vI cc], aq_h m s F c)) rfl rfl ?_
    refine am_E.go (t2 := (184, [vR y, vI n, vI t, vI v, vI p, vI mn, vI lt, vI rk, vI cc, v9, v10, v11], [vI mn, vI cc], aq_h m s F c)) rfl rfl ?_
    refine ae_icmp rfl (fun (q_1 : mn ≤ cc) => ?_) (fun (q_1 : cc < mn) => ?_)
    · refine am_E.go (t2 := (252, [vR y, vI n, vI t, vI v, vI p, vI mn, vI lt, vI rk, vI cc, v9, v10, v11], [vI rk], aq_h m s F c)) rfl rfl ?_
      refine am_E.ret rfl rfl ?_
      refine ⟨_, rfl, aq_smi hs (fun a h => mo_Sa h), ?_, mo_Ik hI hs hob⟩
      rw [← hT, rk_r, if_neg (show ¬ cc < mn by omega)]
    · refine am_E.go (t2 := (189, [vR y, vI n, vI t, vI v, vI p, vI mn, vI lt, vI rk, vI cc, v9, v10, v11], [vI rk], aq_h m s F c)) rfl rfl ?_
      refine am_E.go (t2 := (191, [vR y, vI n, vI t, vI v, vI p, vI mn, vI lt, vI rk, vI cc, vI rk, v10, v11], [], aq_h m s F c)) rfl rfl ?_
      refine qx_free_w ⟨hm, hFo, hG5, hG6, hG7, hG8, hG9, hG10, hG11, hG12, hG13, hG14, hG15, hG16, hG17, hG18, hG19, hG20, hG21, hG22, hG23⟩ hmn hM 8 rk cc rk (v10) (v11) (by omega) (by omega) (by omega) (by omega) (by omega) rfl (by omega) ?_
      · intro w2_191 f1_191 f2_191 f3_191
        refine am_E.go (t2 := (222, [vR y, vI n, vI t, vI v, vI p, vI mn, vI lt, vI rk, vI cc, vI w2_191, v10, v11], [vI w2_191], aq_h m s F c)) rfl rfl ?_
        refine am_E.go (t2 := (224, [vR y, vI n, vI t, vI v, vI p, vI mn, vI lt, vI rk, vI cc, vI w2_191, v10, v11], [vI mn, vI w2_191], aq_h m s F c)) rfl rfl ?_
        refine ae_icmp rfl (fun (q_3 : mn ≤ w2_191) => ?_) (fun (q_3 : w2_191 < mn) => ?_)
        · refine ae_iinc rfl rfl (am_ri (by omega) (by omega)) ?_
          show am_E _ (247, [vR y, vI n, vI t, vI v, vI p, vI mn, vI lt, vI rk, vI (cc + 1), vI w2_191, v10, v11], [], aq_h m s F c) _
          refine am_E.go (t2 := (180, [vR y, vI n, vI t, vI v, vI p, vI mn, vI lt, vI rk, vI (cc + 1), vI w2_191, v10, v11], [], aq_h m s F c)) rfl rfl ?_
          exact qx_free_r ⟨hm, hFo, hG5, hG6, hG7, hG8, hG9, hG10, hG11, hG12, hG13, hG14, hG15, hG16, hG17, hG18, hG19, hG20, hG21, hG22, hG23⟩ hI hn1 hn4 ht0 ht1 hp0 hp1 hP hmn0 hmn hl0 hl1 d rk (cc + 1) (vI w2_191) (v10) (v11) T c hs (by omega) (by omega) (by omega) (by omega) hob hM hA (by rw [← hT, rk_r, if_pos (show cc < mn by omega), ← f3_191, if_neg (show ¬ w2_191 < mn by omega)]) (by omega)
        · refine am_E.go (t2 := (228, [vR y, vI n, vI t, vI v, vI p, vI mn, vI lt, vI rk, vI cc, vI w2_191, v10, v11], [vR y], aq_h m s F c)) rfl rfl ?_
          refine am_E.go (t2 := (230, [vR y, vI n, vI t, vI v, vI p, vI mn, vI lt, vI rk, vI cc, vI w2_191, v10, v11], [vI mn, vR y], aq_h m s F c)) rfl rfl ?_
          refine am_E.go (t2 := (232, [vR y, vI n, vI t, vI v, vI p, vI mn, vI lt, vI rk, vI cc, vI w2_191, v10, v11], [vI rk, vI mn, vR y], aq_h m s F c)) rfl rfl ?_
          refine am_E.go (t2 := (234, [vR y, vI n, vI t, vI v, vI p, vI mn, vI lt, vI rk, vI cc, vI w2_191, v10, v11], [vI w2_191, vI rk, vI mn, vR y], aq_h m s F c)) rfl rfl ?_
          refine am_E.go (t2 := (236, [vR y, vI n, vI t, vI v, vI p, vI mn, vI lt, vI rk, vI cc, vI w2_191, v10, v11], [vI cc, vI w2_191, vI rk, vI mn, vR y], aq_h m s F c)) rfl rfl ?_
          refine am_E.go (t2 := (238, [vR y, vI n, vI t, vI v, vI p, vI mn, vI lt, vI rk, vI cc, vI w2_191, v10, v11], [vI p, vI cc, vI w2_191, vI rk, vI mn, vR y], aq_h m s F c)) rfl rfl ?_
          refine aq_callv (y := 6) (as2 := [vI mn, vI rk, vI w2_191, vI cc, vI p]) (rest := []) rfl rfl (by decide) (Nat.le_of_ble_eq_true rfl) rfl rfl (Nat.le_of_ble_eq_true rfl) (by omega) hFo rfl (Nat.le_of_ble_eq_true rfl) (qx_reduce ⟨hm, hFo, hG5, hG6, hG7, hG8, hG9, hG10, hG11, hG12, hG13, hG14, hG15, hG16, hG17, hG18, hG19, hG20, hG21, hG22, hG23⟩ (mn := mn) (rk := rk) (rw_ := w2_191) (cc := cc) (p := p) hp0 hp1 hmn (by omega) (by omega) (by omega) (by omega) (by omega) (by omega) hP (A := T) hA (by rw [f3_191]; exact mx_pn (N := mn) (c := cc) (T := T) 8 rk (by omega) (by omega)) hM) ?_
          rintro r5 h5 ⟨c_r, rfl, s_r, rfl, v_r⟩
          show am_E _ (241, [vR y, vI n, vI t, vI v, vI p, vI mn, vI lt, vI rk, vI cc, vI w2_191, v10, v11], [], aq_h m s F c_r) _
          have hS2 := mx_sr (f := T) hA (i := w2_191) (j := rk) (by omega) (by omega) (by omega) (by omega)
          refine ae_iinc rfl rfl (am_ri (by omega) (by omega)) ?_
          show am_E _ (244, [vR y, vI n, vI t, vI v, vI p, vI mn, vI lt, vI (rk + 1), vI cc, vI w2_191, v10, v11], [], aq_h m s F c_r) _
          refine ae_iinc rfl rfl (am_ri (by omega) (by omega)) ?_
          show am_E _ (247, [vR y, vI n, vI t, vI v, vI p, vI mn, vI lt, vI (rk + 1), vI (cc + 1), vI w2_191, v10, v11], [], aq_h m s F c_r) _
          refine am_E.go (t2 := (180, [vR y, vI n, vI t, vI v, vI p, vI mn, vI lt, vI (rk + 1), vI (cc + 1), vI w2_191, v10, v11], [], aq_h m s F c_r)) rfl rfl ?_
          exact qx_free_r ⟨hm, hFo, hG5, hG6, hG7, hG8, hG9, hG10, hG11, hG12, hG13, hG14, hG15, hG16, hG17, hG18, hG19, hG20, hG21, hG22, hG23⟩ hI hn1 hn4 ht0 ht1 hp0 hp1 hP hmn0 hmn hl0 hl1 d (rk + 1) (cc + 1) (vI w2_191) (v10) (v11) (mx_r (mx_s T mn w2_191 rk) mn p rk cc (iv_ (mx_s T mn w2_191 rk rk cc) p 1000 1)) c_r (aq_smt hs (aq_smi s_r (fun a h => by unfold mo_S; omega))) (by omega) (by omega) (by omega) (by omega) (mo_ks hob s_r (by omega)) v_r (mx_rr (by omega) hS2) (by rw [← hT, rk_r, if_pos (show cc < mn by omega), ← f3_191, if_pos (show w2_191 < mn by omega)]) (by omega)

theorem qx_free_e {m s : Nat} {F : aq_F} {c : aq_C} {y : Nat} {n t v p mn lt i j pw : Int} (hp0 : 2 ≤ p) (hp1 : p ≤ 997) (hl0 : 0 ≤ lt) (hl1 : lt < p) (hpw : pw ≤ 4) {R : Int} {Z : Option am_V → am_H → Prop} : ∀ (d : Nat) (e : Int) (k : Int) (h0 : 0 ≤ e) (h1 : e < p) (h2 : 0 ≤ k) (h3 : k ≤ 4) (hT : rs_ lt p pw d k e = R) (hd : max 0 (pw - k) < (d : Int)) (K0 : ∀ (e2 : Int) (k2 : Int) (f1 : e2 = R), am_E ac_X5_free (147, [vR y, vI n, vI t, vI v, vI p, vI mn, vI lt, vI i, vI j, vI pw, vI e2, vI k2], [], aq_h m s F c) Z), am_E ac_X5_free (124, [vR y, vI n, vI t, vI v, vI p, vI mn, vI lt, vI i, vI j, vI pw, vI e, vI k], [], aq_h m s F c) Z
  | 0, e, k, h0, h1, h2, h3, hT, hd, K0 => by exfalso; omega
  | d + 1, e, k, h0, h1, h2, h3, hT, hd, K0 => by
    refine am_E.go (t2 := (126, [vR y, vI n, vI t, vI v, vI p, vI mn, vI lt, vI i, vI j, vI pw, vI e, vI k], [vI k], aq_h m s F c)) rfl rfl ?_
    refine am_E.go (t2 := (128, [vR y, vI n, vI t, vI v, vI p, vI mn, vI lt, vI i, vI j, vI pw, vI e, vI k], [vI pw, vI k], aq_h m s F c)) rfl rfl ?_
    refine ae_icmp rfl (fun (q_1 : pw ≤ k) => ?_) (fun (q_1 : k < pw) => ?_)
    · exact K0 e k (by rw [← hT, rs_, if_neg (show ¬ k < pw by omega)])
    · refine am_E.go (t2 := (133, [vR y, vI n, vI t, vI v, vI p, vI mn, vI lt, vI i, vI j, vI pw, vI e, vI k], [vI e], aq_h m s F c)) rfl rfl ?_
      refine am_E.go (t2 := (135, [vR y, vI n, vI t, vI v, vI p, vI mn, vI lt, vI i, vI j, vI pw, vI e, vI k], [vI lt, vI e], aq_h m s F c)) rfl rfl ?_
      have u_2 := nm_mul (a := e) (b := lt) (by omega) (by omega) (by omega) (by omega)
      refine ae_mul rfl (am_ri (by omega) (by omega)) ?_
      show am_E _ (136, [vR y, vI n, vI t, vI v, vI p, vI mn, vI lt, vI i, vI j, vI pw, vI e, vI k], [vI (e * lt)], aq_h m s F c) _
      refine am_E.go (t2 := (138, [vR y, vI n, vI t, vI v, vI p, vI mn, vI lt, vI i, vI j, vI pw, vI e, vI k], [vI p, vI (e * lt)], aq_h m s F c)) rfl rfl ?_
      refine ae_bin (z := (e * lt) % p) rfl rfl (am_rem_e (by omega) (by omega)) ?_
      show am_E _ (139, [vR y, vI n, vI t, vI v, vI p, vI mn, vI lt, vI i, vI j, vI pw, vI e, vI k], [vI ((e * lt) % p)], aq_h m s F c) _
      refine am_E.go (t2 := (141, [vR y, vI n, vI t, vI v, vI p, vI mn, vI lt, vI i, vI j, vI pw, vI ((e * lt) % p), vI k], [], aq_h m s F c)) rfl rfl ?_
      refine ae_iinc rfl rfl (am_ri (by omega) (by omega)) ?_
      show am_E _ (144, [vR y, vI n, vI t, vI v, vI p, vI mn, vI lt, vI i, vI j, vI pw, vI ((e * lt) % p), vI (k + 1)], [], aq_h m s F c) _
      refine am_E.go (t2 := (124, [vR y, vI n, vI t, vI v, vI p, vI mn, vI lt, vI i, vI j, vI pw, vI ((e * lt) % p), vI (k + 1)], [], aq_h m s F c)) rfl rfl ?_
      exact qx_free_e hp0 hp1 hl0 hl1 hpw d ((e * lt) % p) (k + 1) (nm_em (by omega)).1 (nm_em (by omega)).2 (by omega) (by omega) (by rw [← hT, rs_, if_pos (show k < pw by omega)]) (by omega) K0

theorem qx_free_j {m s : Nat} {F : aq_F} {c0 : aq_C} {y : Nat} (hO : mo_0 m F y) (hI : mo_I y c0) {n t v p mn lt : Int} (hn1 : 1 ≤ n) (hn4 : n ≤ 4) (ht0 : 0 ≤ t) (ht1 : t ≤ n) (hp0 : 2 ≤ p) (hp1 : p ≤ 997) (hP : nm_P p) (hmn0 : 0 ≤ mn) (hmn : mn ≤ 6) (hl0 : 0 ≤ lt) (hl1 : lt < p) {X : Int} (hmN : mn = hv_N n t) : ∀ (d : Nat) (i : Int) (j : Int) (v9 : am_V) (v10 : am_V) (v11 : am_V) (c : aq_C) (hs : aq_sm (mo_S y) c0 c) (h0 : 0 ≤ j) (h1 : j ≤ mn) (h2 : 0 ≤ i) (h3 : i < mn) (hob : mo_k y c0 c) (hff : fg_ y n t lt p mn i j c) (hd : mn - j < (d : Int)) (K0 : ∀ (j2 : Int) (v92 : am_V) (v102 : am_V) (v112 : am_V) (c2 : aq_C) (hs2 : aq_sm (mo_S y) c0 c2) (hob2 : mo_k y c0 c2) (hff2 : fg_ y n t lt p mn (i + 1) 0 c2), am_E ac_X5_free (168, [vR y, vI n, vI t, vI v, vI p, vI mn, vI lt, vI i, vI j2, v92, v102, v112], [], aq_h m s F c2) (aq_Z m s F (fun a => y ≤ a ∧ a < y + 24) c0 (fun r d => r = some (vI X) ∧ mo_I y d))), am_E ac_X5_free (85, [vR y, vI n, vI t, vI v, vI p, vI mn, vI lt, vI i, vI j, v9, v10, v11], [], aq_h m s F c) (aq_Z m s F (fun a => y ≤ a ∧ a < y + 24) c0 (fun r d => r = some (vI X) ∧ mo_I y d))
  | 0, i, j, v9, v10, v11, c, hs, h0, h1, h2, h3, hob, hff, hd, K0 => by exfalso; omega
  | d + 1, i, j, v9, v10, v11, c, hs, h0, h1, h2, h3, hob, hff, hd, K0 => by
    obtain ⟨hm, hFo, hG5, hG6, hG7, hG8, hG9, hG10, hG11, hG12, hG13, hG14, hG15, hG16, hG17, hG18, hG19, hG20, hG21, hG22, hG23⟩ := hO
    refine am_E.go (t2 := (87, [vR y, vI n, vI t, vI v, vI p, vI mn, vI lt, vI i, vI j, v9, v10, v11], [vI j], aq_h m s F c)) rfl rfl ?_
    refine am_E.go (t2 := (89, [vR y, vI n, vI t, vI v, vI p, vI mn, vI lt, vI i, vI j, v9, v10, v11], [vI mn, vI j], aq_h m s F c)) rfl rfl ?_
    refine ae_icmp rfl (fun (q_1 : mn ≤ j) => ?_) (fun (q_1 : j < mn) => ?_)
    · exact K0 j (v9) (v10) (v11) c hs hob (fun a b a1 a2 a3 a4 => hff a b a1 a2 a3 (by omega))
    · refine am_E.go (t2 := (93, [vR y, vI n, vI t, vI v, vI p, vI mn, vI lt, vI i, vI j, v9, v10, v11], [vR y], aq_h m s F c)) rfl rfl ?_
      refine am_E.go (t2 := (94, [vR y, vI n, vI t, vI v, vI p, vI mn, vI lt, vI i, vI j, v9, v10, v11], [vI n, vR y], aq_h m s F c)) rfl rfl ?_
      refine am_E.go (t2 := (95, [vR y, vI n, vI t, vI v, vI p, vI mn, vI lt, vI i, vI j, v9, v10, v11], [vI t, vI n, vR y], aq_h m s F c)) rfl rfl ?_
      refine am_E.go (t2 := (97, [vR y, vI n, vI t, vI v, vI p, vI mn, vI lt, vI i, vI j, v9, v10, v11], [vI i, vI t, vI n, vR y], aq_h m s F c)) rfl rfl ?_
      refine am_E.go (t2 := (99, [vR y, vI n, vI t, vI v, vI p, vI mn, vI lt, vI i, vI j, v9, v10, v11], [vI j, vI i, vI t, vI n, vR y], aq_h m s F c)) rfl rfl ?_
      refine aq_callv (y := 5) (as2 := [vI n, vI t, vI i, vI j]) (rest := []) rfl rfl (by decide) (Nat.le_of_ble_eq_true rfl) rfl rfl (Nat.le_of_ble_eq_true rfl) (by omega) hFo rfl (Nat.le_of_ble_eq_true rfl) (qx_form5 ⟨hm, hFo, hG5, hG6, hG7, hG8, hG9, hG10, hG11, hG12, hG13, hG14, hG15, hG16, hG17, hG18, hG19, hG20, hG21, hG22, hG23⟩ (n := n) (t := t) (i := i) (j := j) hn1 hn4 ht0 ht1 (by omega) (by omega) (by omega) (by omega)) ?_
      rintro r5 h5 ⟨c_q, rfl, s_q, k_q, e_q, rfl⟩
      show am_E _ (102, [vR y, vI n, vI t, vI v, vI p, vI mn, vI lt, vI i, vI j, v9, v10, v11], [vI (fo_v n t i j)], aq_h m s F c_q) _
      have e_fb := fo_vb (n := n) (t := t) (i := i) (j := j) hn1 hn4 ht0 ht1 (by omega) (by omega) (by omega) (by omega)
      refine am_E.go (t2 := (104, [vR y, vI n, vI t, vI v, vI p, vI mn, vI lt, vI i, vI j, vI (fo_v n t i j), v10, v11], [], aq_h m s F c_q)) rfl rfl ?_
      refine am_E.go (t2 := (106, [vR y, vI n, vI t, vI v, vI p, vI mn, vI lt, vI i, vI j, vI (fo_v n t i j), v10, v11], [vI (fo_v n t i j)], aq_h m s F c_q)) rfl rfl ?_
      refine am_E.go (t2 := (108, [vR y, vI n, vI t, vI v, vI p, vI mn, vI lt, vI i, vI j, vI (fo_v n t i j), v10, v11], [vI (-4), vI (fo_v n t i j)], aq_h m s F c_q)) rfl rfl ?_
      refine ae_icmp rfl (fun (q_2 : (fo_v n t i j) ≠ (-4)) => ?_) (fun (q_2 : (fo_v n t i j) = (-4)) => ?_)
      · refine am_E.go (t2 := (116, [vR y, vI n, vI t, vI v, vI p, vI mn, vI lt, vI i, vI j, vI (fo_v n t i j), v10, v11], [vI 1], aq_h m s F c_q)) rfl rfl ?_
        refine am_E.go (t2 := (118, [vR y, vI n, vI t, vI v, vI p, vI mn, vI lt, vI i, vI j, vI (fo_v n t i j), v10, v11], [vI p, vI 1], aq_h m s F c_q)) rfl rfl ?_
        refine ae_bin (z := (1 : Int) % p) rfl rfl (am_rem_e (by omega) (by omega)) ?_
        show am_E _ (119, [vR y, vI n, vI t, vI v, vI p, vI mn, vI lt, vI i, vI j, vI (fo_v n t i j), v10, v11], [vI ((1 : Int) % p)], aq_h m s F c_q) _
        refine am_E.go (t2 := (121, [vR y, vI n, vI t, vI v, vI p, vI mn, vI lt, vI i, vI j, vI (fo_v n t i j), vI ((1 : Int) % p), v11], [], aq_h m s F c_q)) rfl rfl ?_
        refine am_E.go (t2 := (122, [vR y, vI n, vI t, vI v, vI p, vI mn, vI lt, vI i, vI j, vI (fo_v n t i j), vI ((1 : Int) % p), v11], [vI 0], aq_h m s F c_q)) rfl rfl ?_
        refine am_E.go (t2 := (124, [vR y, vI n, vI t, vI v, vI p, vI mn, vI lt, vI i, vI j, vI (fo_v n t i j), vI ((1 : Int) % p), vI 0], [], aq_h m s F c_q)) rfl rfl ?_
        refine qx_free_e hp0 hp1 hl0 hl1 (by omega) 6 ((1 : Int) % p) 0 (nm_em (by omega)).1 (nm_em (by omega)).2 (by omega) (by omega) rfl (by omega) ?_
        · intro e2_124 k2_124 f1_124
          refine am_E.go (t2 := (148, [vR y, vI n, vI t, vI v, vI p, vI mn, vI lt, vI i, vI j, vI (fo_v n t i j), vI e2_124, vI k2_124], [vR y], aq_h m s F c_q)) rfl rfl ?_
          refine aq_gf (v := vR (y + 20)) rfl (by omega) hFo (by decide) rfl ?_
          show am_E _ (151, [vR y, vI n, vI t, vI v, vI p, vI mn, vI lt, vI i, vI j, vI (fo_v n t i j), vI e2_124, vI k2_124], [vR (y + 20)], aq_h m s F c_q) _
          refine am_E.go (t2 := (153, [vR y, vI n, vI t, vI v, vI p, vI mn, vI lt, vI i, vI j, vI (fo_v n t i j), vI e2_124, vI k2_124], [vI 6, vR (y + 20)], aq_h m s F c_q)) rfl rfl ?_
          refine am_E.go (t2 := (155, [vR y, vI n, vI t, vI v, vI p, vI mn, vI lt, vI i, vI j, vI (fo_v n t i j), vI e2_124, vI k2_124], [vI i, vI 6, vR (y + 20)], aq_h m s F c_q)) rfl rfl ?_
          refine ae_mul rfl (am_ri (by omega) (by omega)) ?_
          show am_E _ (156, [vR y, vI n, vI t, vI v, vI p, vI mn, vI lt, vI i, vI j, vI (fo_v n t i j), vI e2_124, vI k2_124], [vI (6 * i), vR (y + 20)], aq_h m s F c_q) _
          refine am_E.go (t2 := (158, [vR y, vI n, vI t, vI v, vI p, vI mn, vI lt, vI i, vI j, vI (fo_v n t i j), vI e2_124, vI k2_124], [vI j, vI (6 * i), vR (y + 20)], aq_h m s F c_q)) rfl rfl ?_
          refine ae_add rfl (am_ri (by omega) (by omega)) ?_
          show am_E _ (159, [vR y, vI n, vI t, vI v, vI p, vI mn, vI lt, vI i, vI j, vI (fo_v n t i j), vI e2_124, vI k2_124], [vI ((6 * i) + j), vR (y + 20)], aq_h m s F c_q) _
          refine am_E.go (t2 := (161, [vR y, vI n, vI t, vI v, vI p, vI mn, vI lt, vI i, vI j, vI (fo_v n t i j), vI e2_124, vI k2_124], [vI e2_124, vI ((6 * i) + j), vR (y + 20)], aq_h m s F c_q)) rfl rfl ?_
          refine aq_as (kd := 0) rfl rfl (by omega) hG20 (by omega) (by omega) rfl rfl ?_
          show am_E _ (162, [vR y, vI n, vI t, vI v, vI p, vI mn, vI lt, vI i, vI j, vI (fo_v n t i j), vI e2_124, vI k2_124], [], aq_h m s F (aq_u c_q (y + 20) ((6 * i) + j) e2_124)) _
          generalize hdc_4 : aq_u c_q (y + 20) ((6 * i) + j) e2_124 = c_4
          have sc_4 := aq_smu (aq_smt hs s_q) hdc_4 (mo_Sk (by decide) (by decide))
          have hobc_4 := mo_ku (mo_kt hob k_q) hdc_4 (Or.inl (by omega))
          have hffc_4 := fg_u (fg_c hff e_q) hdc_4 (by first | exact en_1 f1_124 (by omega) | exact en_2 f1_124 (by omega)) hmn (by omega) (by omega)
          refine ae_iinc rfl rfl (am_ri (by omega) (by omega)) ?_
          show am_E _ (165, [vR y, vI n, vI t, vI v, vI p, vI mn, vI lt, vI i, vI (j + 1), vI (fo_v n t i j), vI e2_124, vI k2_124], [], aq_h m s F c_4) _
          refine am_E.go (t2 := (85, [vR y, vI n, vI t, vI v, vI p, vI mn, vI lt, vI i, vI (j + 1), vI (fo_v n t i j), vI e2_124, vI k2_124], [], aq_h m s F c_4)) rfl rfl ?_
          exact qx_free_j ⟨hm, hFo, hG5, hG6, hG7, hG8, hG9, hG10, hG11, hG12, hG13, hG14, hG15, hG16, hG17, hG18, hG19, hG20, hG21, hG22, hG23⟩ hI hn1 hn4 ht0 ht1 hp0 hp1 hP hmn0 hmn hl0 hl1 hmN d i (j + 1) (vI (fo_v n t i j)) (vI e2_124) (vI k2_124) c_4 sc_4 (by omega) (by omega) (by omega) (by omega) hobc_4 hffc_4 (by omega) K0
      · refine am_E.go (t2 := (112, [vR y, vI n, vI t, vI v, vI p, vI mn, vI lt, vI i, vI j, vI (fo_v n t i j), v10, v11], [vI 0], aq_h m s F c_q)) rfl rfl ?_
        refine am_E.go (t2 := (119, [vR y, vI n, vI t, vI v, vI p, vI mn, vI lt, vI i, vI j, vI (fo_v n t i j), v10, v11], [vI 0], aq_h m s F c_q)) rfl rfl ?_
        refine am_E.go (t2 := (121, [vR y, vI n, vI t, vI v, vI p, vI mn, vI lt, vI i, vI j, vI (fo_v n t i j), vI 0, v11], [], aq_h m s F c_q)) rfl rfl ?_
        refine am_E.go (t2 := (122, [vR y, vI n, vI t, vI v, vI p, vI mn, vI lt, vI i, vI j, vI (fo_v n t i j), vI 0, v11], [vI 0], aq_h m s F c_q)) rfl rfl ?_
        refine am_E.go (t2 := (124, [vR y, vI n, vI t, vI v, vI p, vI mn, vI lt, vI i, vI j, vI (fo_v n t i j), vI 0, vI 0], [], aq_h m s F c_q)) rfl rfl ?_
        refine qx_free_e hp0 hp1 hl0 hl1 (by omega) 6 0 0 (by omega) (by omega) (by omega) (by omega) rfl (by omega) ?_
        · intro e2_124 k2_124 f1_124
          refine am_E.go (t2 := (148, [vR y, vI n, vI t, vI v, vI p, vI mn, vI lt, vI i, vI j, vI (fo_v n t i j), vI e2_124, vI k2_124], [vR y], aq_h m s F c_q)) rfl rfl ?_
          refine aq_gf (v := vR (y + 20)) rfl (by omega) hFo (by decide) rfl ?_
          show am_E _ (151, [vR y, vI n, vI t, vI v, vI p, vI mn, vI lt, vI i, vI j, vI (fo_v n t i j), vI e2_124, vI k2_124], [vR (y + 20)], aq_h m s F c_q) _
          refine am_E.go (t2 := (153, [vR y, vI n, vI t, vI v, vI p, vI mn, vI lt, vI i, vI j, vI (fo_v n t i j), vI e2_124, vI k2_124], [vI 6, vR (y + 20)], aq_h m s F c_q)) rfl rfl ?_
          refine am_E.go (t2 := (155, [vR y, vI n, vI t, vI v, vI p, vI mn, vI lt, vI i, vI j, vI (fo_v n t i j), vI e2_124, vI k2_124], [vI i, vI 6, vR (y + 20)], aq_h m s F c_q)) rfl rfl ?_
          refine ae_mul rfl (am_ri (by omega) (by omega)) ?_
          show am_E _ (156, [vR y, vI n, vI t, vI v, vI p, vI mn, vI lt, vI i, vI j, vI (fo_v n t i j), vI e2_124, vI k2_124], [vI (6 * i), vR (y + 20)], aq_h m s F c_q) _
          refine am_E.go (t2 := (158, [vR y, vI n, vI t, vI v, vI p, vI mn, vI lt, vI i, vI j, vI (fo_v n t i j), vI e2_124, vI k2_124], [vI j, vI (6 * i), vR (y + 20)], aq_h m s F c_q)) rfl rfl ?_
          refine ae_add rfl (am_ri (by omega) (by omega)) ?_
          show am_E _ (159, [vR y, vI n, vI t, vI v, vI p, vI mn, vI lt, vI i, vI j, vI (fo_v n t i j), vI e2_124, vI k2_124], [vI ((6 * i) + j), vR (y + 20)], aq_h m s F c_q) _
          refine am_E.go (t2 := (161, [vR y, vI n, vI t, vI v, vI p, vI mn, vI lt, vI i, vI j, vI (fo_v n t i j), vI e2_124, vI k2_124], [vI e2_124, vI ((6 * i) + j), vR (y + 20)], aq_h m s F c_q)) rfl rfl ?_
          refine aq_as (kd := 0) rfl rfl (by omega) hG20 (by omega) (by omega) rfl rfl ?_
          show am_E _ (162, [vR y, vI n, vI t, vI v, vI p, vI mn, vI lt, vI i, vI j, vI (fo_v n t i j), vI e2_124, vI k2_124], [], aq_h m s F (aq_u c_q (y + 20) ((6 * i) + j) e2_124)) _
          generalize hdc_6 : aq_u c_q (y + 20) ((6 * i) + j) e2_124 = c_6
          have sc_6 := aq_smu (aq_smt hs s_q) hdc_6 (mo_Sk (by decide) (by decide))
          have hobc_6 := mo_ku (mo_kt hob k_q) hdc_6 (Or.inl (by omega))
          have hffc_6 := fg_u (fg_c hff e_q) hdc_6 (by first | exact en_1 f1_124 (by omega) | exact en_2 f1_124 (by omega)) hmn (by omega) (by omega)
          refine ae_iinc rfl rfl (am_ri (by omega) (by omega)) ?_
          show am_E _ (165, [vR y, vI n, vI t, vI v, vI p, vI mn, vI lt, vI i, vI (j + 1), vI (fo_v n t i j), vI e2_124, vI k2_124], [], aq_h m s F c_6) _
          refine am_E.go (t2 := (85, [vR y, vI n, vI t, vI v, vI p, vI mn, vI lt, vI i, vI (j + 1), vI (fo_v n t i j), vI e2_124, vI k2_124], [], aq_h m s F c_6)) rfl rfl ?_
          exact qx_free_j ⟨hm, hFo, hG5, hG6, hG7, hG8, hG9, hG10, hG11, hG12, hG13, hG14, hG15, hG16, hG17, hG18, hG19, hG20, hG21, hG22, hG23⟩ hI hn1 hn4 ht0 ht1 hp0 hp1 hP hmn0 hmn hl0 hl1 hmN d i (j + 1) (vI (fo_v n t i j)) (vI e2_124) (vI k2_124) c_6 sc_6 (by omega) (by omega) (by omega) (by omega) hobc_6 hffc_6 (by omega) K0

theorem qx_free_i {m s : Nat} {F : aq_F} {c0 : aq_C} {y : Nat} (hO : mo_0 m F y) (hI : mo_I y c0) {n t v p mn lt : Int} (hn1 : 1 ≤ n) (hn4 : n ≤ 4) (ht0 : 0 ≤ t) (ht1 : t ≤ n) (hp0 : 2 ≤ p) (hp1 : p ≤ 997) (hP : nm_P p) (hmn0 : 0 ≤ mn) (hmn : mn ≤ 6) (hl0 : 0 ≤ lt) (hl1 : lt < p) {X : Int} (hmN : mn = hv_N n t) (hX : rk_r mn p 8 0 0 (fun i j => en_ lt p (fo_v n t i j)) = X) : ∀ (d : Nat) (i : Int) (v8 : am_V) (v9 : am_V) (v10 : am_V) (v11 : am_V) (c : aq_C) (hs : aq_sm (mo_S y) c0 c) (h0 : 0 ≤ i) (h1 : i ≤ mn) (hob : mo_k y c0 c) (hff : fg_ y n t lt p mn i 0 c) (hd : mn - i < (d : Int)), am_E ac_X5_free (75, [vR y, vI n, vI t, vI v, vI p, vI mn, vI lt, vI i, v8, v9, v10, v11], [], aq_h m s F c) (aq_Z m s F (fun a => y ≤ a ∧ a < y + 24) c0 (fun r d => r = some (vI X) ∧ mo_I y d))
  | 0, i, v8, v9, v10, v11, c, hs, h0, h1, hob, hff, hd => by exfalso; omega
  | d + 1, i, v8, v9, v10, v11, c, hs, h0, h1, hob, hff, hd => by
    obtain ⟨hm, hFo, hG5, hG6, hG7, hG8, hG9, hG10, hG11, hG12, hG13, hG14, hG15, hG16, hG17, hG18, hG19, hG20, hG21, hG22, hG23⟩ := hO
    refine am_E.go (t2 := (77, [vR y, vI n, vI t, vI v, vI p, vI mn, vI lt, vI i, v8, v9, v10, v11], [vI i], aq_h m s F c)) rfl rfl ?_
    refine am_E.go (t2 := (79, [vR y, vI n, vI t, vI v, vI p, vI mn, vI lt, vI i, v8, v9, v10, v11], [vI mn, vI i], aq_h m s F c)) rfl rfl ?_
    refine ae_icmp rfl (fun (q_1 : mn ≤ i) => ?_) (fun (q_1 : i < mn) => ?_)
    · refine am_E.go (t2 := (175, [vR y, vI n, vI t, vI v, vI p, vI mn, vI lt, vI i, v8, v9, v10, v11], [vI 0], aq_h m s F c)) rfl rfl ?_
      refine am_E.go (t2 := (177, [vR y, vI n, vI t, vI v, vI p, vI mn, vI lt, vI 0, v8, v9, v10, v11], [], aq_h m s F c)) rfl rfl ?_
      refine am_E.go (t2 := (178, [vR y, vI n, vI t, vI v, vI p, vI mn, vI lt, vI 0, v8, v9, v10, v11], [vI 0], aq_h m s F c)) rfl rfl ?_
      refine am_E.go (t2 := (180, [vR y, vI n, vI t, vI v, vI p, vI mn, vI lt, vI 0, vI 0, v9, v10, v11], [], aq_h m s F c)) rfl rfl ?_
      exact qx_free_r ⟨hm, hFo, hG5, hG6, hG7, hG8, hG9, hG10, hG11, hG12, hG13, hG14, hG15, hG16, hG17, hG18, hG19, hG20, hG21, hG22, hG23⟩ hI hn1 hn4 ht0 ht1 hp0 hp1 hP hmn0 hmn hl0 hl1 8 0 0 (v9) (v10) (v11) (fun i j => en_ lt p (fo_v n t i j)) c hs (by omega) (by omega) (by omega) (by omega) hob (fun a b a0 a1 b0 b1 => hff a b a0 b0 b1 (by omega)) (fun a b _ _ _ _ => en_b (by omega)) hX (by omega)
    · refine am_E.go (t2 := (83, [vR y, vI n, vI t, vI v, vI p, vI mn, vI lt, vI i, v8, v9, v10, v11], [vI 0], aq_h m s F c)) rfl rfl ?_
      refine am_E.go (t2 := (85, [vR y, vI n, vI t, vI v, vI p, vI mn, vI lt, vI i, vI 0, v9, v10, v11], [], aq_h m s F c)) rfl rfl ?_
      refine qx_free_j ⟨hm, hFo, hG5, hG6, hG7, hG8, hG9, hG10, hG11, hG12, hG13, hG14, hG15, hG16, hG17, hG18, hG19, hG20, hG21, hG22, hG23⟩ hI hn1 hn4 ht0 ht1 hp0 hp1 hP hmn0 hmn hl0 hl1 hmN 8 i 0 (v9) (v10) (v11) c hs (by omega) (by omega) (by omega) (by omega) hob hff (by omega) ?_
      · intro j2_85 v92_85 v102_85 v112_85 c_2 sc_2 hob2_85 hff2_85
        refine ae_iinc rfl rfl (am_ri (by omega) (by omega)) ?_
        show am_E _ (171, [vR y, vI n, vI t, vI v, vI p, vI mn, vI lt, vI (i + 1), vI j2_85, v92_85, v102_85, v112_85], [], aq_h m s F c_2) _
        refine am_E.go (t2 := (75, [vR y, vI n, vI t, vI v, vI p, vI mn, vI lt, vI (i + 1), vI j2_85, v92_85, v102_85, v112_85], [], aq_h m s F c_2)) rfl rfl ?_
        exact qx_free_i ⟨hm, hFo, hG5, hG6, hG7, hG8, hG9, hG10, hG11, hG12, hG13, hG14, hG15, hG16, hG17, hG18, hG19, hG20, hG21, hG22, hG23⟩ hI hn1 hn4 ht0 ht1 hp0 hp1 hP hmn0 hmn hl0 hl1 hmN hX d (i + 1) (vI j2_85) (v92_85) (v102_85) (v112_85) c_2 sc_2 (by omega) (by omega) hob2_85 hff2_85 (by omega)

theorem qe_X5_free {m s : Nat} {F : aq_F} {c : aq_C} {y : Nat} (hC : mo_C m F y) (hI : mo_I y c) {n t v p : Int} : am_E ac_X5_free (0, [vR y, vI n, vI t, vI v, vI p, vU, vU, vU, vU, vU, vU, vU], [], aq_h m s F c) (aq_Z m s F (fun a => y ≤ a ∧ a < y + 24) c (fun r d => r = some (vI (fe_a n t v p)) ∧ mo_I y d)) := by
  obtain ⟨⟨hm, hFo, hG5, hG6, hG7, hG8, hG9, hG10, hG11, hG12, hG13, hG14, hG15, hG16, hG17, hG18, hG19, hG20, hG21, hG22, hG23⟩, ⟨tbl, hT1, hTt⟩, ⟨tA, tB, tD, hL1, hL2, hL3, hLt⟩⟩ := hC
  refine am_E.go (t2 := (1, [vR y, vI n, vI t, vI v, vI p, vU, vU, vU, vU, vU, vU, vU], [vI n], aq_h m s F c)) rfl rfl ?_
  refine am_E.go (t2 := (2, [vR y, vI n, vI t, vI v, vI p, vU, vU, vU, vU, vU, vU, vU], [vI t, vI n], aq_h m s F c)) rfl rfl ?_
  refine am_E.call rfl rfl rfl (Nat.le_of_ble_eq_true rfl) (qm_areHalves) ?_
  rintro r5 h5 ⟨rfl, v_1, rfl, hv_1⟩
  show am_E _ (5, [vR y, vI n, vI t, vI v, vI p, vU, vU, vU, vU, vU, vU, vU], [vI v_1], aq_h m s F c) _
  refine ae_if0 rfl (fun (q_2 : v_1 = 0) => ?_) (fun (q_2 : v_1 ≠ 0) => ?_)
  · refine am_E.go (t2 := (46, [vR y, vI n, vI t, vI v, vI p, vU, vU, vU, vU, vU, vU, vU], [vI (-1)], aq_h m s F c)) rfl rfl ?_
    refine am_E.ret rfl rfl ?_
    refine ⟨_, rfl, aq_smi (aq_sm0 (c := c) (S := mo_S y)) (fun a h => mo_Sa h), ?_, mo_Ik hI (aq_sm0 (c := c) (S := mo_S y)) (mo_k0 (y := y) (c := c))⟩
    unfold fe_a
    rw [if_neg (by omega)]
  · refine am_E.go (t2 := (9, [vR y, vI n, vI t, vI v, vI p, vU, vU, vU, vU, vU, vU, vU], [vI v], aq_h m s F c)) rfl rfl ?_
    refine am_E.go (t2 := (10, [vR y, vI n, vI t, vI v, vI p, vU, vU, vU, vU, vU, vU, vU], [vL v], aq_h m s F c)) rfl rfl ?_
    refine am_E.go (t2 := (13, [vR y, vI n, vI t, vI v, vI p, vU, vU, vU, vU, vU, vU, vU], [vL (-1000), vL v], aq_h m s F c)) rfl rfl ?_
    refine am_E.go (t2 := (16, [vR y, vI n, vI t, vI v, vI p, vU, vU, vU, vU, vU, vU, vU], [vL 1000, vL (-1000), vL v], aq_h m s F c)) rfl rfl ?_
    refine am_E.call rfl rfl rfl (Nat.le_of_ble_eq_true rfl) (qm_in) ?_
    rintro r5 h5 ⟨rfl, v_3, rfl, hv_3⟩
    show am_E _ (19, [vR y, vI n, vI t, vI v, vI p, vU, vU, vU, vU, vU, vU, vU], [vI v_3], aq_h m s F c) _
    refine ae_if0 rfl (fun (q_4 : v_3 = 0) => ?_) (fun (q_4 : v_3 ≠ 0) => ?_)
    · refine am_E.go (t2 := (46, [vR y, vI n, vI t, vI v, vI p, vU, vU, vU, vU, vU, vU, vU], [vI (-1)], aq_h m s F c)) rfl rfl ?_
      refine am_E.ret rfl rfl ?_
      refine ⟨_, rfl, aq_smi (aq_sm0 (c := c) (S := mo_S y)) (fun a h => mo_Sa h), ?_, mo_Ik hI (aq_sm0 (c := c) (S := mo_S y)) (mo_k0 (y := y) (c := c))⟩
      unfold fe_a
      rw [if_neg (by omega)]
    · refine am_E.go (t2 := (24, [vR y, vI n, vI t, vI v, vI p, vU, vU, vU, vU, vU, vU, vU], [vI p], aq_h m s F c)) rfl rfl ?_
      refine am_E.go (t2 := (25, [vR y, vI n, vI t, vI v, vI p, vU, vU, vU, vU, vU, vU, vU], [vL p], aq_h m s F c)) rfl rfl ?_
      refine am_E.go (t2 := (28, [vR y, vI n, vI t, vI v, vI p, vU, vU, vU, vU, vU, vU, vU], [vL 2, vL p], aq_h m s F c)) rfl rfl ?_
      refine am_E.go (t2 := (31, [vR y, vI n, vI t, vI v, vI p, vU, vU, vU, vU, vU, vU, vU], [vL 997, vL 2, vL p], aq_h m s F c)) rfl rfl ?_
      refine am_E.call rfl rfl rfl (Nat.le_of_ble_eq_true rfl) (qm_in) ?_
      rintro r5 h5 ⟨rfl, v_5, rfl, hv_5⟩
      show am_E _ (34, [vR y, vI n, vI t, vI v, vI p, vU, vU, vU, vU, vU, vU, vU], [vI v_5], aq_h m s F c) _
      refine ae_if0 rfl (fun (q_6 : v_5 = 0) => ?_) (fun (q_6 : v_5 ≠ 0) => ?_)
      · refine am_E.go (t2 := (46, [vR y, vI n, vI t, vI v, vI p, vU, vU, vU, vU, vU, vU, vU], [vI (-1)], aq_h m s F c)) rfl rfl ?_
        refine am_E.ret rfl rfl ?_
        refine ⟨_, rfl, aq_smi (aq_sm0 (c := c) (S := mo_S y)) (fun a h => mo_Sa h), ?_, mo_Ik hI (aq_sm0 (c := c) (S := mo_S y)) (mo_k0 (y := y) (c := c))⟩
        unfold fe_a
        rw [if_neg (by omega)]
      · refine am_E.go (t2 := (39, [vR y, vI n, vI t, vI v, vI p, vU, vU, vU, vU, vU, vU, vU], [vI p], aq_h m s F c)) rfl rfl ?_
        refine am_E.call rfl rfl rfl (Nat.le_of_ble_eq_true rfl) (qx_isPrime5 (by omega) (by omega)) ?_
        rintro r5 h5 ⟨rfl, rfl⟩
        show am_E _ (42, [vR y, vI n, vI t, vI v, vI p, vU, vU, vU, vU, vU, vU, vU], [vI (ip_ p 32 2)], aq_h m s F c) _
        have hib := ip_b p 32 2
        refine ae_if0 rfl (fun (q_7 : (ip_ p 32 2) ≠ 0) => ?_) (fun (q_7 : (ip_ p 32 2) = 0) => ?_)
        · refine am_E.go (t2 := (48, [vR y, vI n, vI t, vI v, vI p, vU, vU, vU, vU, vU, vU, vU], [vR y], aq_h m s F c)) rfl rfl ?_
          refine am_E.go (t2 := (49, [vR y, vI n, vI t, vI v, vI p, vU, vU, vU, vU, vU, vU, vU], [vI n, vR y], aq_h m s F c)) rfl rfl ?_
          refine am_E.go (t2 := (50, [vR y, vI n, vI t, vI v, vI p, vU, vU, vU, vU, vU, vU, vU], [vI t, vI n, vR y], aq_h m s F c)) rfl rfl ?_
          refine am_E.go (t2 := (51, [vR y, vI n, vI t, vI v, vI p, vU, vU, vU, vU, vU, vU, vU], [vI (-1), vI t, vI n, vR y], aq_h m s F c)) rfl rfl ?_
          refine am_E.go (t2 := (52, [vR y, vI n, vI t, vI v, vI p, vU, vU, vU, vU, vU, vU, vU], [vR y, vI (-1), vI t, vI n, vR y], aq_h m s F c)) rfl rfl ?_
          refine aq_gf (v := vR (y + 18)) rfl (by omega) hFo (by decide) rfl ?_
          show am_E _ (55, [vR y, vI n, vI t, vI v, vI p, vU, vU, vU, vU, vU, vU, vU], [vR (y + 18), vI (-1), vI t, vI n, vR y], aq_h m s F c) _
          refine aq_callv (y := 5) (as2 := [vI n, vI t, vI (-1), vR (y + 18)]) (rest := []) rfl rfl (by decide) (Nat.le_of_ble_eq_true rfl) rfl rfl (Nat.le_of_ble_eq_true rfl) (by omega) hFo rfl (Nat.le_of_ble_eq_true rfl) (qm_lay (y := y) (a := y + 18) (by omega) hFo (by omega) hG18 (n := n) (t := t) (by omega) (by omega) (by omega) (by omega) (Or.inl rfl)) ?_
          rintro r5 h5 ⟨c_8, rfl, sc_8, vc_8, rfl, hmc_8, hdc_8⟩
          show am_E _ (58, [vR y, vI n, vI t, vI v, vI p, vU, vU, vU, vU, vU, vU, vU], [vI vc_8], aq_h m s F c_8) _
          have hm5 := hmc_8 rfl
          have hNb := hv_Nb n t
          have hPp : nm_P p := ip_nm (by omega) (by omega)
          have hvm := nm_em (a := v) (p := p) (by omega)
          refine am_E.go (t2 := (60, [vR y, vI n, vI t, vI v, vI p, vI vc_8, vU, vU, vU, vU, vU, vU], [], aq_h m s F c_8)) rfl rfl ?_
          refine am_E.go (t2 := (61, [vR y, vI n, vI t, vI v, vI p, vI vc_8, vU, vU, vU, vU, vU, vU], [vI v], aq_h m s F c_8)) rfl rfl ?_
          refine am_E.go (t2 := (63, [vR y, vI n, vI t, vI v, vI p, vI vc_8, vU, vU, vU, vU, vU, vU], [vI p, vI v], aq_h m s F c_8)) rfl rfl ?_
          have e_tm := nm_tm (v := v) (p := p) (by omega)
          refine ae_bin (z := v.tmod p) rfl rfl (am_rem_s (by omega)) ?_
          show am_E _ (64, [vR y, vI n, vI t, vI v, vI p, vI vc_8, vU, vU, vU, vU, vU, vU], [vI (v.tmod p)], aq_h m s F c_8) _
          refine am_E.go (t2 := (66, [vR y, vI n, vI t, vI v, vI p, vI vc_8, vU, vU, vU, vU, vU, vU], [vI p, vI (v.tmod p)], aq_h m s F c_8)) rfl rfl ?_
          refine ae_add rfl (am_ri (by omega) (by omega)) ?_
          show am_E _ (67, [vR y, vI n, vI t, vI v, vI p, vI vc_8, vU, vU, vU, vU, vU, vU], [vI ((v.tmod p) + p)], aq_h m s F c_8) _
          refine am_E.go (t2 := (69, [vR y, vI n, vI t, vI v, vI p, vI vc_8, vU, vU, vU, vU, vU, vU], [vI p, vI ((v.tmod p) + p)], aq_h m s F c_8)) rfl rfl ?_
          refine ae_bin (z := ((v.tmod p) + p) % p) rfl rfl (am_rem_e (by omega) (by omega)) ?_
          show am_E _ (70, [vR y, vI n, vI t, vI v, vI p, vI vc_8, vU, vU, vU, vU, vU, vU], [vI (((v.tmod p) + p) % p)], aq_h m s F c_8) _
          rw [nm_tme (v := v) (p := p) (by omega)]
          refine am_E.go (t2 := (72, [vR y, vI n, vI t, vI v, vI p, vI vc_8, vI (v % p), vU, vU, vU, vU, vU], [], aq_h m s F c_8)) rfl rfl ?_
          refine am_E.go (t2 := (73, [vR y, vI n, vI t, vI v, vI p, vI vc_8, vI (v % p), vU, vU, vU, vU, vU], [vI 0], aq_h m s F c_8)) rfl rfl ?_
          refine am_E.go (t2 := (75, [vR y, vI n, vI t, vI v, vI p, vI vc_8, vI (v % p), vI 0, vU, vU, vU, vU], [], aq_h m s F c_8)) rfl rfl ?_
          exact qx_free_i ⟨hm, hFo, hG5, hG6, hG7, hG8, hG9, hG10, hG11, hG12, hG13, hG14, hG15, hG16, hG17, hG18, hG19, hG20, hG21, hG22, hG23⟩ hI (by omega) (by omega) (by omega) (by omega) (by omega) (by omega) hPp (by omega) (by omega) hvm.1 hvm.2 hm5 (fe_r (by omega) hm5) 8 0 (vU) (vU) (vU) (vU) c_8 (aq_smt (aq_sm0 (c := c) (S := mo_S y)) (aq_smi sc_8 (fun a h => by unfold mo_S; omega))) (by omega) (by omega) (mo_ks (mo_k0 (y := y) (c := c)) sc_8 (by omega)) (fun a b a1 a2 a3 a4 => absurd a4 (by omega)) (by omega)
        · refine am_E.go (t2 := (46, [vR y, vI n, vI t, vI v, vI p, vU, vU, vU, vU, vU, vU, vU], [vI (-1)], aq_h m s F c)) rfl rfl ?_
          refine am_E.ret rfl rfl ?_
          refine ⟨_, rfl, aq_smi (aq_sm0 (c := c) (S := mo_S y)) (fun a h => mo_Sa h), ?_, mo_Ik hI (aq_sm0 (c := c) (S := mo_S y)) (mo_k0 (y := y) (c := c))⟩
          unfold fe_a
          rw [if_neg (by omega)]
