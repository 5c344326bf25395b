
theorem qm_move {m s : Nat} {F : aq_F} {c : aq_C} {y : Nat} (hO : mo_0 m F y) {t f : Int} (ht0 : 0 ≤ t) (ht1 : t < 42) (hf0 : 0 ≤ f) (hf1 : f < 42) : am_E ac_X5_move (0, [vR y, vI t, vI f], [], aq_h m s F c) (aq_Z m s F (fun a => a = y + 15 ∨ a = y + 16 ∨ a = y + 17) c (fun r d => r = none ∧ (∀ j, d (y + 15) j = if j = t then c (y + 15) f else c (y + 15) j) ∧ (∀ j, d (y + 16) j = if j = t then c (y + 16) f else c (y + 16) j) ∧ ∀ j, d (y + 17) j = if j = t then c (y + 17) f else c (y + 17) j)) := by
  obtain ⟨hm, hFo, hG5, hG6, hG7, hG8, hG9, hG10, hG11, hG12, hG13, hG14, hG15, hG16, hG17, hG18, hG19, hG20, hG21, hG22, hG23⟩ := hO
  refine am_E.go (t2 := (1, [vR y, vI t, vI f], [vR y], aq_h m s F c)) rfl rfl ?_
  refine aq_gf (v := vR (y + 15)) rfl (by omega) hFo (by decide) rfl ?_
  show am_E _ (4, [vR y, vI t, vI f], [vR (y + 15)], aq_h m s F c) _
  refine am_E.go (t2 := (5, [vR y, vI t, vI f], [vI t, vR (y + 15)], aq_h m s F c)) rfl rfl ?_
  refine am_E.go (t2 := (6, [vR y, vI t, vI f], [vR y, vI t, vR (y + 15)], aq_h m s F c)) rfl rfl ?_
  refine aq_gf (v := vR (y + 15)) rfl (by omega) hFo (by decide) rfl ?_
  show am_E _ (9, [vR y, vI t, vI f], [vR (y + 15), vI t, vR (y + 15)], aq_h m s F c) _
  refine am_E.go (t2 := (10, [vR y, vI t, vI f], [vI f, vR (y + 15), vI t, vR (y + 15)], aq_h m s F c)) rfl rfl ?_
  refine aq_al (ok := fun k => k == 0) (v := vI (c (y + 15) f)) rfl rfl (by omega) hG15 rfl (by omega) (by omega) rfl ?_
  show am_E _ (11, [vR y, vI t, vI f], [vI (c (y + 15) f), vI t, vR (y + 15)], aq_h m s F c) _
  refine aq_as (kd := 0) rfl rfl (by omega) hG15 (by omega) (by omega) rfl rfl ?_
  show am_E _ (12, [vR y, vI t, vI f], [], aq_h m s F (aq_u c (y + 15) t (c (y + 15) f))) _
  generalize hdc_1 : aq_u c (y + 15) t (c (y + 15) f) = c_1
  have sc_1 := aq_smu (aq_sm0 (c := c) (S := (fun a => a = y + 15 ∨ a = y + 16 ∨ a = y + 17))) hdc_1 (Or.inl rfl)
  refine am_E.go (t2 := (13, [vR y, vI t, vI f], [vR y], aq_h m s F c_1)) rfl rfl ?_
  refine aq_gf (v := vR (y + 16)) rfl (by omega) hFo (by decide) rfl ?_
  show am_E _ (16, [vR y, vI t, vI f], [vR (y + 16)], aq_h m s F c_1) _
  refine am_E.go (t2 := (17, [vR y, vI t, vI f], [vI t, vR (y + 16)], aq_h m s F c_1)) rfl rfl ?_
  refine am_E.go (t2 := (18, [vR y, vI t, vI f], [vR y, vI t, vR (y + 16)], aq_h m s F c_1)) rfl rfl ?_
  refine aq_gf (v := vR (y + 16)) rfl (by omega) hFo (by decide) rfl ?_
  show am_E _ (21, [vR y, vI t, vI f], [vR (y + 16), vI t, vR (y + 16)], aq_h m s F c_1) _
  refine am_E.go (t2 := (22, [vR y, vI t, vI f], [vI f, vR (y + 16), vI t, vR (y + 16)], aq_h m s F c_1)) rfl rfl ?_
  refine aq_al (ok := fun k => k == 0) (v := vI (c_1 (y + 16) f)) rfl rfl (by omega) hG16 rfl (by omega) (by omega) rfl ?_
  show am_E _ (23, [vR y, vI t, vI f], [vI (c_1 (y + 16) f), vI t, vR (y + 16)], aq_h m s F c_1) _
  refine aq_as (kd := 0) rfl rfl (by omega) hG16 (by omega) (by omega) rfl rfl ?_
  show am_E _ (24, [vR y, vI t, vI f], [], aq_h m s F (aq_u c_1 (y + 16) t (c_1 (y + 16) f))) _
  generalize hdc_2 : aq_u c_1 (y + 16) t (c_1 (y + 16) f) = c_2
  have sc_2 := aq_smu sc_1 hdc_2 (Or.inr (Or.inl rfl))
  refine am_E.go (t2 := (25, [vR y, vI t, vI f], [vR y], aq_h m s F c_2)) rfl rfl ?_
  refine aq_gf (v := vR (y + 17)) rfl (by omega) hFo (by decide) rfl ?_
  show am_E _ (28, [vR y, vI t, vI f], [vR (y + 17)], aq_h m s F c_2) _
  refine am_E.go (t2 := (29, [vR y, vI t, vI f], [vI t, vR (y + 17)], aq_h m s F c_2)) rfl rfl ?_
  refine am_E.go (t2 := (30, [vR y, vI t, vI f], [vR y, vI t, vR (y + 17)], aq_h m s F c_2)) rfl rfl ?_
  refine aq_gf (v := vR (y + 17)) rfl (by omega) hFo (by decide) rfl ?_
  show am_E _ (33, [vR y, vI t, vI f], [vR (y + 17), vI t, vR (y + 17)], aq_h m s F c_2) _
  refine am_E.go (t2 := (34, [vR y, vI t, vI f], [vI f, vR (y + 17), vI t, vR (y + 17)], aq_h m s F c_2)) rfl rfl ?_
  refine aq_al (ok := fun k => k == 2) (v := vL (c_2 (y + 17) f)) rfl rfl (by omega) hG17 rfl (by omega) (by omega) rfl ?_
  show am_E _ (35, [vR y, vI t, vI f], [vL (c_2 (y + 17) f), vI t, vR (y + 17)], aq_h m s F c_2) _
  refine aq_asl rfl rfl (by omega) hG17 (by omega) (by omega) rfl ?_
  show am_E _ (36, [vR y, vI t, vI f], [], aq_h m s F (aq_u c_2 (y + 17) t (c_2 (y + 17) f))) _
  generalize hdc_3 : aq_u c_2 (y + 17) t (c_2 (y + 17) f) = c_3
  have sc_3 := aq_smu sc_2 hdc_3 (Or.inr (Or.inr rfl))
  refine am_E.ret rfl rfl ?_
  refine ⟨_, rfl, sc_3, rfl, fun j => ?_, fun j => ?_, fun j => ?_⟩
  · rw [← hdc_3, aq_un (Or.inl (by omega)), ← hdc_2, aq_un (Or.inl (by omega)), ← hdc_1]
    unfold aq_u
    by_cases e : j = t
    · rw [if_pos ⟨rfl, e⟩, if_pos e]
    · rw [if_neg (fun h => e h.2), if_neg e]
  · rw [← hdc_3, aq_un (Or.inl (by omega)), ← hdc_2]
    unfold aq_u
    by_cases e : j = t
    · rw [if_pos ⟨rfl, e⟩, if_pos e, ← hdc_1, aq_un (Or.inl (by omega))]
    · rw [if_neg (fun h => e h.2), if_neg e, ← hdc_1, aq_un (Or.inl (by omega))]
  · rw [← hdc_3]
    unfold aq_u
    by_cases e : j = t
    · rw [if_pos ⟨rfl, e⟩, if_pos e, ← hdc_2, aq_un (Or.inl (by omega)), ← hdc_1, aq_un (Or.inl (by omega))]
    · rw [if_neg (fun h => e h.2), if_neg e, ← hdc_2, aq_un (Or.inl (by omega)), ← hdc_1, aq_un (Or.inl (by omega))]

theorem qm_comes_2 {m s : Nat} {F : aq_F} {c0 : aq_C} {y : Nat} (hO : mo_0 m F y) {K b p f k sz : Int} (hsz : sz < 40) : ∀ (d : Nat) (i : Int) (c : aq_C) (hs : aq_sm (fun a => a = y ∨ a = y + 15 ∨ a = y + 16 ∨ a = y + 17) c0 c) (hz : c y 17 = sz) (hq : mo_q y c0 c) (h0 : 0 ≤ i) (h1 : i ≤ sz) (hv : ∀ j, 0 ≤ j → j ≤ sz → j ≠ i → mo_v y K c j) (hd : sz - i < (d : Int)), am_E ac_X5_comes (148, [vR y, vI b, vI p, vL f, vU, vI k, vI i], [], aq_h m s F c) (aq_Z m s F (fun a => a = y ∨ a = y + 15 ∨ a = y + 16 ∨ a = y + 17) c0 (fun r d => ∃ v, r = some (vI v) ∧ (v = 0 ∨ v = 1) ∧ mo_q y c0 d ∧ (v = 1 → mo_R y K d)))
  | 0, i, c, hs, hz, hq, h0, h1, hv, hd => by exfalso; omega
  | d + 1, i, c, hs, hz, hq, h0, h1, hv, hd => by
    obtain ⟨hm, hFo, hG5, hG6, hG7, hG8, hG9, hG10, hG11, hG12, hG13, hG14, hG15, hG16, hG17, hG18, hG19, hG20, hG21, hG22, hG23⟩ := hO
    refine am_E.go (t2 := (150, [vR y, vI b, vI p, vL f, vU, vI k, vI i], [vI i], aq_h m s F c)) rfl rfl ?_
    refine am_E.go (t2 := (151, [vR y, vI b, vI p, vL f, vU, vI k, vI i], [vR y, vI i], aq_h m s F c)) rfl rfl ?_
    refine aq_gf (v := vI (c y 17)) rfl (by omega) hFo (by decide) rfl ?_
    show am_E _ (154, [vR y, vI b, vI p, vL f, vU, vI k, vI i], [vI (c y 17), vI i], aq_h m s F c) _
    have f_1 := hz
    refine ae_icmp rfl (fun (q_2 : (c y 17) ≤ i) => ?_) (fun (q_2 : i < (c y 17)) => ?_)
    · refine am_E.go (t2 := (174, [vR y, vI b, vI p, vL f, vU, vI k, vI i], [vI 1], aq_h m s F c)) rfl rfl ?_
      refine am_E.ret rfl rfl ?_
      exact ⟨_, rfl, hs, 1, rfl, Or.inr rfl, hq, fun _ => ⟨by omega, by omega, fun j h5 h6 => hv j h5 (by omega) (by omega)⟩⟩
    · refine am_E.go (t2 := (158, [vR y, vI b, vI p, vL f, vU, vI k, vI i], [vR y], aq_h m s F c)) rfl rfl ?_
      refine am_E.go (t2 := (160, [vR y, vI b, vI p, vL f, vU, vI k, vI i], [vI i, vR y], aq_h m s F c)) rfl rfl ?_
      refine am_E.go (t2 := (162, [vR y, vI b, vI p, vL f, vU, vI k, vI i], [vI i, vI i, vR y], aq_h m s F c)) rfl rfl ?_
      refine am_E.go (t2 := (163, [vR y, vI b, vI p, vL f, vU, vI k, vI i], [vI 1, vI i, vI i, vR y], aq_h m s F c)) rfl rfl ?_
      refine ae_add rfl (am_ri (by omega) (by omega)) ?_
      show am_E _ (164, [vR y, vI b, vI p, vL f, vU, vI k, vI i], [vI (i + 1), vI i, vR y], aq_h m s F c) _
      refine aq_callv (y := 3) (as2 := [vI i, vI (i + 1)]) (rest := []) rfl rfl (by decide) (Nat.le_of_ble_eq_true rfl) rfl rfl (Nat.le_of_ble_eq_true rfl) (by omega) hFo rfl (Nat.le_of_ble_eq_true rfl) (qm_move ⟨hm, hFo, hG5, hG6, hG7, hG8, hG9, hG10, hG11, hG12, hG13, hG14, hG15, hG16, hG17, hG18, hG19, hG20, hG21, hG22, hG23⟩ (by omega) (by omega) (by omega) (by omega)) ?_
      rintro r5 h5 ⟨c_m, rfl, s_m, rfl, m15, m16, m17⟩
      show am_E _ (167, [vR y, vI b, vI p, vL f, vU, vI k, vI i], [], aq_h m s F c_m) _
      refine ae_iinc rfl rfl (am_ri (by omega) (by omega)) ?_
      show am_E _ (170, [vR y, vI b, vI p, vL f, vU, vI k, vI (i + 1)], [], aq_h m s F c_m) _
      refine am_E.go (t2 := (148, [vR y, vI b, vI p, vL f, vU, vI k, vI (i + 1)], [], aq_h m s F c_m)) rfl rfl ?_
      exact qm_comes_2 ⟨hm, hFo, hG5, hG6, hG7, hG8, hG9, hG10, hG11, hG12, hG13, hG14, hG15, hG16, hG17, hG18, hG19, hG20, hG21, hG22, hG23⟩ hsz d (i + 1) c_m (aq_smt hs (aq_smi s_m (fun a h => Or.inr h))) (by rw [s_m y (by omega) 17]; exact hz) (mo_qs hq s_m (by omega)) (by omega) (by omega) (fun j h5 h6 h7 => by by_cases e : j = i; (rw [e]; exact mo_vc (by rw [m15 i, if_pos rfl]) (by rw [m17 i, if_pos rfl]) (hv (i + 1) (by omega) (by omega) (by omega))); exact mo_vc (by rw [m15 j, if_neg e]) (by rw [m17 j, if_neg e]) (hv j h5 h6 e)) (by omega)

theorem qm_comes_3 {m s : Nat} {F : aq_F} {c0 : aq_C} {y : Nat} (hO : mo_0 m F y) {K b p f k sz : Int} (hsz : sz < 40) (hk0 : 0 ≤ k) (hb0 : 0 ≤ b) (hb1 : b < K) (hf0 : f ≠ 0) (hf1 : -1000000000000 ≤ f) (hf2 : f ≤ 1000000000000) : ∀ (d : Nat) (i : Int) (c : aq_C) (hs : aq_sm (fun a => a = y ∨ a = y + 15 ∨ a = y + 16 ∨ a = y + 17) c0 c) (hz : c y 17 = sz) (hq : mo_q y c0 c) (h0 : k ≤ i) (h1 : i ≤ sz) (hv : ∀ j, 0 ≤ j → j ≤ sz → j ≠ i → mo_v y K c j) (hd : i - k < (d : Int)), am_E ac_X5_comes (209, [vR y, vI b, vI p, vL f, vU, vI k, vI i], [], aq_h m s F c) (aq_Z m s F (fun a => a = y ∨ a = y + 15 ∨ a = y + 16 ∨ a = y + 17) c0 (fun r d => ∃ v, r = some (vI v) ∧ (v = 0 ∨ v = 1) ∧ mo_q y c0 d ∧ (v = 1 → mo_R y K d)))
  | 0, i, c, hs, hz, hq, h0, h1, hv, hd => by exfalso; omega
  | d + 1, i, c, hs, hz, hq, h0, h1, hv, hd => by
    obtain ⟨hm, hFo, hG5, hG6, hG7, hG8, hG9, hG10, hG11, hG12, hG13, hG14, hG15, hG16, hG17, hG18, hG19, hG20, hG21, hG22, hG23⟩ := hO
    refine am_E.go (t2 := (211, [vR y, vI b, vI p, vL f, vU, vI k, vI i], [vI i], aq_h m s F c)) rfl rfl ?_
    refine am_E.go (t2 := (213, [vR y, vI b, vI p, vL f, vU, vI k, vI i], [vI k, vI i], aq_h m s F c)) rfl rfl ?_
    refine ae_icmp rfl (fun (q_1 : i ≤ k) => ?_) (fun (q_1 : k < i) => ?_)
    · refine am_E.go (t2 := (233, [vR y, vI b, vI p, vL f, vU, vI k, vI i], [vR y], aq_h m s F c)) rfl rfl ?_
      refine aq_gf (v := vR (y + 15)) rfl (by omega) hFo (by decide) rfl ?_
      show am_E _ (236, [vR y, vI b, vI p, vL f, vU, vI k, vI i], [vR (y + 15)], aq_h m s F c) _
      refine am_E.go (t2 := (238, [vR y, vI b, vI p, vL f, vU, vI k, vI i], [vI k, vR (y + 15)], aq_h m s F c)) rfl rfl ?_
      refine am_E.go (t2 := (239, [vR y, vI b, vI p, vL f, vU, vI k, vI i], [vI b, vI k, vR (y + 15)], aq_h m s F c)) rfl rfl ?_
      refine aq_as (kd := 0) rfl rfl (by omega) hG15 (by omega) (by omega) rfl rfl ?_
      show am_E _ (240, [vR y, vI b, vI p, vL f, vU, vI k, vI i], [], aq_h m s F (aq_u c (y + 15) k b)) _
      generalize hdc_2 : aq_u c (y + 15) k b = c_2
      have sc_2 := aq_smu hs hdc_2 (Or.inr (Or.inl rfl))
      refine am_E.go (t2 := (241, [vR y, vI b, vI p, vL f, vU, vI k, vI i], [vR y], aq_h m s F c_2)) rfl rfl ?_
      refine aq_gf (v := vR (y + 16)) rfl (by omega) hFo (by decide) rfl ?_
      show am_E _ (244, [vR y, vI b, vI p, vL f, vU, vI k, vI i], [vR (y + 16)], aq_h m s F c_2) _
      refine am_E.go (t2 := (246, [vR y, vI b, vI p, vL f, vU, vI k, vI i], [vI k, vR (y + 16)], aq_h m s F c_2)) rfl rfl ?_
      refine am_E.go (t2 := (247, [vR y, vI b, vI p, vL f, vU, vI k, vI i], [vI p, vI k, vR (y + 16)], aq_h m s F c_2)) rfl rfl ?_
      refine aq_as (kd := 0) rfl rfl (by omega) hG16 (by omega) (by omega) rfl rfl ?_
      show am_E _ (248, [vR y, vI b, vI p, vL f, vU, vI k, vI i], [], aq_h m s F (aq_u c_2 (y + 16) k p)) _
      generalize hdc_3 : aq_u c_2 (y + 16) k p = c_3
      have sc_3 := aq_smu sc_2 hdc_3 (Or.inr (Or.inr (Or.inl rfl)))
      refine am_E.go (t2 := (249, [vR y, vI b, vI p, vL f, vU, vI k, vI i], [vR y], aq_h m s F c_3)) rfl rfl ?_
      refine aq_gf (v := vR (y + 17)) rfl (by omega) hFo (by decide) rfl ?_
      show am_E _ (252, [vR y, vI b, vI p, vL f, vU, vI k, vI i], [vR (y + 17)], aq_h m s F c_3) _
      refine am_E.go (t2 := (254, [vR y, vI b, vI p, vL f, vU, vI k, vI i], [vI k, vR (y + 17)], aq_h m s F c_3)) rfl rfl ?_
      refine am_E.go (t2 := (255, [vR y, vI b, vI p, vL f, vU, vI k, vI i], [vL f, vI k, vR (y + 17)], aq_h m s F c_3)) rfl rfl ?_
      refine aq_asl rfl rfl (by omega) hG17 (by omega) (by omega) rfl ?_
      show am_E _ (256, [vR y, vI b, vI p, vL f, vU, vI k, vI i], [], aq_h m s F (aq_u c_3 (y + 17) k f)) _
      generalize hdc_4 : aq_u c_3 (y + 17) k f = c_4
      have sc_4 := aq_smu sc_3 hdc_4 (Or.inr (Or.inr (Or.inr rfl)))
      refine am_E.go (t2 := (257, [vR y, vI b, vI p, vL f, vU, vI k, vI i], [vR y], aq_h m s F c_4)) rfl rfl ?_
      refine am_E.go (t2 := (258, [vR y, vI b, vI p, vL f, vU, vI k, vI i], [vR y, vR y], aq_h m s F c_4)) rfl rfl ?_
      refine aq_gf (v := vI (c_4 y 17)) rfl (by omega) hFo (by decide) rfl ?_
      show am_E _ (261, [vR y, vI b, vI p, vL f, vU, vI k, vI i], [vI (c_4 y 17), vR y], aq_h m s F c_4) _
      have f_5 : c_4 y 17 = sz := by rw [← hdc_4, aq_un (Or.inl (by omega)), ← hdc_3, aq_un (Or.inl (by omega)), ← hdc_2, aq_un (Or.inl (by omega)), hz]
      refine am_E.go (t2 := (262, [vR y, vI b, vI p, vL f, vU, vI k, vI i], [vI 1, vI (c_4 y 17), vR y], aq_h m s F c_4)) rfl rfl ?_
      refine ae_add rfl (am_ri (by omega) (by omega)) ?_
      show am_E _ (263, [vR y, vI b, vI p, vL f, vU, vI k, vI i], [vI ((c_4 y 17) + 1), vR y], aq_h m s F c_4) _
      refine aq_pf rfl (by omega) hFo (by decide) rfl rfl ?_
      show am_E _ (266, [vR y, vI b, vI p, vL f, vU, vI k, vI i], [], aq_h m s F (aq_u c_4 y 17 ((c_4 y 17) + 1))) _
      generalize hdc_6 : aq_u c_4 y 17 ((c_4 y 17) + 1) = c_6
      have sc_6 := aq_smu sc_4 hdc_6 (Or.inl rfl)
      refine am_E.go (t2 := (267, [vR y, vI b, vI p, vL f, vU, vI k, vI i], [vI 1], aq_h m s F c_6)) rfl rfl ?_
      refine am_E.ret rfl rfl ?_
      have g17 : c_6 y 17 = sz + 1 := by rw [← hdc_6, aq_us, ← hdc_4, aq_un (Or.inl (by omega)), ← hdc_3, aq_un (Or.inl (by omega)), ← hdc_2, aq_un (Or.inl (by omega)), hz]
      have gq : mo_q y c0 c_6 := mo_qu (mo_qu (mo_qu (mo_qu hq hdc_2 (Or.inl (by omega))) hdc_3 (Or.inl (by omega))) hdc_4 (Or.inl (by omega))) hdc_6 (Or.inr (by decide))
      refine ⟨_, rfl, sc_6, 1, rfl, Or.inr rfl, gq, fun _ => ⟨by omega, by omega, fun j h5 h6 => ?_⟩⟩
      have n15 : c_6 (y + 15) j = if j = k then b else c (y + 15) j := by
        rw [← hdc_6, aq_un (Or.inl (by omega)), ← hdc_4, aq_un (Or.inl (by omega)), ← hdc_3, aq_un (Or.inl (by omega)), ← hdc_2]
        unfold aq_u
        by_cases e : j = k
        · rw [if_pos ⟨rfl, e⟩, if_pos e]
        · rw [if_neg (fun h => e h.2), if_neg e]
      have n17 : c_6 (y + 17) j = if j = k then f else c (y + 17) j := by
        rw [← hdc_6, aq_un (Or.inl (by omega)), ← hdc_4]
        unfold aq_u
        by_cases e : j = k
        · rw [if_pos ⟨rfl, e⟩, if_pos e]
        · rw [if_neg (fun h => e h.2), if_neg e, ← hdc_3, aq_un (Or.inl (by omega)), ← hdc_2, aq_un (Or.inl (by omega))]
      by_cases e9 : j = k
      · rw [if_pos e9] at n15 n17
        exact ⟨by omega, by omega, by omega, by omega, by omega⟩
      · rw [if_neg e9] at n15 n17
        exact mo_vc n15 n17 (hv j h5 (by omega) (by omega))
    · refine am_E.go (t2 := (217, [vR y, vI b, vI p, vL f, vU, vI k, vI i], [vR y], aq_h m s F c)) rfl rfl ?_
      refine am_E.go (t2 := (219, [vR y, vI b, vI p, vL f, vU, vI k, vI i], [vI i, vR y], aq_h m s F c)) rfl rfl ?_
      refine am_E.go (t2 := (221, [vR y, vI b, vI p, vL f, vU, vI k, vI i], [vI i, vI i, vR y], aq_h m s F c)) rfl rfl ?_
      refine am_E.go (t2 := (222, [vR y, vI b, vI p, vL f, vU, vI k, vI i], [vI 1, vI i, vI i, vR y], aq_h m s F c)) rfl rfl ?_
      refine ae_sub rfl (am_ri (by omega) (by omega)) ?_
      show am_E _ (223, [vR y, vI b, vI p, vL f, vU, vI k, vI i], [vI (i - 1), vI i, vR y], aq_h m s F c) _
      refine aq_callv (y := 3) (as2 := [vI i, vI (i - 1)]) (rest := []) rfl rfl (by decide) (Nat.le_of_ble_eq_true rfl) rfl rfl (Nat.le_of_ble_eq_true rfl) (by omega) hFo rfl (Nat.le_of_ble_eq_true rfl) (qm_move ⟨hm, hFo, hG5, hG6, hG7, hG8, hG9, hG10, hG11, hG12, hG13, hG14, hG15, hG16, hG17, hG18, hG19, hG20, hG21, hG22, hG23⟩ (by omega) (by omega) (by omega) (by omega)) ?_
      rintro r5 h5 ⟨c_m, rfl, s_m, rfl, m15, m16, m17⟩
      show am_E _ (226, [vR y, vI b, vI p, vL f, vU, vI k, vI i], [], aq_h m s F c_m) _
      refine ae_iinc rfl rfl (am_ri (by omega) (by omega)) ?_
      show am_E _ (229, [vR y, vI b, vI p, vL f, vU, vI k, vI (i + (-1))], [], aq_h m s F c_m) _
      refine am_E.go (t2 := (209, [vR y, vI b, vI p, vL f, vU, vI k, vI (i + (-1))], [], aq_h m s F c_m)) rfl rfl ?_
      exact qm_comes_3 ⟨hm, hFo, hG5, hG6, hG7, hG8, hG9, hG10, hG11, hG12, hG13, hG14, hG15, hG16, hG17, hG18, hG19, hG20, hG21, hG22, hG23⟩ hsz hk0 hb0 hb1 hf0 hf1 hf2 d (i + (-1)) c_m (aq_smt hs (aq_smi s_m (fun a h => Or.inr h))) (by rw [s_m y (by omega) 17]; exact hz) (mo_qs hq s_m (by omega)) (by omega) (by omega) (fun j h5 h6 h7 => by by_cases e : j = i; (rw [e]; exact mo_vc (by rw [m15 i, if_pos rfl]) (by rw [m17 i, if_pos rfl]) (hv (i - 1) (by omega) (by omega) (by omega))); exact mo_vc (by rw [m15 j, if_neg e]) (by rw [m17 j, if_neg e]) (hv j h5 h6 e)) (by omega)

theorem qm_comes_1 {m s : Nat} {F : aq_F} {c : aq_C} {y : Nat} (hO : mo_0 m F y) {K b p f : Int} (hb0 : 0 ≤ b) (hb1 : b < K) (hR : mo_R y K c) : ∀ (d : Nat) (k : Int) (v6 : am_V) (h0 : 0 ≤ k) (h1 : k ≤ c y 17) (hd : c y 17 - k < (d : Int)) (K0 : ∀ (k2 : Int) (f0 : 0 ≤ k2) (f1 : k2 ≤ c y 17), am_E ac_X5_comes (80, [vR y, vI b, vI p, vL f, vU, vI k2, v6], [], aq_h m s F c) (aq_Z m s F (fun a => a = y ∨ a = y + 15 ∨ a = y + 16 ∨ a = y + 17) c (fun r d => ∃ v, r = some (vI v) ∧ (v = 0 ∨ v = 1) ∧ mo_q y c d ∧ (v = 1 → mo_R y K d)))), am_E ac_X5_comes (32, [vR y, vI b, vI p, vL f, vU, vI k, v6], [], aq_h m s F c) (aq_Z m s F (fun a => a = y ∨ a = y + 15 ∨ a = y + 16 ∨ a = y + 17) c (fun r d => ∃ v, r = some (vI v) ∧ (v = 0 ∨ v = 1) ∧ mo_q y c d ∧ (v = 1 → mo_R y K d)))
  | 0, k, v6, h0, h1, hd, K0 => by exfalso; omega
  | d + 1, k, v6, h0, h1, hd, K0 => by
    obtain ⟨hm, hFo, hG5, hG6, hG7, hG8, hG9, hG10, hG11, hG12, hG13, hG14, hG15, hG16, hG17, hG18, hG19, hG20, hG21, hG22, hG23⟩ := hO
    have hR1 := hR.1
    have hR2 := hR.2.1
    refine am_E.go (t2 := (34, [vR y, vI b, vI p, vL f, vU, vI k, v6], [vI k], aq_h m s F c)) rfl rfl ?_
    refine am_E.go (t2 := (35, [vR y, vI b, vI p, vL f, vU, vI k, v6], [vR y, vI k], aq_h m s F c)) rfl rfl ?_
    refine aq_gf (v := vI (c y 17)) rfl (by omega) hFo (by decide) rfl ?_
    show am_E _ (38, [vR y, vI b, vI p, vL f, vU, vI k, v6], [vI (c y 17), vI k], aq_h m s F c) _
    skip
    refine ae_icmp rfl (fun (q_2 : (c y 17) ≤ k) => ?_) (fun (q_2 : k < (c y 17)) => ?_)
    · exact K0 k (by omega) (by omega)
    · refine am_E.go (t2 := (42, [vR y, vI b, vI p, vL f, vU, vI k, v6], [vR y], aq_h m s F c)) rfl rfl ?_
      refine aq_gf (v := vR (y + 15)) rfl (by omega) hFo (by decide) rfl ?_
      show am_E _ (45, [vR y, vI b, vI p, vL f, vU, vI k, v6], [vR (y + 15)], aq_h m s F c) _
      refine am_E.go (t2 := (47, [vR y, vI b, vI p, vL f, vU, vI k, v6], [vI k, vR (y + 15)], aq_h m s F c)) rfl rfl ?_
      refine aq_al (ok := fun k => k == 0) (v := vI (c (y + 15) k)) rfl rfl (by omega) hG15 rfl (by omega) (by omega) rfl ?_
      show am_E _ (48, [vR y, vI b, vI p, vL f, vU, vI k, v6], [vI (c (y + 15) k)], aq_h m s F c) _
      refine am_E.go (t2 := (49, [vR y, vI b, vI p, vL f, vU, vI k, v6], [vI b, vI (c (y + 15) k)], aq_h m s F c)) rfl rfl ?_
      refine ae_icmp rfl (fun (q_3 : (c (y + 15) k) < b) => ?_) (fun (q_3 : b ≤ (c (y + 15) k)) => ?_)
      · refine ae_iinc rfl rfl (am_ri (by omega) (by omega)) ?_
        show am_E _ (77, [vR y, vI b, vI p, vL f, vU, vI (k + 1), v6], [], aq_h m s F c) _
        refine am_E.go (t2 := (32, [vR y, vI b, vI p, vL f, vU, vI (k + 1), v6], [], aq_h m s F c)) rfl rfl ?_
        exact qm_comes_1 ⟨hm, hFo, hG5, hG6, hG7, hG8, hG9, hG10, hG11, hG12, hG13, hG14, hG15, hG16, hG17, hG18, hG19, hG20, hG21, hG22, hG23⟩ hb0 hb1 hR d (k + 1) (v6) (by omega) (by omega) (by omega) K0
      · refine am_E.go (t2 := (53, [vR y, vI b, vI p, vL f, vU, vI k, v6], [vR y], aq_h m s F c)) rfl rfl ?_
        refine aq_gf (v := vR (y + 15)) rfl (by omega) hFo (by decide) rfl ?_
        show am_E _ (56, [vR y, vI b, vI p, vL f, vU, vI k, v6], [vR (y + 15)], aq_h m s F c) _
        refine am_E.go (t2 := (58, [vR y, vI b, vI p, vL f, vU, vI k, v6], [vI k, vR (y + 15)], aq_h m s F c)) rfl rfl ?_
        refine aq_al (ok := fun k => k == 0) (v := vI (c (y + 15) k)) rfl rfl (by omega) hG15 rfl (by omega) (by omega) rfl ?_
        show am_E _ (59, [vR y, vI b, vI p, vL f, vU, vI k, v6], [vI (c (y + 15) k)], aq_h m s F c) _
        refine am_E.go (t2 := (60, [vR y, vI b, vI p, vL f, vU, vI k, v6], [vI b, vI (c (y + 15) k)], aq_h m s F c)) rfl rfl ?_
        refine ae_icmp rfl (fun (q_4 : (c (y + 15) k) ≠ b) => ?_) (fun (q_4 : (c (y + 15) k) = b) => ?_)
        · exact K0 k (by omega) (by omega)
        · refine am_E.go (t2 := (64, [vR y, vI b, vI p, vL f, vU, vI k, v6], [vR y], aq_h m s F c)) rfl rfl ?_
          refine aq_gf (v := vR (y + 16)) rfl (by omega) hFo (by decide) rfl ?_
          show am_E _ (67, [vR y, vI b, vI p, vL f, vU, vI k, v6], [vR (y + 16)], aq_h m s F c) _
          refine am_E.go (t2 := (69, [vR y, vI b, vI p, vL f, vU, vI k, v6], [vI k, vR (y + 16)], aq_h m s F c)) rfl rfl ?_
          refine aq_al (ok := fun k => k == 0) (v := vI (c (y + 16) k)) rfl rfl (by omega) hG16 rfl (by omega) (by omega) rfl ?_
          show am_E _ (70, [vR y, vI b, vI p, vL f, vU, vI k, v6], [vI (c (y + 16) k)], aq_h m s F c) _
          refine am_E.go (t2 := (71, [vR y, vI b, vI p, vL f, vU, vI k, v6], [vI p, vI (c (y + 16) k)], aq_h m s F c)) rfl rfl ?_
          refine ae_icmp rfl (fun (q_5 : p ≤ (c (y + 16) k)) => ?_) (fun (q_5 : (c (y + 16) k) < p) => ?_)
          · exact K0 k (by omega) (by omega)
          · refine ae_iinc rfl rfl (am_ri (by omega) (by omega)) ?_
            show am_E _ (77, [vR y, vI b, vI p, vL f, vU, vI (k + 1), v6], [], aq_h m s F c) _
            refine am_E.go (t2 := (32, [vR y, vI b, vI p, vL f, vU, vI (k + 1), v6], [], aq_h m s F c)) rfl rfl ?_
            exact qm_comes_1 ⟨hm, hFo, hG5, hG6, hG7, hG8, hG9, hG10, hG11, hG12, hG13, hG14, hG15, hG16, hG17, hG18, hG19, hG20, hG21, hG22, hG23⟩ hb0 hb1 hR d (k + 1) (v6) (by omega) (by omega) (by omega) K0

theorem qm_comes {m s : Nat} {F : aq_F} {c : aq_C} {y : Nat} (hO : mo_0 m F y) {K b p f : Int} (hb0 : 0 ≤ b) (hb1 : b < K) (hR : mo_R y K c) : am_E ac_X5_comes (0, [vR y, vI b, vI p, vL f, vU, vU, vU], [], aq_h m s F c) (aq_Z m s F (fun a => a = y ∨ a = y + 15 ∨ a = y + 16 ∨ a = y + 17) c (fun r d => ∃ v, r = some (vI v) ∧ (v = 0 ∨ v = 1) ∧ mo_q y c d ∧ (v = 1 → mo_R y K d))) := by
  obtain ⟨hm, hFo, hG5, hG6, hG7, hG8, hG9, hG10, hG11, hG12, hG13, hG14, hG15, hG16, hG17, hG18, hG19, hG20, hG21, hG22, hG23⟩ := hO
  have hR1 := hR.1
  have hR2 := hR.2.1
  refine am_E.go (t2 := (1, [vR y, vI b, vI p, vL f, vU, vU, vU], [vL f], aq_h m s F c)) rfl rfl ?_
  refine am_E.go (t2 := (2, [vR y, vI b, vI p, vL f, vU, vU, vU], [vL 0, vL f], aq_h m s F c)) rfl rfl ?_
  have ez_1 := am_lcf f 0
  refine am_E.go (t2 := (3, [vR y, vI b, vI p, vL f, vU, vU, vU], [vI (if f < 0 then -1 else if f = 0 then 0 else 1)], aq_h m s F c)) rfl rfl ?_
  generalize (if f < 0 then -1 else if f = 0 then 0 else 1) = z_1 at ez_1 ⊢
  refine ae_if0 rfl (fun (q_2 : z_1 ≠ 0) => ?_) (fun (q_2 : z_1 = 0) => ?_)
  · refine am_E.go (t2 := (9, [vR y, vI b, vI p, vL f, vU, vU, vU], [vI p], aq_h m s F c)) rfl rfl ?_
    refine am_E.go (t2 := (11, [vR y, vI b, vI p, vL f, vU, vU, vU], [vI 20, vI p], aq_h m s F c)) rfl rfl ?_
    refine ae_icmp rfl (fun (q_3 : 20 < p) => ?_) (fun (q_3 : p ≤ 20) => ?_)
    · refine am_E.go (t2 := (28, [vR y, vI b, vI p, vL f, vU, vU, vU], [vI 0], aq_h m s F c)) rfl rfl ?_
      refine am_E.ret rfl rfl ?_
      exact ⟨_, rfl, (aq_sm0 (c := c) (S := (fun a => a = y ∨ a = y + 15 ∨ a = y + 16 ∨ a = y + 17))), 0, rfl, Or.inl rfl, mo_q0, fun h => absurd h (by decide)⟩
    · refine am_E.go (t2 := (15, [vR y, vI b, vI p, vL f, vU, vU, vU], [vL f], aq_h m s F c)) rfl rfl ?_
      refine am_E.go (t2 := (18, [vR y, vI b, vI p, vL f, vU, vU, vU], [vL (-1000000000000), vL f], aq_h m s F c)) rfl rfl ?_
      refine am_E.go (t2 := (21, [vR y, vI b, vI p, vL f, vU, vU, vU], [vL 1000000000000, vL (-1000000000000), vL f], aq_h m s F c)) rfl rfl ?_
      refine am_E.call rfl rfl rfl (Nat.le_of_ble_eq_true rfl) (qm_in) ?_
      rintro r5 h5 ⟨rfl, v_4, rfl, hv_4⟩
      show am_E _ (24, [vR y, vI b, vI p, vL f, vU, vU, vU], [vI v_4], aq_h m s F c) _
      refine ae_if0 rfl (fun (q_5 : v_4 ≠ 0) => ?_) (fun (q_5 : v_4 = 0) => ?_)
      · refine am_E.go (t2 := (30, [vR y, vI b, vI p, vL f, vU, vU, vU], [vI 0], aq_h m s F c)) rfl rfl ?_
        refine am_E.go (t2 := (32, [vR y, vI b, vI p, vL f, vU, vI 0, vU], [], aq_h m s F c)) rfl rfl ?_
        refine qm_comes_1 ⟨hm, hFo, hG5, hG6, hG7, hG8, hG9, hG10, hG11, hG12, hG13, hG14, hG15, hG16, hG17, hG18, hG19, hG20, hG21, hG22, hG23⟩ hb0 hb1 hR 41 0 (vU) (by omega) (by omega) (by omega) ?_
        · intro k2_32 f0_32 f1_32
          refine am_E.go (t2 := (82, [vR y, vI b, vI p, vL f, vU, vI k2_32, vU], [vI k2_32], aq_h m s F c)) rfl rfl ?_
          refine am_E.go (t2 := (83, [vR y, vI b, vI p, vL f, vU, vI k2_32, vU], [vR y, vI k2_32], aq_h m s F c)) rfl rfl ?_
          refine aq_gf (v := vI (c y 17)) rfl (by omega) hFo (by decide) rfl ?_
          show am_E _ (86, [vR y, vI b, vI p, vL f, vU, vI k2_32, vU], [vI (c y 17), vI k2_32], aq_h m s F c) _
          skip
          refine ae_icmp rfl (fun (q_8 : (c y 17) ≤ k2_32) => ?_) (fun (q_8 : k2_32 < (c y 17)) => ?_)
          · refine am_E.go (t2 := (193, [vR y, vI b, vI p, vL f, vU, vI k2_32, vU], [vR y], aq_h m s F c)) rfl rfl ?_
            refine aq_gf (v := vI (c y 17)) rfl (by omega) hFo (by decide) rfl ?_
            show am_E _ (196, [vR y, vI b, vI p, vL f, vU, vI k2_32, vU], [vI (c y 17)], aq_h m s F c) _
            skip
            refine am_E.go (t2 := (198, [vR y, vI b, vI p, vL f, vU, vI k2_32, vU], [vI 40, vI (c y 17)], aq_h m s F c)) rfl rfl ?_
            refine ae_icmp rfl (fun (q_10 : (c y 17) ≠ 40) => ?_) (fun (q_10 : (c y 17) = 40) => ?_)
            · refine am_E.go (t2 := (204, [vR y, vI b, vI p, vL f, vU, vI k2_32, vU], [vR y], aq_h m s F c)) rfl rfl ?_
              refine aq_gf (v := vI (c y 17)) rfl (by omega) hFo (by decide) rfl ?_
              show am_E _ (207, [vR y, vI b, vI p, vL f, vU, vI k2_32, vU], [vI (c y 17)], aq_h m s F c) _
              skip
              refine am_E.go (t2 := (209, [vR y, vI b, vI p, vL f, vU, vI k2_32, vI (c y 17)], [], aq_h m s F c)) rfl rfl ?_
              have hz_e : c y 17 = c y 17 := rfl
              have hq_e : mo_q y c c := mo_q0
              have hv_e : ∀ j, 0 ≤ j → j ≤ c y 17 → j ≠ c y 17 → mo_v y K c j := fun j h5 h6 h7 => hR.2.2 j h5 (by omega)
              exact qm_comes_3 ⟨hm, hFo, hG5, hG6, hG7, hG8, hG9, hG10, hG11, hG12, hG13, hG14, hG15, hG16, hG17, hG18, hG19, hG20, hG21, hG22, hG23⟩ (by omega) (by omega) hb0 hb1 (by omega) (by omega) (by omega) 42 (c y 17) c (aq_sm0 (c := c) (S := (fun a => a = y ∨ a = y + 15 ∨ a = y + 16 ∨ a = y + 17))) hz_e hq_e (by omega) (by omega) hv_e (by omega)
            · refine am_E.go (t2 := (202, [vR y, vI b, vI p, vL f, vU, vI k2_32, vU], [vI 0], aq_h m s F c)) rfl rfl ?_
              refine am_E.ret rfl rfl ?_
              exact ⟨_, rfl, (aq_sm0 (c := c) (S := (fun a => a = y ∨ a = y + 15 ∨ a = y + 16 ∨ a = y + 17))), 0, rfl, Or.inl rfl, mo_q0, fun h => absurd h (by decide)⟩
          · refine am_E.go (t2 := (90, [vR y, vI b, vI p, vL f, vU, vI k2_32, vU], [vR y], aq_h m s F c)) rfl rfl ?_
            refine aq_gf (v := vR (y + 15)) rfl (by omega) hFo (by decide) rfl ?_
            show am_E _ (93, [vR y, vI b, vI p, vL f, vU, vI k2_32, vU], [vR (y + 15)], aq_h m s F c) _
            refine am_E.go (t2 := (95, [vR y, vI b, vI p, vL f, vU, vI k2_32, vU], [vI k2_32, vR (y + 15)], aq_h m s F c)) rfl rfl ?_
            refine aq_al (ok := fun k => k == 0) (v := vI (c (y + 15) k2_32)) rfl rfl (by omega) hG15 rfl (by omega) (by omega) rfl ?_
            show am_E _ (96, [vR y, vI b, vI p, vL f, vU, vI k2_32, vU], [vI (c (y + 15) k2_32)], aq_h m s F c) _
            refine am_E.go (t2 := (97, [vR y, vI b, vI p, vL f, vU, vI k2_32, vU], [vI b, vI (c (y + 15) k2_32)], aq_h m s F c)) rfl rfl ?_
            refine ae_icmp rfl (fun (q_12 : (c (y + 15) k2_32) ≠ b) => ?_) (fun (q_12 : (c (y + 15) k2_32) = b) => ?_)
            · refine am_E.go (t2 := (193, [vR y, vI b, vI p, vL f, vU, vI k2_32, vU], [vR y], aq_h m s F c)) rfl rfl ?_
              refine aq_gf (v := vI (c y 17)) rfl (by omega) hFo (by decide) rfl ?_
              show am_E _ (196, [vR y, vI b, vI p, vL f, vU, vI k2_32, vU], [vI (c y 17)], aq_h m s F c) _
              skip
              refine am_E.go (t2 := (198, [vR y, vI b, vI p, vL f, vU, vI k2_32, vU], [vI 40, vI (c y 17)], aq_h m s F c)) rfl rfl ?_
              refine ae_icmp rfl (fun (q_14 : (c y 17) ≠ 40) => ?_) (fun (q_14 : (c y 17) = 40) => ?_)
              · refine am_E.go (t2 := (204, [vR y, vI b, vI p, vL f, vU, vI k2_32, vU], [vR y], aq_h m s F c)) rfl rfl ?_
                refine aq_gf (v := vI (c y 17)) rfl (by omega) hFo (by decide) rfl ?_
                show am_E _ (207, [vR y, vI b, vI p, vL f, vU, vI k2_32, vU], [vI (c y 17)], aq_h m s F c) _
                skip
                refine am_E.go (t2 := (209, [vR y, vI b, vI p, vL f, vU, vI k2_32, vI (c y 17)], [], aq_h m s F c)) rfl rfl ?_
                have hz_e : c y 17 = c y 17 := rfl
                have hq_e : mo_q y c c := mo_q0
                have hv_e : ∀ j, 0 ≤ j → j ≤ c y 17 → j ≠ c y 17 → mo_v y K c j := fun j h5 h6 h7 => hR.2.2 j h5 (by omega)
                exact qm_comes_3 ⟨hm, hFo, hG5, hG6, hG7, hG8, hG9, hG10, hG11, hG12, hG13, hG14, hG15, hG16, hG17, hG18, hG19, hG20, hG21, hG22, hG23⟩ (by omega) (by omega) hb0 hb1 (by omega) (by omega) (by omega) 42 (c y 17) c (aq_sm0 (c := c) (S := (fun a => a = y ∨ a = y + 15 ∨ a = y + 16 ∨ a = y + 17))) hz_e hq_e (by omega) (by omega) hv_e (by omega)
              · refine am_E.go (t2 := (202, [vR y, vI b, vI p, vL f, vU, vI k2_32, vU], [vI 0], aq_h m s F c)) rfl rfl ?_
                refine am_E.ret rfl rfl ?_
                exact ⟨_, rfl, (aq_sm0 (c := c) (S := (fun a => a = y ∨ a = y + 15 ∨ a = y + 16 ∨ a = y + 17))), 0, rfl, Or.inl rfl, mo_q0, fun h => absurd h (by decide)⟩
            · refine am_E.go (t2 := (101, [vR y, vI b, vI p, vL f, vU, vI k2_32, vU], [vR y], aq_h m s F c)) rfl rfl ?_
              refine aq_gf (v := vR (y + 16)) rfl (by omega) hFo (by decide) rfl ?_
              show am_E _ (104, [vR y, vI b, vI p, vL f, vU, vI k2_32, vU], [vR (y + 16)], aq_h m s F c) _
              refine am_E.go (t2 := (106, [vR y, vI b, vI p, vL f, vU, vI k2_32, vU], [vI k2_32, vR (y + 16)], aq_h m s F c)) rfl rfl ?_
              refine aq_al (ok := fun k => k == 0) (v := vI (c (y + 16) k2_32)) rfl rfl (by omega) hG16 rfl (by omega) (by omega) rfl ?_
              show am_E _ (107, [vR y, vI b, vI p, vL f, vU, vI k2_32, vU], [vI (c (y + 16) k2_32)], aq_h m s F c) _
              refine am_E.go (t2 := (108, [vR y, vI b, vI p, vL f, vU, vI k2_32, vU], [vI p, vI (c (y + 16) k2_32)], aq_h m s F c)) rfl rfl ?_
              refine ae_icmp rfl (fun (q_16 : (c (y + 16) k2_32) ≠ p) => ?_) (fun (q_16 : (c (y + 16) k2_32) = p) => ?_)
              · refine am_E.go (t2 := (193, [vR y, vI b, vI p, vL f, vU, vI k2_32, vU], [vR y], aq_h m s F c)) rfl rfl ?_
                refine aq_gf (v := vI (c y 17)) rfl (by omega) hFo (by decide) rfl ?_
                show am_E _ (196, [vR y, vI b, vI p, vL f, vU, vI k2_32, vU], [vI (c y 17)], aq_h m s F c) _
                skip
                refine am_E.go (t2 := (198, [vR y, vI b, vI p, vL f, vU, vI k2_32, vU], [vI 40, vI (c y 17)], aq_h m s F c)) rfl rfl ?_
                refine ae_icmp rfl (fun (q_18 : (c y 17) ≠ 40) => ?_) (fun (q_18 : (c y 17) = 40) => ?_)
                · refine am_E.go (t2 := (204, [vR y, vI b, vI p, vL f, vU, vI k2_32, vU], [vR y], aq_h m s F c)) rfl rfl ?_
                  refine aq_gf (v := vI (c y 17)) rfl (by omega) hFo (by decide) rfl ?_
                  show am_E _ (207, [vR y, vI b, vI p, vL f, vU, vI k2_32, vU], [vI (c y 17)], aq_h m s F c) _
                  skip
                  refine am_E.go (t2 := (209, [vR y, vI b, vI p, vL f, vU, vI k2_32, vI (c y 17)], [], aq_h m s F c)) rfl rfl ?_
                  have hz_e : c y 17 = c y 17 := rfl
                  have hq_e : mo_q y c c := mo_q0
                  have hv_e : ∀ j, 0 ≤ j → j ≤ c y 17 → j ≠ c y 17 → mo_v y K c j := fun j h5 h6 h7 => hR.2.2 j h5 (by omega)
                  exact qm_comes_3 ⟨hm, hFo, hG5, hG6, hG7, hG8, hG9, hG10, hG11, hG12, hG13, hG14, hG15, hG16, hG17, hG18, hG19, hG20, hG21, hG22, hG23⟩ (by omega) (by omega) hb0 hb1 (by omega) (by omega) (by omega) 42 (c y 17) c (aq_sm0 (c := c) (S := (fun a => a = y ∨ a = y + 15 ∨ a = y + 16 ∨ a = y + 17))) hz_e hq_e (by omega) (by omega) hv_e (by omega)
                · refine am_E.go (t2 := (202, [vR y, vI b, vI p, vL f, vU, vI k2_32, vU], [vI 0], aq_h m s F c)) rfl rfl ?_
                  refine am_E.ret rfl rfl ?_
                  exact ⟨_, rfl, (aq_sm0 (c := c) (S := (fun a => a = y ∨ a = y + 15 ∨ a = y + 16 ∨ a = y + 17))), 0, rfl, Or.inl rfl, mo_q0, fun h => absurd h (by decide)⟩
              · refine am_E.go (t2 := (112, [vR y, vI b, vI p, vL f, vU, vI k2_32, vU], [vR y], aq_h m s F c)) rfl rfl ?_
                refine aq_gf (v := vR (y + 17)) rfl (by omega) hFo (by decide) rfl ?_
                show am_E _ (115, [vR y, vI b, vI p, vL f, vU, vI k2_32, vU], [vR (y + 17)], aq_h m s F c) _
                refine am_E.go (t2 := (117, [vR y, vI b, vI p, vL f, vU, vI k2_32, vU], [vI k2_32, vR (y + 17)], aq_h m s F c)) rfl rfl ?_
                refine am_E.go (t2 := (118, [vR y, vI b, vI p, vL f, vU, vI k2_32, vU], [vI k2_32, vR (y + 17), vI k2_32, vR (y + 17)], aq_h m s F c)) rfl rfl ?_
                refine aq_al (ok := fun k => k == 2) (v := vL (c (y + 17) k2_32)) rfl rfl (by omega) hG17 rfl (by omega) (by omega) rfl ?_
                show am_E _ (119, [vR y, vI b, vI p, vL f, vU, vI k2_32, vU], [vL (c (y + 17) k2_32), vI k2_32, vR (y + 17)], aq_h m s F c) _
                have f_20 := hR.2.2 k2_32 (by omega) (by omega)
                unfold mo_v at f_20
                refine am_E.go (t2 := (120, [vR y, vI b, vI p, vL f, vU, vI k2_32, vU], [vL f, vL (c (y + 17) k2_32), vI k2_32, vR (y + 17)], aq_h m s F c)) rfl rfl ?_
                refine ae_binl (z := (c (y + 17) k2_32) + f) rfl rfl (by rw [am_wl_id (am_rl (by omega) (by omega))]) ?_
                show am_E _ (121, [vR y, vI b, vI p, vL f, vU, vI k2_32, vU], [vL ((c (y + 17) k2_32) + f), vI k2_32, vR (y + 17)], aq_h m s F c) _
                refine aq_asl rfl rfl (by omega) hG17 (by omega) (by omega) rfl ?_
                show am_E _ (122, [vR y, vI b, vI p, vL f, vU, vI k2_32, vU], [], aq_h m s F (aq_u c (y + 17) k2_32 ((c (y + 17) k2_32) + f))) _
                generalize hdc_21 : aq_u c (y + 17) k2_32 ((c (y + 17) k2_32) + f) = c_21
                have sc_21 := aq_smu (aq_sm0 (c := c) (S := (fun a => a = y ∨ a = y + 15 ∨ a = y + 16 ∨ a = y + 17))) hdc_21 (Or.inr (Or.inr (Or.inr rfl)))
                refine am_E.go (t2 := (123, [vR y, vI b, vI p, vL f, vU, vI k2_32, vU], [vR y], aq_h m s F c_21)) rfl rfl ?_
                refine aq_gf (v := vR (y + 17)) rfl (by omega) hFo (by decide) rfl ?_
                show am_E _ (126, [vR y, vI b, vI p, vL f, vU, vI k2_32, vU], [vR (y + 17)], aq_h m s F c_21) _
                refine am_E.go (t2 := (128, [vR y, vI b, vI p, vL f, vU, vI k2_32, vU], [vI k2_32, vR (y + 17)], aq_h m s F c_21)) rfl rfl ?_
                refine aq_al (ok := fun k => k == 2) (v := vL (c_21 (y + 17) k2_32)) rfl rfl (by omega) hG17 rfl (by omega) (by omega) rfl ?_
                show am_E _ (129, [vR y, vI b, vI p, vL f, vU, vI k2_32, vU], [vL (c_21 (y + 17) k2_32)], aq_h m s F c_21) _
                have f_22 : c_21 (y + 17) k2_32 = c (y + 17) k2_32 + f := by rw [← hdc_21, aq_us]
                refine am_E.go (t2 := (130, [vR y, vI b, vI p, vL f, vU, vI k2_32, vU], [vL 0, vL (c_21 (y + 17) k2_32)], aq_h m s F c_21)) rfl rfl ?_
                have ez_23 := am_lcf (c_21 (y + 17) k2_32) 0
                refine am_E.go (t2 := (131, [vR y, vI b, vI p, vL f, vU, vI k2_32, vU], [vI (if (c_21 (y + 17) k2_32) < 0 then -1 else if (c_21 (y + 17) k2_32) = 0 then 0 else 1)], aq_h m s F c_21)) rfl rfl ?_
                generalize (if (c_21 (y + 17) k2_32) < 0 then -1 else if (c_21 (y + 17) k2_32) = 0 then 0 else 1) = z_23 at ez_23 ⊢
                refine ae_if0 rfl (fun (q_24 : z_23 ≠ 0) => ?_) (fun (q_24 : z_23 = 0) => ?_)
                · refine am_E.go (t2 := (176, [vR y, vI b, vI p, vL f, vU, vI k2_32, vU], [vR y], aq_h m s F c_21)) rfl rfl ?_
                  refine aq_gf (v := vR (y + 17)) rfl (by omega) hFo (by decide) rfl ?_
                  show am_E _ (179, [vR y, vI b, vI p, vL f, vU, vI k2_32, vU], [vR (y + 17)], aq_h m s F c_21) _
                  refine am_E.go (t2 := (181, [vR y, vI b, vI p, vL f, vU, vI k2_32, vU], [vI k2_32, vR (y + 17)], aq_h m s F c_21)) rfl rfl ?_
                  refine aq_al (ok := fun k => k == 2) (v := vL (c_21 (y + 17) k2_32)) rfl rfl (by omega) hG17 rfl (by omega) (by omega) rfl ?_
                  show am_E _ (182, [vR y, vI b, vI p, vL f, vU, vI k2_32, vU], [vL (c_21 (y + 17) k2_32)], aq_h m s F c_21) _
                  have f_25 : c_21 (y + 17) k2_32 = c (y + 17) k2_32 + f := by rw [← hdc_21, aq_us]
                  refine am_E.go (t2 := (185, [vR y, vI b, vI p, vL f, vU, vI k2_32, vU], [vL (-1000000000000), vL (c_21 (y + 17) k2_32)], aq_h m s F c_21)) rfl rfl ?_
                  refine am_E.go (t2 := (188, [vR y, vI b, vI p, vL f, vU, vI k2_32, vU], [vL 1000000000000, vL (-1000000000000), vL (c_21 (y + 17) k2_32)], aq_h m s F c_21)) rfl rfl ?_
                  refine am_E.call rfl rfl rfl (Nat.le_of_ble_eq_true rfl) (qm_in) ?_
                  rintro r5 h5 ⟨rfl, v_26, rfl, hv_26⟩
                  show am_E _ (191, [vR y, vI b, vI p, vL f, vU, vI k2_32, vU], [vI v_26], aq_h m s F c_21) _
                  refine ae_retb rfl (by omega) ?_
                  refine ⟨_, rfl, sc_21, _, rfl, by omega, mo_qu mo_q0 hdc_21 (Or.inl (by omega)), fun h9 => ?_⟩
                  have g17 : c_21 y 17 = c y 17 := by rw [← hdc_21, aq_un (Or.inl (by omega))]
                  refine ⟨by omega, by omega, fun j h5 h6 => ?_⟩
                  have n15 : c_21 (y + 15) j = c (y + 15) j := by rw [← hdc_21, aq_un (Or.inl (by omega))]
                  have kj := hR.2.2 j h5 (by omega)
                  unfold mo_v at kj
                  by_cases e : j = k2_32
                  · subst e
                    have n17 : c_21 (y + 17) j = c (y + 17) j + f := by rw [← hdc_21, aq_us]
                    exact ⟨by omega, by omega, by omega, by omega, by omega⟩
                  · exact mo_vc n15 (by rw [← hdc_21, aq_un (Or.inr e)]) (hR.2.2 j h5 (by omega))
                · refine am_E.go (t2 := (135, [vR y, vI b, vI p, vL f, vU, vI k2_32, vU], [vR y], aq_h m s F c_21)) rfl rfl ?_
                  refine am_E.go (t2 := (136, [vR y, vI b, vI p, vL f, vU, vI k2_32, vU], [vR y, vR y], aq_h m s F c_21)) rfl rfl ?_
                  refine aq_gf (v := vI (c_21 y 17)) rfl (by omega) hFo (by decide) rfl ?_
                  show am_E _ (139, [vR y, vI b, vI p, vL f, vU, vI k2_32, vU], [vI (c_21 y 17), vR y], aq_h m s F c_21) _
                  have f_27 : c_21 y 17 = c y 17 := by rw [← hdc_21, aq_un (Or.inl (by omega))]
                  refine am_E.go (t2 := (140, [vR y, vI b, vI p, vL f, vU, vI k2_32, vU], [vI 1, vI (c_21 y 17), vR y], aq_h m s F c_21)) rfl rfl ?_
                  refine ae_sub rfl (am_ri (by omega) (by omega)) ?_
                  show am_E _ (141, [vR y, vI b, vI p, vL f, vU, vI k2_32, vU], [vI ((c_21 y 17) - 1), vR y], aq_h m s F c_21) _
                  refine aq_pf rfl (by omega) hFo (by decide) rfl rfl ?_
                  show am_E _ (144, [vR y, vI b, vI p, vL f, vU, vI k2_32, vU], [], aq_h m s F (aq_u c_21 y 17 ((c_21 y 17) - 1))) _
                  generalize hdc_28 : aq_u c_21 y 17 ((c_21 y 17) - 1) = c_28
                  have sc_28 := aq_smu sc_21 hdc_28 (Or.inl rfl)
                  refine am_E.go (t2 := (146, [vR y, vI b, vI p, vL f, vU, vI k2_32, vU], [vI k2_32], aq_h m s F c_28)) rfl rfl ?_
                  refine am_E.go (t2 := (148, [vR y, vI b, vI p, vL f, vU, vI k2_32, vI k2_32], [], aq_h m s F c_28)) rfl rfl ?_
                  have g1 : c_21 y 17 = c y 17 := by rw [← hdc_21, aq_un (Or.inl (by omega))]
                  have hz_e : c_28 y 17 = c y 17 - 1 := by rw [← hdc_28, aq_us, g1]
                  have hq_e : mo_q y c c_28 := mo_qu (mo_qu mo_q0 hdc_21 (Or.inl (by omega))) hdc_28 (Or.inr (by decide))
                  have hv_e : ∀ j, 0 ≤ j → j ≤ c y 17 - 1 → j ≠ k2_32 → mo_v y K c_28 j := fun j h5 h6 h7 => mo_vc (by rw [← hdc_28, aq_un (Or.inl (by omega)), ← hdc_21, aq_un (Or.inl (by omega))]) (by rw [← hdc_28, aq_un (Or.inl (by omega)), ← hdc_21, aq_un (Or.inr h7)]) (hR.2.2 j h5 (by omega))
                  exact qm_comes_2 ⟨hm, hFo, hG5, hG6, hG7, hG8, hG9, hG10, hG11, hG12, hG13, hG14, hG15, hG16, hG17, hG18, hG19, hG20, hG21, hG22, hG23⟩ (sz := c y 17 - 1) (by omega) 41 k2_32 c_28 sc_28 hz_e hq_e (by omega) (by omega) hv_e (by omega)
      · refine am_E.go (t2 := (28, [vR y, vI b, vI p, vL f, vU, vU, vU], [vI 0], aq_h m s F c)) rfl rfl ?_
        refine am_E.ret rfl rfl ?_
        exact ⟨_, rfl, (aq_sm0 (c := c) (S := (fun a => a = y ∨ a = y + 15 ∨ a = y + 16 ∨ a = y + 17))), 0, rfl, Or.inl rfl, mo_q0, fun h => absurd h (by decide)⟩
  · refine am_E.go (t2 := (7, [vR y, vI b, vI p, vL f, vU, vU, vU], [vI 1], aq_h m s F c)) rfl rfl ?_
    refine am_E.ret rfl rfl ?_
    exact ⟨_, rfl, (aq_sm0 (c := c) (S := (fun a => a = y ∨ a = y + 15 ∨ a = y + 16 ∨ a = y + 17))), 1, rfl, Or.inr rfl, mo_q0, fun _ => hR⟩
theorem mo_Iq {S : Nat → Prop} {y : Nat} {c d : aq_C} (hI : mo_I y c) (hs : aq_sm S c d) (hk : mo_q y c d) (h5 : ¬ S (y + 5)) (h6 : ¬ S (y + 6)) (h7 : ¬ S (y + 7)) (h9 : ¬ S (y + 9)) (h10 : ¬ S (y + 10)) : mo_I y d :=
  ⟨mo_rc hk.1 hk.2 (hs _ h10) hI.1, fun s s0 s1 => mo_uc (hs _ h5 s) (hs _ h6 s) (fun k _ _ => hs _ h7 _) (fun k _ _ => hs _ h9 _) (hI.2 s s0 s1)⟩
theorem mo_Iw {y : Nat} {c d : aq_C} (hI : mo_I y c) (hs : aq_sm (mo_S y) c d) (hk : mo_q y c d) : mo_I y d := by
  refine mo_Iq hI hs hk ?_ ?_ ?_ ?_ ?_ <;> (unfold mo_S; omega)
theorem mo_S3 {y a : Nat} (h : a = y ∨ a = y + 15 ∨ a = y + 16 ∨ a = y + 17) : mo_S y a := by
  unfold mo_S
  omega
/-- what store leaves -/
theorem mo_Ist {y : Nat} {s n : Int} {c d : aq_C} (hI : mo_I y c) (hR : mo_R y (bx_K n) c) (hn1 : 1 ≤ n) (hn4 : n ≤ 4) (hs : aq_sm (fun a => y + 5 ≤ a ∧ a ≤ y + 9) c d) (h5 : ∀ i, d (y + 5) i = if i = s then n else c (y + 5) i) (h6 : ∀ i, d (y + 6) i = if i = s then c y 17 else c (y + 6) i) (h7 : ∀ i, (∀ j, 0 ≤ j → j < 40 → i ≠ 40 * s + j) → d (y + 7) i = c (y + 7) i) (h9 : ∀ i, (∀ j, 0 ≤ j → j < 40 → i ≠ 40 * s + j) → d (y + 9) i = c (y + 9) i) (h7k : ∀ j, 0 ≤ j → j < c y 17 → d (y + 7) (40 * s + j) = c (y + 15) j) (h9k : ∀ j, 0 ≤ j → j < c y 17 → d (y + 9) (40 * s + j) = c (y + 17) j) : mo_I y d := by
  have hr1 := hR.1
  have hr2 := hR.2.1
  refine ⟨mo_rc (hs _ (by omega) _) (hs _ (by omega) _) (fun i => hs _ (by omega) i) hI.1, fun t t0 t1 => ?_⟩
  by_cases e : t = s
  · subst e
    have e5 := h5 t
    have e6 := h6 t
    rw [if_pos rfl] at e5 e6
    refine ⟨by omega, by omega, by omega, by omega, fun k k0 k1 => ?_⟩
    rw [h7k k k0 (by omega), h9k k k0 (by omega), e5]
    exact hR.2.2 k k0 (by omega)
  · refine mo_uc (by rw [h5, if_neg e]) (by rw [h6, if_neg e]) (fun k k0 k1 => h7 _ (fun j j0 j1 => by omega)) (fun k k0 k1 => h9 _ (fun j j0 j1 => by omega)) (hI.2 t t0 t1)

theorem qm_load_l {m s : Nat} {F : aq_F} {c0 : aq_C} {y : Nat} (hO : mo_0 m F y) {t : Int} (ht0 : 0 ≤ t) (ht1 : t < 8) (hu : mo_u y t c0) : ∀ (d : Nat) (k : Int) (c : aq_C) (hs : aq_sm (fun a => a = y ∨ a = y + 15 ∨ a = y + 16 ∨ a = y + 17) c0 c) (hz : c y 17 = c0 (y + 6) t) (hq : mo_q y c0 c) (h0 : 0 ≤ k) (h1 : k ≤ c0 (y + 6) t) (hv : ∀ j, 0 ≤ j → j < k → mo_v y (bx_K (c0 (y + 5) t)) c j) (hd : c0 (y + 6) t - k < (d : Int)), am_E ac_X5_load (12, [vR y, vI t, vI k], [], aq_h m s F c) (aq_Z m s F (fun a => a = y ∨ a = y + 15 ∨ a = y + 16 ∨ a = y + 17) c0 (fun r d => r = none ∧ mo_q y c0 d ∧ mo_R y (bx_K (c0 (y + 5) t)) d))
  | 0, k, c, hs, hz, hq, h0, h1, hv, hd => by exfalso; omega
  | d + 1, k, c, hs, hz, hq, h0, h1, hv, hd => by
    obtain ⟨hm, hFo, hG5, hG6, hG7, hG8, hG9, hG10, hG11, hG12, hG13, hG14, hG15, hG16, hG17, hG18, hG19, hG20, hG21, hG22, hG23⟩ := hO
    have hu3 := hu.2.2.1
    have hu4 := hu.2.2.2.1
    refine am_E.go (t2 := (13, [vR y, vI t, vI k], [vI k], aq_h m s F c)) rfl rfl ?_
    refine am_E.go (t2 := (14, [vR y, vI t, vI k], [vR y, vI k], aq_h m s F c)) rfl rfl ?_
    refine aq_gf (v := vI (c y 17)) rfl (by omega) hFo (by decide) rfl ?_
    show am_E _ (17, [vR y, vI t, vI k], [vI (c y 17), vI k], aq_h m s F c) _
    have f_1 := hz
    refine ae_icmp rfl (fun (q_2 : (c y 17) ≤ k) => ?_) (fun (q_2 : k < (c y 17)) => ?_)
    · refine am_E.ret rfl rfl ?_
      exact ⟨_, rfl, hs, rfl, hq, by omega, by omega, fun j h5 h6 => hv j h5 (by omega)⟩
    · refine am_E.go (t2 := (21, [vR y, vI t, vI k], [vR y], aq_h m s F c)) rfl rfl ?_
      refine aq_gf (v := vR (y + 15)) rfl (by omega) hFo (by decide) rfl ?_
      show am_E _ (24, [vR y, vI t, vI k], [vR (y + 15)], aq_h m s F c) _
      refine am_E.go (t2 := (25, [vR y, vI t, vI k], [vI k, vR (y + 15)], aq_h m s F c)) rfl rfl ?_
      refine am_E.go (t2 := (26, [vR y, vI t, vI k], [vR y, vI k, vR (y + 15)], aq_h m s F c)) rfl rfl ?_
      refine aq_gf (v := vR (y + 7)) rfl (by omega) hFo (by decide) rfl ?_
      show am_E _ (29, [vR y, vI t, vI k], [vR (y + 7), vI k, vR (y + 15)], aq_h m s F c) _
      refine am_E.go (t2 := (31, [vR y, vI t, vI k], [vI 40, vR (y + 7), vI k, vR (y + 15)], aq_h m s F c)) rfl rfl ?_
      refine am_E.go (t2 := (32, [vR y, vI t, vI k], [vI t, vI 40, vR (y + 7), vI k, vR (y + 15)], aq_h m s F c)) rfl rfl ?_
      refine ae_mul rfl (am_ri (by omega) (by omega)) ?_
      show am_E _ (33, [vR y, vI t, vI k], [vI (40 * t), vR (y + 7), vI k, vR (y + 15)], aq_h m s F c) _
      refine am_E.go (t2 := (34, [vR y, vI t, vI k], [vI k, vI (40 * t), vR (y + 7), vI k, vR (y + 15)], aq_h m s F c)) rfl rfl ?_
      refine ae_add rfl (am_ri (by omega) (by omega)) ?_
      show am_E _ (35, [vR y, vI t, vI k], [vI ((40 * t) + k), vR (y + 7), vI k, vR (y + 15)], aq_h m s F c) _
      refine aq_al (ok := fun k => k == 0) (v := vI (c (y + 7) ((40 * t) + k))) rfl rfl (by omega) hG7 rfl (by omega) (by omega) rfl ?_
      show am_E _ (36, [vR y, vI t, vI k], [vI (c (y + 7) ((40 * t) + k)), vI k, vR (y + 15)], aq_h m s F c) _
      refine aq_as (kd := 0) rfl rfl (by omega) hG15 (by omega) (by omega) rfl rfl ?_
      show am_E _ (37, [vR y, vI t, vI k], [], aq_h m s F (aq_u c (y + 15) k (c (y + 7) ((40 * t) + k)))) _
      generalize hdc_3 : aq_u c (y + 15) k (c (y + 7) ((40 * t) + k)) = c_3
      have sc_3 := aq_smu hs hdc_3 (Or.inr (Or.inl rfl))
      refine am_E.go (t2 := (38, [vR y, vI t, vI k], [vR y], aq_h m s F c_3)) rfl rfl ?_
      refine aq_gf (v := vR (y + 16)) rfl (by omega) hFo (by decide) rfl ?_
      show am_E _ (41, [vR y, vI t, vI k], [vR (y + 16)], aq_h m s F c_3) _
      refine am_E.go (t2 := (42, [vR y, vI t, vI k], [vI k, vR (y + 16)], aq_h m s F c_3)) rfl rfl ?_
      refine am_E.go (t2 := (43, [vR y, vI t, vI k], [vR y, vI k, vR (y + 16)], aq_h m s F c_3)) rfl rfl ?_
      refine aq_gf (v := vR (y + 8)) rfl (by omega) hFo (by decide) rfl ?_
      show am_E _ (46, [vR y, vI t, vI k], [vR (y + 8), vI k, vR (y + 16)], aq_h m s F c_3) _
      refine am_E.go (t2 := (48, [vR y, vI t, vI k], [vI 40, vR (y + 8), vI k, vR (y + 16)], aq_h m s F c_3)) rfl rfl ?_
      refine am_E.go (t2 := (49, [vR y, vI t, vI k], [vI t, vI 40, vR (y + 8), vI k, vR (y + 16)], aq_h m s F c_3)) rfl rfl ?_
      refine ae_mul rfl (am_ri (by omega) (by omega)) ?_
      show am_E _ (50, [vR y, vI t, vI k], [vI (40 * t), vR (y + 8), vI k, vR (y + 16)], aq_h m s F c_3) _
      refine am_E.go (t2 := (51, [vR y, vI t, vI k], [vI k, vI (40 * t), vR (y + 8), vI k, vR (y + 16)], aq_h m s F c_3)) rfl rfl ?_
      refine ae_add rfl (am_ri (by omega) (by omega)) ?_
      show am_E _ (52, [vR y, vI t, vI k], [vI ((40 * t) + k), vR (y + 8), vI k, vR (y + 16)], aq_h m s F c_3) _
      refine aq_al (ok := fun k => k == 0) (v := vI (c_3 (y + 8) ((40 * t) + k))) rfl rfl (by omega) hG8 rfl (by omega) (by omega) rfl ?_
      show am_E _ (53, [vR y, vI t, vI k], [vI (c_3 (y + 8) ((40 * t) + k)), vI k, vR (y + 16)], aq_h m s F c_3) _
      refine aq_as (kd := 0) rfl rfl (by omega) hG16 (by omega) (by omega) rfl rfl ?_
      show am_E _ (54, [vR y, vI t, vI k], [], aq_h m s F (aq_u c_3 (y + 16) k (c_3 (y + 8) ((40 * t) + k)))) _
      generalize hdc_4 : aq_u c_3 (y + 16) k (c_3 (y + 8) ((40 * t) + k)) = c_4
      have sc_4 := aq_smu sc_3 hdc_4 (Or.inr (Or.inr (Or.inl rfl)))
      refine am_E.go (t2 := (55, [vR y, vI t, vI k], [vR y], aq_h m s F c_4)) rfl rfl ?_
      refine aq_gf (v := vR (y + 17)) rfl (by omega) hFo (by decide) rfl ?_
      show am_E _ (58, [vR y, vI t, vI k], [vR (y + 17)], aq_h m s F c_4) _
      refine am_E.go (t2 := (59, [vR y, vI t, vI k], [vI k, vR (y + 17)], aq_h m s F c_4)) rfl rfl ?_
      refine am_E.go (t2 := (60, [vR y, vI t, vI k], [vR y, vI k, vR (y + 17)], aq_h m s F c_4)) rfl rfl ?_
      refine aq_gf (v := vR (y + 9)) rfl (by omega) hFo (by decide) rfl ?_
      show am_E _ (63, [vR y, vI t, vI k], [vR (y + 9), vI k, vR (y + 17)], aq_h m s F c_4) _
      refine am_E.go (t2 := (65, [vR y, vI t, vI k], [vI 40, vR (y + 9), vI k, vR (y + 17)], aq_h m s F c_4)) rfl rfl ?_
      refine am_E.go (t2 := (66, [vR y, vI t, vI k], [vI t, vI 40, vR (y + 9), vI k, vR (y + 17)], aq_h m s F c_4)) rfl rfl ?_
      refine ae_mul rfl (am_ri (by omega) (by omega)) ?_
      show am_E _ (67, [vR y, vI t, vI k], [vI (40 * t), vR (y + 9), vI k, vR (y + 17)], aq_h m s F c_4) _
      refine am_E.go (t2 := (68, [vR y, vI t, vI k], [vI k, vI (40 * t), vR (y + 9), vI k, vR (y + 17)], aq_h m s F c_4)) rfl rfl ?_
      refine ae_add rfl (am_ri (by omega) (by omega)) ?_
      show am_E _ (69, [vR y, vI t, vI k], [vI ((40 * t) + k), vR (y + 9), vI k, vR (y + 17)], aq_h m s F c_4) _
      refine aq_al (ok := fun k => k == 2) (v := vL (c_4 (y + 9) ((40 * t) + k))) rfl rfl (by omega) hG9 rfl (by omega) (by omega) rfl ?_
      show am_E _ (70, [vR y, vI t, vI k], [vL (c_4 (y + 9) ((40 * t) + k)), vI k, vR (y + 17)], aq_h m s F c_4) _
      refine aq_asl rfl rfl (by omega) hG17 (by omega) (by omega) rfl ?_
      show am_E _ (71, [vR y, vI t, vI k], [], aq_h m s F (aq_u c_4 (y + 17) k (c_4 (y + 9) ((40 * t) + k)))) _
      generalize hdc_5 : aq_u c_4 (y + 17) k (c_4 (y + 9) ((40 * t) + k)) = c_5
      have sc_5 := aq_smu sc_4 hdc_5 (Or.inr (Or.inr (Or.inr rfl)))
      refine ae_iinc rfl rfl (am_ri (by omega) (by omega)) ?_
      show am_E _ (74, [vR y, vI t, vI (k + 1)], [], aq_h m s F c_5) _
      refine am_E.go (t2 := (12, [vR y, vI t, vI (k + 1)], [], aq_h m s F c_5)) rfl rfl ?_
      exact qm_load_l ⟨hm, hFo, hG5, hG6, hG7, hG8, hG9, hG10, hG11, hG12, hG13, hG14, hG15, hG16, hG17, hG18, hG19, hG20, hG21, hG22, hG23⟩ ht0 ht1 hu d (k + 1) c_5 sc_5 (by rw [← hdc_5, aq_un (Or.inl (by omega)), ← hdc_4, aq_un (Or.inl (by omega)), ← hdc_3, aq_un (Or.inl (by omega))]; exact hz) (mo_qu (mo_qu (mo_qu hq hdc_3 (Or.inl (by omega))) hdc_4 (Or.inl (by omega))) hdc_5 (Or.inl (by omega))) (by omega) (by omega) (fun j h5 h6 => by
      by_cases e : j = k
      · subst e
        have u9 := hu.2.2.2.2 j h5 (by omega)
        refine ⟨?_, ?_, ?_, ?_, ?_⟩
        all_goals first | rw [← hdc_5, aq_un (Or.inl (by omega)), ← hdc_4, aq_un (Or.inl (by omega)), ← hdc_3, aq_us, hs _ (by omega)] | rw [← hdc_5, aq_us, ← hdc_4, aq_un (Or.inl (by omega)), ← hdc_3, aq_un (Or.inl (by omega)), hs _ (by omega)]
        all_goals omega
      · exact mo_vc (by rw [← hdc_5, aq_un (Or.inl (by omega)), ← hdc_4, aq_un (Or.inl (by omega)), ← hdc_3, aq_un (Or.inr e)]) (by rw [← hdc_5, aq_un (Or.inr e), ← hdc_4, aq_un (Or.inl (by omega)), ← hdc_3, aq_un (Or.inl (by omega))]) (hv j h5 (by omega))) (by omega)

theorem qm_load {m s : Nat} {F : aq_F} {c : aq_C} {y : Nat} (hO : mo_0 m F y) {t : Int} (ht0 : 0 ≤ t) (ht1 : t < 8) (hu : mo_u y t c) : am_E ac_X5_load (0, [vR y, vI t, vU], [], aq_h m s F c) (aq_Z m s F (fun a => a = y ∨ a = y + 15 ∨ a = y + 16 ∨ a = y + 17) c (fun r d => r = none ∧ mo_q y c d ∧ mo_R y (bx_K (c (y + 5) t)) d)) := by
  obtain ⟨hm, hFo, hG5, hG6, hG7, hG8, hG9, hG10, hG11, hG12, hG13, hG14, hG15, hG16, hG17, hG18, hG19, hG20, hG21, hG22, hG23⟩ := hO
  have hu3 := hu.2.2.1
  have hu4 := hu.2.2.2.1
  refine am_E.go (t2 := (1, [vR y, vI t, vU], [vR y], aq_h m s F c)) rfl rfl ?_
  refine am_E.go (t2 := (2, [vR y, vI t, vU], [vR y, vR y], aq_h m s F c)) rfl rfl ?_
  refine aq_gf (v := vR (y + 6)) rfl (by omega) hFo (by decide) rfl ?_
  show am_E _ (5, [vR y, vI t, vU], [vR (y + 6), vR y], aq_h m s F c) _
  refine am_E.go (t2 := (6, [vR y, vI t, vU], [vI t, vR (y + 6), vR y], aq_h m s F c)) rfl rfl ?_
  refine aq_al (ok := fun k => k == 0) (v := vI (c (y + 6) t)) rfl rfl (by omega) hG6 rfl (by omega) (by omega) rfl ?_
  show am_E _ (7, [vR y, vI t, vU], [vI (c (y + 6) t), vR y], aq_h m s F c) _
  refine aq_pf rfl (by omega) hFo (by decide) rfl rfl ?_
  show am_E _ (10, [vR y, vI t, vU], [], aq_h m s F (aq_u c y 17 (c (y + 6) t))) _
  generalize hdc_1 : aq_u c y 17 (c (y + 6) t) = c_1
  have sc_1 := aq_smu (aq_sm0 (c := c) (S := (fun a => a = y ∨ a = y + 15 ∨ a = y + 16 ∨ a = y + 17))) hdc_1 (Or.inl rfl)
  refine am_E.go (t2 := (11, [vR y, vI t, vU], [vI 0], aq_h m s F c_1)) rfl rfl ?_
  refine am_E.go (t2 := (12, [vR y, vI t, vI 0], [], aq_h m s F c_1)) rfl rfl ?_
  exact qm_load_l ⟨hm, hFo, hG5, hG6, hG7, hG8, hG9, hG10, hG11, hG12, hG13, hG14, hG15, hG16, hG17, hG18, hG19, hG20, hG21, hG22, hG23⟩ ht0 ht1 hu 41 0 c_1 sc_1 (by rw [← hdc_1, aq_us]) (mo_qu mo_q0 hdc_1 (Or.inr (by decide))) (by omega) (by omega) (fun j h5 h6 => absurd h6 (by omega)) (by omega)

theorem qm_store_l {m s : Nat} {F : aq_F} {c0 : aq_C} {y : Nat} (hO : mo_0 m F y) {t n : Int} (ht0 : 0 ≤ t) (ht1 : t < 8) (hn1 : 1 ≤ n) (hn4 : n ≤ 4) (hI : mo_I y c0) (hR : mo_R y (bx_K n) c0) : ∀ (d : Nat) (k : Int) (c : aq_C) (hs : aq_sm (fun a => y + 5 ≤ a ∧ a ≤ y + 9) c0 c) (h0 : 0 ≤ k) (h1 : k ≤ c0 y 17) (h5 : ∀ i, c (y + 5) i = if i = t then n else c0 (y + 5) i) (h6 : ∀ i, c (y + 6) i = if i = t then c0 y 17 else c0 (y + 6) i) (h7 : ∀ i, (∀ j, 0 ≤ j → j < 40 → i ≠ 40 * t + j) → c (y + 7) i = c0 (y + 7) i) (h9 : ∀ i, (∀ j, 0 ≤ j → j < 40 → i ≠ 40 * t + j) → c (y + 9) i = c0 (y + 9) i) (h7k : ∀ j, 0 ≤ j → j < k → c (y + 7) (40 * t + j) = c0 (y + 15) j) (h9k : ∀ j, 0 ≤ j → j < k → c (y + 9) (40 * t + j) = c0 (y + 17) j) (hd : c0 y 17 - k < (d : Int)), am_E ac_X5_store (19, [vR y, vI t, vI n, vI k], [], aq_h m s F c) (aq_Z m s F (fun a => y + 5 ≤ a ∧ a ≤ y + 9) c0 (fun r d => r = some (vI (c0 y 17)) ∧ mo_I y d))
  | 0, k, c, hs, h0, h1, h5, h6, h7, h9, h7k, h9k, hd => by exfalso; omega
  | d + 1, k, c, hs, h0, h1, h5, h6, h7, h9, h7k, h9k, hd => by
    obtain ⟨hm, hFo, hG5, hG6, hG7, hG8, hG9, hG10, hG11, hG12, hG13, hG14, hG15, hG16, hG17, hG18, hG19, hG20, hG21, hG22, hG23⟩ := hO
    have hR1 := hR.1
    have hR2 := hR.2.1
    refine am_E.go (t2 := (20, [vR y, vI t, vI n, vI k], [vI k], aq_h m s F c)) rfl rfl ?_
    refine am_E.go (t2 := (21, [vR y, vI t, vI n, vI k], [vR y, vI k], aq_h m s F c)) rfl rfl ?_
    refine aq_gf (v := vI (c y 17)) rfl (by omega) hFo (by decide) rfl ?_
    show am_E _ (24, [vR y, vI t, vI n, vI k], [vI (c y 17), vI k], aq_h m s F c) _
    have f_1 := hs y (by omega) 17
    refine ae_icmp rfl (fun (q_2 : (c y 17) ≤ k) => ?_) (fun (q_2 : k < (c y 17)) => ?_)
    · refine am_E.go (t2 := (85, [vR y, vI t, vI n, vI k], [vR y], aq_h m s F c)) rfl rfl ?_
      refine aq_gf (v := vI (c y 17)) rfl (by omega) hFo (by decide) rfl ?_
      show am_E _ (88, [vR y, vI t, vI n, vI k], [vI (c y 17)], aq_h m s F c) _
      have f_3 := hs y (by omega) 17
      refine am_E.ret rfl rfl ?_
      refine ⟨_, rfl, hs, by rw [hs y (by omega) 17], mo_Ist hI hR hn1 hn4 hs h5 h6 h7 h9 (fun j h8 h10 => h7k j h8 (by omega)) (fun j h8 h10 => h9k j h8 (by omega))⟩
    · refine am_E.go (t2 := (28, [vR y, vI t, vI n, vI k], [vR y], aq_h m s F c)) rfl rfl ?_
      refine aq_gf (v := vR (y + 7)) rfl (by omega) hFo (by decide) rfl ?_
      show am_E _ (31, [vR y, vI t, vI n, vI k], [vR (y + 7)], aq_h m s F c) _
      refine am_E.go (t2 := (33, [vR y, vI t, vI n, vI k], [vI 40, vR (y + 7)], aq_h m s F c)) rfl rfl ?_
      refine am_E.go (t2 := (34, [vR y, vI t, vI n, vI k], [vI t, vI 40, vR (y + 7)], aq_h m s F c)) rfl rfl ?_
      refine ae_mul rfl (am_ri (by omega) (by omega)) ?_
      show am_E _ (35, [vR y, vI t, vI n, vI k], [vI (40 * t), vR (y + 7)], aq_h m s F c) _
      refine am_E.go (t2 := (36, [vR y, vI t, vI n, vI k], [vI k, vI (40 * t), vR (y + 7)], aq_h m s F c)) rfl rfl ?_
      refine ae_add rfl (am_ri (by omega) (by omega)) ?_
      show am_E _ (37, [vR y, vI t, vI n, vI k], [vI ((40 * t) + k), vR (y + 7)], aq_h m s F c) _
      refine am_E.go (t2 := (38, [vR y, vI t, vI n, vI k], [vR y, vI ((40 * t) + k), vR (y + 7)], aq_h m s F c)) rfl rfl ?_
      refine aq_gf (v := vR (y + 15)) rfl (by omega) hFo (by decide) rfl ?_
      show am_E _ (41, [vR y, vI t, vI n, vI k], [vR (y + 15), vI ((40 * t) + k), vR (y + 7)], aq_h m s F c) _
      refine am_E.go (t2 := (42, [vR y, vI t, vI n, vI k], [vI k, vR (y + 15), vI ((40 * t) + k), vR (y + 7)], aq_h m s F c)) rfl rfl ?_
      refine aq_al (ok := fun k => k == 0) (v := vI (c (y + 15) k)) rfl rfl (by omega) hG15 rfl (by omega) (by omega) rfl ?_
      show am_E _ (43, [vR y, vI t, vI n, vI k], [vI (c (y + 15) k), vI ((40 * t) + k), vR (y + 7)], aq_h m s F c) _
      refine aq_as (kd := 0) rfl rfl (by omega) hG7 (by omega) (by omega) rfl rfl ?_
      show am_E _ (44, [vR y, vI t, vI n, vI k], [], aq_h m s F (aq_u c (y + 7) ((40 * t) + k) (c (y + 15) k))) _
      generalize hdc_4 : aq_u c (y + 7) ((40 * t) + k) (c (y + 15) k) = c_4
      have sc_4 := aq_smu hs hdc_4 (by omega)
      refine am_E.go (t2 := (45, [vR y, vI t, vI n, vI k], [vR y], aq_h m s F c_4)) rfl rfl ?_
      refine aq_gf (v := vR (y + 8)) rfl (by omega) hFo (by decide) rfl ?_
      show am_E _ (48, [vR y, vI t, vI n, vI k], [vR (y + 8)], aq_h m s F c_4) _
      refine am_E.go (t2 := (50, [vR y, vI t, vI n, vI k], [vI 40, vR (y + 8)], aq_h m s F c_4)) rfl rfl ?_
      refine am_E.go (t2 := (51, [vR y, vI t, vI n, vI k], [vI t, vI 40, vR (y + 8)], aq_h m s F c_4)) rfl rfl ?_
      refine ae_mul rfl (am_ri (by omega) (by omega)) ?_
      show am_E _ (52, [vR y, vI t, vI n, vI k], [vI (40 * t), vR (y + 8)], aq_h m s F c_4) _
      refine am_E.go (t2 := (53, [vR y, vI t, vI n, vI k], [vI k, vI (40 * t), vR (y + 8)], aq_h m s F c_4)) rfl rfl ?_
      refine ae_add rfl (am_ri (by omega) (by omega)) ?_
      show am_E _ (54, [vR y, vI t, vI n, vI k], [vI ((40 * t) + k), vR (y + 8)], aq_h m s F c_4) _
      refine am_E.go (t2 := (55, [vR y, vI t, vI n, vI k], [vR y, vI ((40 * t) + k), vR (y + 8)], aq_h m s F c_4)) rfl rfl ?_
      refine aq_gf (v := vR (y + 16)) rfl (by omega) hFo (by decide) rfl ?_
      show am_E _ (58, [vR y, vI t, vI n, vI k], [vR (y + 16), vI ((40 * t) + k), vR (y + 8)], aq_h m s F c_4) _
      refine am_E.go (t2 := (59, [vR y, vI t, vI n, vI k], [vI k, vR (y + 16), vI ((40 * t) + k), vR (y + 8)], aq_h m s F c_4)) rfl rfl ?_
      refine aq_al (ok := fun k => k == 0) (v := vI (c_4 (y + 16) k)) rfl rfl (by omega) hG16 rfl (by omega) (by omega) rfl ?_
      show am_E _ (60, [vR y, vI t, vI n, vI k], [vI (c_4 (y + 16) k), vI ((40 * t) + k), vR (y + 8)], aq_h m s F c_4) _
      refine aq_as (kd := 0) rfl rfl (by omega) hG8 (by omega) (by omega) rfl rfl ?_
      show am_E _ (61, [vR y, vI t, vI n, vI k], [], aq_h m s F (aq_u c_4 (y + 8) ((40 * t) + k) (c_4 (y + 16) k))) _
      generalize hdc_5 : aq_u c_4 (y + 8) ((40 * t) + k) (c_4 (y + 16) k) = c_5
      have sc_5 := aq_smu sc_4 hdc_5 (by omega)
      refine am_E.go (t2 := (62, [vR y, vI t, vI n, vI k], [vR y], aq_h m s F c_5)) rfl rfl ?_
      refine aq_gf (v := vR (y + 9)) rfl (by omega) hFo (by decide) rfl ?_
      show am_E _ (65, [vR y, vI t, vI n, vI k], [vR (y + 9)], aq_h m s F c_5) _
      refine am_E.go (t2 := (67, [vR y, vI t, vI n, vI k], [vI 40, vR (y + 9)], aq_h m s F c_5)) rfl rfl ?_
      refine am_E.go (t2 := (68, [vR y, vI t, vI n, vI k], [vI t, vI 40, vR (y + 9)], aq_h m s F c_5)) rfl rfl ?_
      refine ae_mul rfl (am_ri (by omega) (by omega)) ?_
      show am_E _ (69, [vR y, vI t, vI n, vI k], [vI (40 * t), vR (y + 9)], aq_h m s F c_5) _
      refine am_E.go (t2 := (70, [vR y, vI t, vI n, vI k], [vI k, vI (40 * t), vR (y + 9)], aq_h m s F c_5)) rfl rfl ?_
      refine ae_add rfl (am_ri (by omega) (by omega)) ?_
      show am_E _ (71, [vR y, vI t, vI n, vI k], [vI ((40 * t) + k), vR (y + 9)], aq_h m s F c_5) _
      refine am_E.go (t2 := (72, [vR y, vI t, vI n, vI k], [vR y, vI ((40 * t) + k), vR (y + 9)], aq_h m s F c_5)) rfl rfl ?_
      refine aq_gf (v := vR (y + 17)) rfl (by omega) hFo (by decide) rfl ?_
      show am_E _ (75, [vR y, vI t, vI n, vI k], [vR (y + 17), vI ((40 * t) + k), vR (y + 9)], aq_h m s F c_5) _
      refine am_E.go (t2 := (76, [vR y, vI t, vI n, vI k], [vI k, vR (y + 17), vI ((40 * t) + k), vR (y + 9)], aq_h m s F c_5)) rfl rfl ?_
      refine aq_al (ok := fun k => k == 2) (v := vL (c_5 (y + 17) k)) rfl rfl (by omega) hG17 rfl (by omega) (by omega) rfl ?_
      show am_E _ (77, [vR y, vI t, vI n, vI k], [vL (c_5 (y + 17) k), vI ((40 * t) + k), vR (y + 9)], aq_h m s F c_5) _
      refine aq_asl rfl rfl (by omega) hG9 (by omega) (by omega) rfl ?_
      show am_E _ (78, [vR y, vI t, vI n, vI k], [], aq_h m s F (aq_u c_5 (y + 9) ((40 * t) + k) (c_5 (y + 17) k))) _
      generalize hdc_6 : aq_u c_5 (y + 9) ((40 * t) + k) (c_5 (y + 17) k) = c_6
      have sc_6 := aq_smu sc_5 hdc_6 (by omega)
      refine ae_iinc rfl rfl (am_ri (by omega) (by omega)) ?_
      show am_E _ (81, [vR y, vI t, vI n, vI (k + 1)], [], aq_h m s F c_6) _
      refine am_E.go (t2 := (19, [vR y, vI t, vI n, vI (k + 1)], [], aq_h m s F c_6)) rfl rfl ?_
      exact qm_store_l ⟨hm, hFo, hG5, hG6, hG7, hG8, hG9, hG10, hG11, hG12, hG13, hG14, hG15, hG16, hG17, hG18, hG19, hG20, hG21, hG22, hG23⟩ ht0 ht1 hn1 hn4 hI hR d (k + 1) c_6 sc_6 (by omega) (by omega) (fun i => by rw [← hdc_6, aq_un (Or.inl (by omega)), ← hdc_5, aq_un (Or.inl (by omega)), ← hdc_4, aq_un (Or.inl (by omega))]; exact h5 i) (fun i => by rw [← hdc_6, aq_un (Or.inl (by omega)), ← hdc_5, aq_un (Or.inl (by omega)), ← hdc_4, aq_un (Or.inl (by omega))]; exact h6 i) (fun i hi => by rw [← hdc_6, aq_un (Or.inl (by omega)), ← hdc_5, aq_un (Or.inl (by omega)), ← hdc_4, aq_un (Or.inr (by have := hi k (by omega) (by omega); omega))]; exact h7 i hi) (fun i hi => by rw [← hdc_6, aq_un (Or.inr (by have := hi k (by omega) (by omega); omega)), ← hdc_5, aq_un (Or.inl (by omega)), ← hdc_4, aq_un (Or.inl (by omega))]; exact h9 i hi) (fun j h5 h6 => by by_cases e : j = k; (rw [e, ← hdc_6, aq_un (Or.inl (by omega)), ← hdc_5, aq_un (Or.inl (by omega)), ← hdc_4, aq_us, hs _ (by omega)]); rw [← hdc_6, aq_un (Or.inl (by omega)), ← hdc_5, aq_un (Or.inl (by omega)), ← hdc_4, aq_un (Or.inr (by omega))]; exact h7k j h5 (by omega)) (fun j h5 h6 => by by_cases e : j = k; (rw [e, ← hdc_6, aq_us, ← hdc_5, aq_un (Or.inl (by omega)), ← hdc_4, aq_un (Or.inl (by omega)), hs _ (by omega)]); rw [← hdc_6, aq_un (Or.inr (by omega)), ← hdc_5, aq_un (Or.inl (by omega)), ← hdc_4, aq_un (Or.inl (by omega))]; exact h9k j h5 (by omega)) (by omega)

theorem qm_store {m s : Nat} {F : aq_F} {c : aq_C} {y : Nat} (hO : mo_0 m F y) {t n : Int} (ht0 : 0 ≤ t) (ht1 : t < 8) (hn1 : 1 ≤ n) (hn4 : n ≤ 4) (hI : mo_I y c) (hR : mo_R y (bx_K n) c) : am_E ac_X5_store (0, [vR y, vI t, vI n, vU], [], aq_h m s F c) (aq_Z m s F (fun a => y + 5 ≤ a ∧ a ≤ y + 9) c (fun r d => r = some (vI (c y 17)) ∧ mo_I y d)) := by
  obtain ⟨hm, hFo, hG5, hG6, hG7, hG8, hG9, hG10, hG11, hG12, hG13, hG14, hG15, hG16, hG17, hG18, hG19, hG20, hG21, hG22, hG23⟩ := hO
  have hR1 := hR.1
  have hR2 := hR.2.1
  refine am_E.go (t2 := (1, [vR y, vI t, vI n, vU], [vR y], aq_h m s F c)) rfl rfl ?_
  refine aq_gf (v := vR (y + 5)) rfl (by omega) hFo (by decide) rfl ?_
  show am_E _ (4, [vR y, vI t, vI n, vU], [vR (y + 5)], aq_h m s F c) _
  refine am_E.go (t2 := (5, [vR y, vI t, vI n, vU], [vI t, vR (y + 5)], aq_h m s F c)) rfl rfl ?_
  refine am_E.go (t2 := (6, [vR y, vI t, vI n, vU], [vI n, vI t, vR (y + 5)], aq_h m s F c)) rfl rfl ?_
  refine aq_as (kd := 0) rfl rfl (by omega) hG5 (by omega) (by omega) rfl rfl ?_
  show am_E _ (7, [vR y, vI t, vI n, vU], [], aq_h m s F (aq_u c (y + 5) t n)) _
  generalize hdc_1 : aq_u c (y + 5) t n = c_1
  have sc_1 := aq_smu (aq_sm0 (c := c) (S := (fun a => y + 5 ≤ a ∧ a ≤ y + 9))) hdc_1 (by omega)
  refine am_E.go (t2 := (8, [vR y, vI t, vI n, vU], [vR y], aq_h m s F c_1)) rfl rfl ?_
  refine aq_gf (v := vR (y + 6)) rfl (by omega) hFo (by decide) rfl ?_
  show am_E _ (11, [vR y, vI t, vI n, vU], [vR (y + 6)], aq_h m s F c_1) _
  refine am_E.go (t2 := (12, [vR y, vI t, vI n, vU], [vI t, vR (y + 6)], aq_h m s F c_1)) rfl rfl ?_
  refine am_E.go (t2 := (13, [vR y, vI t, vI n, vU], [vR y, vI t, vR (y + 6)], aq_h m s F c_1)) rfl rfl ?_
  refine aq_gf (v := vI (c_1 y 17)) rfl (by omega) hFo (by decide) rfl ?_
  show am_E _ (16, [vR y, vI t, vI n, vU], [vI (c_1 y 17), vI t, vR (y + 6)], aq_h m s F c_1) _
  have f_2 := sc_1 y (by omega) 17
  refine aq_as (kd := 0) rfl rfl (by omega) hG6 (by omega) (by omega) rfl rfl ?_
  show am_E _ (17, [vR y, vI t, vI n, vU], [], aq_h m s F (aq_u c_1 (y + 6) t (c_1 y 17))) _
  generalize hdc_3 : aq_u c_1 (y + 6) t (c_1 y 17) = c_3
  have sc_3 := aq_smu sc_1 hdc_3 (by omega)
  refine am_E.go (t2 := (18, [vR y, vI t, vI n, vU], [vI 0], aq_h m s F c_3)) rfl rfl ?_
  refine am_E.go (t2 := (19, [vR y, vI t, vI n, vI 0], [], aq_h m s F c_3)) rfl rfl ?_
  exact qm_store_l ⟨hm, hFo, hG5, hG6, hG7, hG8, hG9, hG10, hG11, hG12, hG13, hG14, hG15, hG16, hG17, hG18, hG19, hG20, hG21, hG22, hG23⟩ ht0 ht1 hn1 hn4 hI hR 41 0 c_3 sc_3 (by omega) (by omega) (fun i => by rw [← hdc_3, aq_un (Or.inl (by omega)), ← hdc_1]; unfold aq_u; by_cases e : i = t; (rw [if_pos ⟨rfl, e⟩, if_pos e]); rw [if_neg (fun h => e h.2), if_neg e]) (fun i => by rw [← hdc_3]; unfold aq_u; by_cases e : i = t; (rw [if_pos ⟨rfl, e⟩, if_pos e, ← hdc_1, aq_un (Or.inl (by omega))]); rw [if_neg (fun h => e h.2), if_neg e, ← hdc_1, aq_un (Or.inl (by omega))]) (fun i _ => by rw [← hdc_3, aq_un (Or.inl (by omega)), ← hdc_1, aq_un (Or.inl (by omega))]) (fun i _ => by rw [← hdc_3, aq_un (Or.inl (by omega)), ← hdc_1, aq_un (Or.inl (by omega))]) (fun j _ h6 => absurd h6 (by omega)) (fun j _ h6 => absurd h6 (by omega)) (by omega)

theorem mo_n {y k : Nat} (h : 5 ≤ k) (h2 : k < 11) : ¬ mo_S y (y + k) := by
  unfold mo_S
  omega

theorem mo_Ix {y : Nat} {c d : aq_C} (hI : mo_I y c) (hs : aq_sm (fun a => a = y ∨ a = y + 10) c d) (hr : mo_r y d) : mo_I y d :=
  ⟨hr, fun s s0 s1 => mo_uc (hs _ (by omega) s) (hs _ (by omega) s) (fun k _ _ => hs _ (by omega) _) (fun k _ _ => hs _ (by omega) _) (hI.2 s s0 s1)⟩

theorem qm_X5_row {m s : Nat} {F : aq_F} {c : aq_C} {y : Nat} (hC : mo_C m F y) (hI : mo_I y c) {nn : Int} : am_E ac_X5_row (0, [vR y, vI nn], [], aq_h m s F c) (aq_Z m s F (fun a => y ≤ a ∧ a < y + 24) c (fun r d => mo_I y d ∧ ((2 ≤ nn ∧ nn ≤ 4 ∧ r = some (vI 0) ∧ d y 9 = nn ∧ d y 10 = 0) ∨ (¬ (2 ≤ nn ∧ nn ≤ 4) ∧ r = some (vI (-1)) ∧ d = c)))) := by
  obtain ⟨⟨hm, hFo, hG5, hG6, hG7, hG8, hG9, hG10, hG11, hG12, hG13, hG14, hG15, hG16, hG17, hG18, hG19, hG20, hG21, hG22, hG23⟩, ⟨tbl, hT1, hTt⟩, ⟨tA, tB, tD, hL1, hL2, hL3, hLt⟩⟩ := hC
  obtain ⟨⟨hr0, hr1, hr2, hr3, hr4⟩, hIu⟩ := id hI
  refine am_E.go (t2 := (1, [vR y, vI nn], [vI nn], aq_h m s F c)) rfl rfl ?_
  refine am_E.go (t2 := (2, [vR y, vI nn], [vL nn], aq_h m s F c)) rfl rfl ?_
  refine am_E.go (t2 := (5, [vR y, vI nn], [vL 2, vL nn], aq_h m s F c)) rfl rfl ?_
  refine am_E.go (t2 := (8, [vR y, vI nn], [vL 4, vL 2, vL nn], aq_h m s F c)) rfl rfl ?_
  refine am_E.call rfl rfl rfl (Nat.le_of_ble_eq_true rfl) (qm_in) ?_
  rintro r5 h5 ⟨rfl, v_1, rfl, hv_1⟩
  show am_E _ (11, [vR y, vI nn], [vI v_1], aq_h m s F c) _
  refine ae_if0 rfl (fun (q_2 : v_1 ≠ 0) => ?_) (fun (q_2 : v_1 = 0) => ?_)
  · refine am_E.go (t2 := (17, [vR y, vI nn], [vR y], aq_h m s F c)) rfl rfl ?_
    refine am_E.go (t2 := (18, [vR y, vI nn], [vI nn, vR y], aq_h m s F c)) rfl rfl ?_
    refine aq_pf rfl (by omega) hFo (by decide) rfl rfl ?_
    show am_E _ (21, [vR y, vI nn], [], aq_h m s F (aq_u c y 9 nn)) _
    generalize hdc_3 : aq_u c y 9 nn = c_3
    have sc_3 := aq_smu (aq_sm0 (c := c) (S := fun a => a = y ∨ a = y + 10)) hdc_3 (Or.inl rfl)
    refine am_E.go (t2 := (22, [vR y, vI nn], [vR y], aq_h m s F c_3)) rfl rfl ?_
    refine am_E.go (t2 := (23, [vR y, vI nn], [vI 0, vR y], aq_h m s F c_3)) rfl rfl ?_
    refine aq_pf rfl (by omega) hFo (by decide) rfl rfl ?_
    show am_E _ (26, [vR y, vI nn], [], aq_h m s F (aq_u c_3 y 10 0)) _
    generalize hdc_4 : aq_u c_3 y 10 0 = c_4
    have sc_4 := aq_smu sc_3 hdc_4 (Or.inl rfl)
    refine am_E.go (t2 := (27, [vR y, vI nn], [vI 0], aq_h m s F c_4)) rfl rfl ?_
    refine am_E.ret rfl rfl ?_
    have g9 : c_4 y 9 = nn := by rw [← hdc_4, aq_un (Or.inr (by omega)), ← hdc_3, aq_us]
    have g10 : c_4 y 10 = 0 := by rw [← hdc_4, aq_us]
    exact ⟨_, rfl, aq_smi sc_4 (fun a h => by omega), mo_Ix hI sc_4 ⟨by omega, by omega, by omega, by omega, fun i h5 h6 => absurd h6 (by omega)⟩, Or.inl ⟨by omega, by omega, rfl, g9, g10⟩⟩
  · refine am_E.go (t2 := (15, [vR y, vI nn], [vI (-1)], aq_h m s F c)) rfl rfl ?_
    refine am_E.ret rfl rfl ?_
    exact ⟨_, rfl, aq_sm0, hI, Or.inr ⟨by omega, rfl, rfl⟩⟩

theorem qm_X5_cross {m s : Nat} {F : aq_F} {c : aq_C} {y : Nat} (hC : mo_C m F y) (hI : mo_I y c) {l : Int} (hl0 : -2147483648 ≤ l) (hl1 : l < 2147483648) : am_E ac_X5_cross (0, [vR y, vI l, vU], [], aq_h m s F c) (aq_Z m s F (fun a => y ≤ a ∧ a < y + 24) c (fun r d => mo_I y d ∧ ((¬ (l ≠ 0 ∧ -(c y 9) < l ∧ l < c y 9) ∧ r = some (vI (-1)) ∧ d = c) ∨ ((l ≠ 0 ∧ -(c y 9) < l ∧ l < c y 9) ∧ 8 ≤ c y 10 ∧ r = some (vI (-3)) ∧ d = c) ∨ ((l ≠ 0 ∧ -(c y 9) < l ∧ l < c y 9) ∧ c y 10 < 8 ∧ r = some (vI (c y 10 + 1)) ∧ d y 9 = c y 9 ∧ d y 10 = c y 10 + 1)))) := by
  obtain ⟨⟨hm, hFo, hG5, hG6, hG7, hG8, hG9, hG10, hG11, hG12, hG13, hG14, hG15, hG16, hG17, hG18, hG19, hG20, hG21, hG22, hG23⟩, ⟨tbl, hT1, hTt⟩, ⟨tA, tB, tD, hL1, hL2, hL3, hLt⟩⟩ := hC
  obtain ⟨⟨hr0, hr1, hr2, hr3, hr4⟩, hIu⟩ := id hI
  refine am_E.go (t2 := (1, [vR y, vI l, vU], [vI l], aq_h m s F c)) rfl rfl ?_
  refine ae_if0 rfl (fun (q_1 : 0 ≤ l) => ?_) (fun (q_1 : l < 0) => ?_)
  · refine am_E.go (t2 := (10, [vR y, vI l, vU], [vI l], aq_h m s F c)) rfl rfl ?_
    refine am_E.go (t2 := (11, [vR y, vI l, vI l], [], aq_h m s F c)) rfl rfl ?_
    refine am_E.go (t2 := (12, [vR y, vI l, vI l], [vI l], aq_h m s F c)) rfl rfl ?_
    refine am_E.go (t2 := (13, [vR y, vI l, vI l], [vL l], aq_h m s F c)) rfl rfl ?_
    refine am_E.go (t2 := (14, [vR y, vI l, vI l], [vL 1, vL l], aq_h m s F c)) rfl rfl ?_
    refine am_E.go (t2 := (15, [vR y, vI l, vI l], [vR y, vL 1, vL l], aq_h m s F c)) rfl rfl ?_
    refine aq_gf (v := vI (c y 9)) rfl (by omega) hFo (by decide) rfl ?_
    show am_E _ (18, [vR y, vI l, vI l], [vI (c y 9), vL 1, vL l], aq_h m s F c) _
    skip
    refine am_E.go (t2 := (19, [vR y, vI l, vI l], [vI 1, vI (c y 9), vL 1, vL l], aq_h m s F c)) rfl rfl ?_
    refine ae_sub rfl (am_ri (by omega) (by omega)) ?_
    show am_E _ (20, [vR y, vI l, vI l], [vI ((c y 9) - 1), vL 1, vL l], aq_h m s F c) _
    refine am_E.go (t2 := (21, [vR y, vI l, vI l], [vL ((c y 9) - 1), vL 1, vL l], aq_h m s F c)) rfl rfl ?_
    refine am_E.call rfl rfl rfl (Nat.le_of_ble_eq_true rfl) (qm_in) ?_
    rintro r5 h5 ⟨rfl, v_3, rfl, hv_3⟩
    show am_E _ (24, [vR y, vI l, vI l], [vI v_3], aq_h m s F c) _
    refine ae_if0 rfl (fun (q_4 : v_3 ≠ 0) => ?_) (fun (q_4 : v_3 = 0) => ?_)
    · refine am_E.go (t2 := (30, [vR y, vI l, vI l], [vR y], aq_h m s F c)) rfl rfl ?_
      refine aq_gf (v := vI (c y 10)) rfl (by omega) hFo (by decide) rfl ?_
      show am_E _ (33, [vR y, vI l, vI l], [vI (c y 10)], aq_h m s F c) _
      skip
      refine am_E.go (t2 := (35, [vR y, vI l, vI l], [vI 8, vI (c y 10)], aq_h m s F c)) rfl rfl ?_
      refine ae_icmp rfl (fun (q_6 : (c y 10) ≠ 8) => ?_) (fun (q_6 : (c y 10) = 8) => ?_)
      · refine am_E.go (t2 := (42, [vR y, vI l, vI l], [vR y], aq_h m s F c)) rfl rfl ?_
        refine aq_gf (v := vR (y + 10)) rfl (by omega) hFo (by decide) rfl ?_
        show am_E _ (45, [vR y, vI l, vI l], [vR (y + 10)], aq_h m s F c) _
        refine am_E.go (t2 := (46, [vR y, vI l, vI l], [vR y, vR (y + 10)], aq_h m s F c)) rfl rfl ?_
        refine aq_gf (v := vI (c y 10)) rfl (by omega) hFo (by decide) rfl ?_
        show am_E _ (49, [vR y, vI l, vI l], [vI (c y 10), vR (y + 10)], aq_h m s F c) _
        skip
        refine am_E.go (t2 := (50, [vR y, vI l, vI l], [vI l, vI (c y 10), vR (y + 10)], aq_h m s F c)) rfl rfl ?_
        refine aq_as (kd := 0) rfl rfl (by omega) hG10 (by omega) (by omega) rfl rfl ?_
        show am_E _ (51, [vR y, vI l, vI l], [], aq_h m s F (aq_u c (y + 10) (c y 10) l)) _
        generalize hdc_8 : aq_u c (y + 10) (c y 10) l = c_8
        have sc_8 := aq_smu (aq_sm0 (c := c) (S := fun a => a = y ∨ a = y + 10)) hdc_8 (Or.inr rfl)
        refine am_E.go (t2 := (52, [vR y, vI l, vI l], [vR y], aq_h m s F c_8)) rfl rfl ?_
        refine am_E.go (t2 := (53, [vR y, vI l, vI l], [vR y, vR y], aq_h m s F c_8)) rfl rfl ?_
        refine aq_gf (v := vI (c_8 y 10)) rfl (by omega) hFo (by decide) rfl ?_
        show am_E _ (56, [vR y, vI l, vI l], [vI (c_8 y 10), vR y], aq_h m s F c_8) _
        have f_9 : c_8 y 10 = c y 10 := by rw [← hdc_8, aq_un (Or.inl (by omega))]
        refine am_E.go (t2 := (57, [vR y, vI l, vI l], [vI 1, vI (c_8 y 10), vR y], aq_h m s F c_8)) rfl rfl ?_
        refine ae_add rfl (am_ri (by omega) (by omega)) ?_
        show am_E _ (58, [vR y, vI l, vI l], [vI ((c_8 y 10) + 1), vR y], aq_h m s F c_8) _
        refine aq_pf rfl (by omega) hFo (by decide) rfl rfl ?_
        show am_E _ (61, [vR y, vI l, vI l], [], aq_h m s F (aq_u c_8 y 10 ((c_8 y 10) + 1))) _
        generalize hdc_10 : aq_u c_8 y 10 ((c_8 y 10) + 1) = c_10
        have sc_10 := aq_smu sc_8 hdc_10 (Or.inl rfl)
        refine am_E.go (t2 := (62, [vR y, vI l, vI l], [vR y], aq_h m s F c_10)) rfl rfl ?_
        refine aq_gf (v := vI (c_10 y 10)) rfl (by omega) hFo (by decide) rfl ?_
        show am_E _ (65, [vR y, vI l, vI l], [vI (c_10 y 10)], aq_h m s F c_10) _
        skip
        refine am_E.ret rfl rfl ?_
        have g9 : c_10 y 9 = c y 9 := by rw [← hdc_10, aq_un (Or.inr (by omega)), ← hdc_8, aq_un (Or.inl (by omega))]
        have g10 : c_10 y 10 = c y 10 + 1 := by rw [← hdc_10, aq_us, ← hdc_8, aq_un (Or.inl (by omega))]
        refine ⟨_, rfl, aq_smi sc_10 (fun a h => by omega), mo_Ix hI sc_10 ⟨by omega, by omega, by omega, by omega, fun i h5 h6 => ?_⟩, Or.inr (Or.inr ⟨by omega, by omega, by rw [g10], g9, g10⟩)⟩
        rw [← hdc_10, aq_un (Or.inl (by omega)), aq_un (Or.inr (by omega)), ← hdc_8, aq_un (Or.inl (by omega)) (a := y + 10) (b := y)]
        by_cases e : i = c y 10
        · rw [e, aq_us]
          omega
        · rw [aq_un (Or.inr e)]
          exact hr4 i h5 (by omega)
      · refine am_E.go (t2 := (40, [vR y, vI l, vI l], [vI (-3)], aq_h m s F c)) rfl rfl ?_
        refine am_E.ret rfl rfl ?_
        exact ⟨_, rfl, aq_sm0, hI, Or.inr (Or.inl ⟨by omega, by omega, rfl, rfl⟩)⟩
    · refine am_E.go (t2 := (28, [vR y, vI l, vI l], [vI (-1)], aq_h m s F c)) rfl rfl ?_
      refine am_E.ret rfl rfl ?_
      exact ⟨_, rfl, aq_sm0, hI, Or.inl ⟨by omega, rfl, rfl⟩⟩
  · refine am_E.go (t2 := (5, [vR y, vI l, vU], [vI l], aq_h m s F c)) rfl rfl ?_
    have e_n : am_w (-l) = -l ∨ l = -2147483648 := by by_cases e : l = -2147483648; exact Or.inr e; exact Or.inl (am_w_id (am_ri (by omega) (by omega)))
    have e_m : l = -2147483648 → am_w (-l) = -2147483648 := by intro e; rw [e]; rfl
    refine am_E.go (t2 := (6, [vR y, vI l, vU], [vI (am_w (-l))], aq_h m s F c)) rfl rfl ?_
    refine am_E.go (t2 := (10, [vR y, vI l, vU], [vI (am_w (-l))], aq_h m s F c)) rfl rfl ?_
    refine am_E.go (t2 := (11, [vR y, vI l, vI (am_w (-l))], [], aq_h m s F c)) rfl rfl ?_
    refine am_E.go (t2 := (12, [vR y, vI l, vI (am_w (-l))], [vI (am_w (-l))], aq_h m s F c)) rfl rfl ?_
    refine am_E.go (t2 := (13, [vR y, vI l, vI (am_w (-l))], [vL (am_w (-l))], aq_h m s F c)) rfl rfl ?_
    refine am_E.go (t2 := (14, [vR y, vI l, vI (am_w (-l))], [vL 1, vL (am_w (-l))], aq_h m s F c)) rfl rfl ?_
    refine am_E.go (t2 := (15, [vR y, vI l, vI (am_w (-l))], [vR y, vL 1, vL (am_w (-l))], aq_h m s F c)) rfl rfl ?_
    refine aq_gf (v := vI (c y 9)) rfl (by omega) hFo (by decide) rfl ?_
    show am_E _ (18, [vR y, vI l, vI (am_w (-l))], [vI (c y 9), vL 1, vL (am_w (-l))], aq_h m s F c) _
    skip
    refine am_E.go (t2 := (19, [vR y, vI l, vI (am_w (-l))], [vI 1, vI (c y 9), vL 1, vL (am_w (-l))], aq_h m s F c)) rfl rfl ?_
    refine ae_sub rfl (am_ri (by omega) (by omega)) ?_
    show am_E _ (20, [vR y, vI l, vI (am_w (-l))], [vI ((c y 9) - 1), vL 1, vL (am_w (-l))], aq_h m s F c) _
    refine am_E.go (t2 := (21, [vR y, vI l, vI (am_w (-l))], [vL ((c y 9) - 1), vL 1, vL (am_w (-l))], aq_h m s F c)) rfl rfl ?_
    refine am_E.call rfl rfl rfl (Nat.le_of_ble_eq_true rfl) (qm_in) ?_
    rintro r5 h5 ⟨rfl, v_13, rfl, hv_13⟩
    show am_E _ (24, [vR y, vI l, vI (am_w (-l))], [vI v_13], aq_h m s F c) _
    refine ae_if0 rfl (fun (q_14 : v_13 ≠ 0) => ?_) (fun (q_14 : v_13 = 0) => ?_)
    · refine am_E.go (t2 := (30, [vR y, vI l, vI (am_w (-l))], [vR y], aq_h m s F c)) rfl rfl ?_
      refine aq_gf (v := vI (c y 10)) rfl (by omega) hFo (by decide) rfl ?_
      show am_E _ (33, [vR y, vI l, vI (am_w (-l))], [vI (c y 10)], aq_h m s F c) _
      skip
      refine am_E.go (t2 := (35, [vR y, vI l, vI (am_w (-l))], [vI 8, vI (c y 10)], aq_h m s F c)) rfl rfl ?_
      refine ae_icmp rfl (fun (q_16 : (c y 10) ≠ 8) => ?_) (fun (q_16 : (c y 10) = 8) => ?_)
      · refine am_E.go (t2 := (42, [vR y, vI l, vI (am_w (-l))], [vR y], aq_h m s F c)) rfl rfl ?_
        refine aq_gf (v := vR (y + 10)) rfl (by omega) hFo (by decide) rfl ?_
        show am_E _ (45, [vR y, vI l, vI (am_w (-l))], [vR (y + 10)], aq_h m s F c) _
        refine am_E.go (t2 := (46, [vR y, vI l, vI (am_w (-l))], [vR y, vR (y + 10)], aq_h m s F c)) rfl rfl ?_
        refine aq_gf (v := vI (c y 10)) rfl (by omega) hFo (by decide) rfl ?_
        show am_E _ (49, [vR y, vI l, vI (am_w (-l))], [vI (c y 10), vR (y + 10)], aq_h m s F c) _
        skip
        refine am_E.go (t2 := (50, [vR y, vI l, vI (am_w (-l))], [vI l, vI (c y 10), vR (y + 10)], aq_h m s F c)) rfl rfl ?_
        refine aq_as (kd := 0) rfl rfl (by omega) hG10 (by omega) (by omega) rfl rfl ?_
        show am_E _ (51, [vR y, vI l, vI (am_w (-l))], [], aq_h m s F (aq_u c (y + 10) (c y 10) l)) _
        generalize hdc_18 : aq_u c (y + 10) (c y 10) l = c_18
        have sc_18 := aq_smu (aq_sm0 (c := c) (S := fun a => a = y ∨ a = y + 10)) hdc_18 (Or.inr rfl)
        refine am_E.go (t2 := (52, [vR y, vI l, vI (am_w (-l))], [vR y], aq_h m s F c_18)) rfl rfl ?_
        refine am_E.go (t2 := (53, [vR y, vI l, vI (am_w (-l))], [vR y, vR y], aq_h m s F c_18)) rfl rfl ?_
        refine aq_gf (v := vI (c_18 y 10)) rfl (by omega) hFo (by decide) rfl ?_
        show am_E _ (56, [vR y, vI l, vI (am_w (-l))], [vI (c_18 y 10), vR y], aq_h m s F c_18) _
        have f_19 : c_18 y 10 = c y 10 := by rw [← hdc_18, aq_un (Or.inl (by omega))]
        refine am_E.go (t2 := (57, [vR y, vI l, vI (am_w (-l))], [vI 1, vI (c_18 y 10), vR y], aq_h m s F c_18)) rfl rfl ?_
        refine ae_add rfl (am_ri (by omega) (by omega)) ?_
        show am_E _ (58, [vR y, vI l, vI (am_w (-l))], [vI ((c_18 y 10) + 1), vR y], aq_h m s F c_18) _
        refine aq_pf rfl (by omega) hFo (by decide) rfl rfl ?_
        show am_E _ (61, [vR y, vI l, vI (am_w (-l))], [], aq_h m s F (aq_u c_18 y 10 ((c_18 y 10) + 1))) _
        generalize hdc_20 : aq_u c_18 y 10 ((c_18 y 10) + 1) = c_20
        have sc_20 := aq_smu sc_18 hdc_20 (Or.inl rfl)
        refine am_E.go (t2 := (62, [vR y, vI l, vI (am_w (-l))], [vR y], aq_h m s F c_20)) rfl rfl ?_
        refine aq_gf (v := vI (c_20 y 10)) rfl (by omega) hFo (by decide) rfl ?_
        show am_E _ (65, [vR y, vI l, vI (am_w (-l))], [vI (c_20 y 10)], aq_h m s F c_20) _
        skip
        refine am_E.ret rfl rfl ?_
        have g9 : c_20 y 9 = c y 9 := by rw [← hdc_20, aq_un (Or.inr (by omega)), ← hdc_18, aq_un (Or.inl (by omega))]
        have g10 : c_20 y 10 = c y 10 + 1 := by rw [← hdc_20, aq_us, ← hdc_18, aq_un (Or.inl (by omega))]
        refine ⟨_, rfl, aq_smi sc_20 (fun a h => by omega), mo_Ix hI sc_20 ⟨by omega, by omega, by omega, by omega, fun i h5 h6 => ?_⟩, Or.inr (Or.inr ⟨by omega, by omega, by rw [g10], g9, g10⟩)⟩
        rw [← hdc_20, aq_un (Or.inl (by omega)), aq_un (Or.inr (by omega)), ← hdc_18, aq_un (Or.inl (by omega)) (a := y + 10) (b := y)]
        by_cases e : i = c y 10
        · rw [e, aq_us]
          omega
        · rw [aq_un (Or.inr e)]
          exact hr4 i h5 (by omega)
      · refine am_E.go (t2 := (40, [vR y, vI l, vI (am_w (-l))], [vI (-3)], aq_h m s F c)) rfl rfl ?_
        refine am_E.ret rfl rfl ?_
        exact ⟨_, rfl, aq_sm0, hI, Or.inr (Or.inl ⟨by omega, by omega, rfl, rfl⟩)⟩
    · refine am_E.go (t2 := (28, [vR y, vI l, vI (am_w (-l))], [vI (-1)], aq_h m s F c)) rfl rfl ?_
      refine am_E.ret rfl rfl ?_
      exact ⟨_, rfl, aq_sm0, hI, Or.inl ⟨by omega, rfl, rfl⟩⟩

theorem qm_X5_back {m s : Nat} {F : aq_F} {c : aq_C} {y : Nat} (hC : mo_C m F y) (hI : mo_I y c) : am_E ac_X5_back (0, [vR y], [], aq_h m s F c) (aq_Z m s F (fun a => y ≤ a ∧ a < y + 24) c (fun r d => mo_I y d ∧ ((c y 10 ≤ 0 ∧ r = some (vI (-2)) ∧ d = c) ∨ (0 < c y 10 ∧ r = some (vI (c y 10 - 1)) ∧ d y 9 = c y 9 ∧ d y 10 = c y 10 - 1)))) := by
  obtain ⟨⟨hm, hFo, hG5, hG6, hG7, hG8, hG9, hG10, hG11, hG12, hG13, hG14, hG15, hG16, hG17, hG18, hG19, hG20, hG21, hG22, hG23⟩, ⟨tbl, hT1, hTt⟩, ⟨tA, tB, tD, hL1, hL2, hL3, hLt⟩⟩ := hC
  obtain ⟨⟨hr0, hr1, hr2, hr3, hr4⟩, hIu⟩ := id hI
  refine am_E.go (t2 := (1, [vR y], [vR y], aq_h m s F c)) rfl rfl ?_
  refine aq_gf (v := vI (c y 10)) rfl (by omega) hFo (by decide) rfl ?_
  show am_E _ (4, [vR y], [vI (c y 10)], aq_h m s F c) _
  skip
  refine ae_if0 rfl (fun (q_2 : (c y 10) ≠ 0) => ?_) (fun (q_2 : (c y 10) = 0) => ?_)
  · refine am_E.go (t2 := (11, [vR y], [vR y], aq_h m s F c)) rfl rfl ?_
    refine am_E.go (t2 := (12, [vR y], [vR y, vR y], aq_h m s F c)) rfl rfl ?_
    refine aq_gf (v := vI (c y 10)) rfl (by omega) hFo (by decide) rfl ?_
    show am_E _ (15, [vR y], [vI (c y 10), vR y], aq_h m s F c) _
    skip
    refine am_E.go (t2 := (16, [vR y], [vI 1, vI (c y 10), vR y], aq_h m s F c)) rfl rfl ?_
    refine ae_sub rfl (am_ri (by omega) (by omega)) ?_
    show am_E _ (17, [vR y], [vI ((c y 10) - 1), vR y], aq_h m s F c) _
    refine aq_pf rfl (by omega) hFo (by decide) rfl rfl ?_
    show am_E _ (20, [vR y], [], aq_h m s F (aq_u c y 10 ((c y 10) - 1))) _
    generalize hdc_4 : aq_u c y 10 ((c y 10) - 1) = c_4
    have sc_4 := aq_smu (aq_sm0 (c := c) (S := fun a => a = y ∨ a = y + 10)) hdc_4 (Or.inl rfl)
    refine am_E.go (t2 := (21, [vR y], [vR y], aq_h m s F c_4)) rfl rfl ?_
    refine aq_gf (v := vI (c_4 y 10)) rfl (by omega) hFo (by decide) rfl ?_
    show am_E _ (24, [vR y], [vI (c_4 y 10)], aq_h m s F c_4) _
    skip
    refine am_E.ret rfl rfl ?_
    have g9 : c_4 y 9 = c y 9 := by rw [← hdc_4, aq_un (Or.inr (by omega))]
    have g10 : c_4 y 10 = c y 10 - 1 := by rw [← hdc_4, aq_us]
    refine ⟨_, rfl, aq_smi sc_4 (fun a h => by omega), mo_Ix hI sc_4 ⟨by omega, by omega, by omega, by omega, fun i h5 h6 => ?_⟩, Or.inr ⟨by omega, by rw [g10], g9, g10⟩⟩
    rw [g9, ← hdc_4, aq_un (Or.inl (by omega))]
    exact hr4 i h5 (by omega)
  · refine am_E.go (t2 := (9, [vR y], [vI (-2)], aq_h m s F c)) rfl rfl ?_
    refine am_E.ret rfl rfl ?_
    exact ⟨_, rfl, aq_sm0, hI, Or.inl ⟨by omega, rfl, rfl⟩⟩

/-- isHalf: the points between p and q -/
def hf_i (n p q : Int) (h : Int → Int) : Nat → Int → Int → Int
  | 0, _, is => is
  | d + 1, r, is => if r < n then (if is = 0 then is else hf_i n p q h d (r + 1) (if q = n ∨ ¬ (p < r ∧ r < q) ∨ (p < h r ∧ h r < q) then 1 else 0)) else is
def hf_o (n t : Int) (h : Int → Int) : Nat → Int → Int → Int → Int
  | 0, _, _, _ => 0
  | d + 1, p, left, is => if p < n then (if is = 0 then 0 else hf_o n t h d (p + 1) (am_w (left + if h p = n then 1 else 0)) (hf_i n p (h p) h 6 0 (if h p = n ∨ (h p ≠ p ∧ h (h p) = p) then 1 else 0))) else (if is = 0 then 0 else if left = t then 1 else 0)

def hv_10 : List (List Int) := []
def hv_11 : List (List Int) := [[1]]
def hv_20 : List (List Int) := [[1, 0]]
def hv_21 : List (List Int) := []
def hv_22 : List (List Int) := [[2, 2]]
def hv_30 : List (List Int) := []
def hv_31 : List (List Int) := [[1, 0, 3], [3, 2, 1]]
def hv_32 : List (List Int) := []
def hv_33 : List (List Int) := [[3, 3, 3]]
def hv_40 : List (List Int) := [[1, 0, 3, 2], [3, 2, 1, 0]]
def hv_41 : List (List Int) := []
def hv_42 : List (List Int) := [[1, 0, 4, 4], [4, 2, 1, 4], [4, 4, 3, 2]]
def hv_43 : List (List Int) := []
def hv_44 : List (List Int) := [[4, 4, 4, 4]]
/-- the halves of n points with t left, in order -/
def hv_l (n t : Int) : List (List Int) := if n = 1 then (if t = 0 then hv_10 else hv_11) else if n = 2 then (if t = 0 then hv_20 else if t = 1 then hv_21 else hv_22) else if n = 3 then (if t = 0 then hv_30 else if t = 1 then hv_31 else if t = 2 then hv_32 else hv_33) else (if t = 0 then hv_40 else if t = 1 then hv_41 else if t = 2 then hv_42 else if t = 3 then hv_43 else hv_44)
def hv_N (n t : Int) : Int := ((hv_l n t).length : Int)
def hv_d (n t k p : Int) : Int := ((hv_l n t).getD k.toNat []).getD p.toNat 0

theorem qm_isHalf_in {m s : Nat} {F : aq_F} {c : aq_C} {a : Nat} (ha : a < m) (hFa : F a = (0, 4, fun _ => .inl 0)) {n t : Int} (hn1 : 1 ≤ n) (hn4 : n ≤ 4) (hr : aq_rg a n 0 (n + 1) c) {T : Int} {T2 : Int} : ∀ (d : Nat) (lf : Int) (is : Int) (p : Int) (q : Int) (r : Int) (h0 : 0 ≤ r) (h1 : r ≤ n) (hi : hf_i n p q (c a) d r is = T2) (hd : n - r < (d : Int)) (K0 : ∀ (is2 : Int) (r2 : Int) (ht : is2 = T2), am_E ac_X5_isHalf (133, [vI n, vI t, vR a, vI lf, vI is2, vI p, vI q, vI r2], [], aq_h m s F c) (aq_P m s F c (fun r => r = some (vI T)))), am_E ac_X5_isHalf (71, [vI n, vI t, vR a, vI lf, vI is, vI p, vI q, vI r], [], aq_h m s F c) (aq_P m s F c (fun r => r = some (vI T)))
  | 0, lf, is, p, q, r, h0, h1, hi, hd, K0 => by exfalso; omega
  | d + 1, lf, is, p, q, r, h0, h1, hi, hd, K0 => by
    refine am_E.go (t2 := (73, [vI n, vI t, vR a, vI lf, vI is, vI p, vI q, vI r], [vI r], aq_h m s F c)) rfl rfl ?_
    refine am_E.go (t2 := (74, [vI n, vI t, vR a, vI lf, vI is, vI p, vI q, vI r], [vI n, vI r], aq_h m s F c)) rfl rfl ?_
    refine ae_icmp rfl (fun (q_1 : n ≤ r) => ?_) (fun (q_1 : r < n) => ?_)
    · exact K0 is r (by rw [← hi, hf_i]; first | (rw [if_neg (by omega)]) | (rw [if_pos (by omega), if_pos (by omega)]))
    · refine am_E.go (t2 := (79, [vI n, vI t, vR a, vI lf, vI is, vI p, vI q, vI r], [vI is], aq_h m s F c)) rfl rfl ?_
      refine ae_if0 rfl (fun (q_2 : is = 0) => ?_) (fun (q_2 : is ≠ 0) => ?_)
      · exact K0 is r (by rw [← hi, hf_i]; first | (rw [if_neg (by omega)]) | (rw [if_pos (by omega), if_pos (by omega)]))
      · refine am_E.go (t2 := (84, [vI n, vI t, vR a, vI lf, vI is, vI p, vI q, vI r], [vI q], aq_h m s F c)) rfl rfl ?_
        refine am_E.go (t2 := (85, [vI n, vI t, vR a, vI lf, vI is, vI p, vI q, vI r], [vI n, vI q], aq_h m s F c)) rfl rfl ?_
        refine ae_icmp rfl (fun (q_3 : q = n) => ?_) (fun (q_3 : q ≠ n) => ?_)
        · refine am_E.go (t2 := (121, [vI n, vI t, vR a, vI lf, vI is, vI p, vI q, vI r], [vI 1], aq_h m s F c)) rfl rfl ?_
          refine am_E.go (t2 := (125, [vI n, vI t, vR a, vI lf, vI is, vI p, vI q, vI r], [vI 1], aq_h m s F c)) rfl rfl ?_
          refine am_E.go (t2 := (127, [vI n, vI t, vR a, vI lf, vI 1, vI p, vI q, vI r], [], aq_h m s F c)) rfl rfl ?_
          refine ae_iinc rfl rfl (am_ri (by omega) (by omega)) ?_
          show am_E _ (130, [vI n, vI t, vR a, vI lf, vI 1, vI p, vI q, vI (r + 1)], [], aq_h m s F c) _
          refine am_E.go (t2 := (71, [vI n, vI t, vR a, vI lf, vI 1, vI p, vI q, vI (r + 1)], [], aq_h m s F c)) rfl rfl ?_
          exact qm_isHalf_in ha hFa hn1 hn4 hr d lf 1 p q (r + 1) (by omega) (by omega) (by rw [← hi, hf_i, if_pos (by omega), if_neg (by omega)]; first | rw [if_pos (by omega)] | rw [if_neg (by omega)]) (by omega) K0
        · refine am_E.go (t2 := (90, [vI n, vI t, vR a, vI lf, vI is, vI p, vI q, vI r], [vI p], aq_h m s F c)) rfl rfl ?_
          refine am_E.go (t2 := (92, [vI n, vI t, vR a, vI lf, vI is, vI p, vI q, vI r], [vI r, vI p], aq_h m s F c)) rfl rfl ?_
          refine ae_icmp rfl (fun (q_4 : r ≤ p) => ?_) (fun (q_4 : p < r) => ?_)
          · refine am_E.go (t2 := (121, [vI n, vI t, vR a, vI lf, vI is, vI p, vI q, vI r], [vI 1], aq_h m s F c)) rfl rfl ?_
            refine am_E.go (t2 := (125, [vI n, vI t, vR a, vI lf, vI is, vI p, vI q, vI r], [vI 1], aq_h m s F c)) rfl rfl ?_
            refine am_E.go (t2 := (127, [vI n, vI t, vR a, vI lf, vI 1, vI p, vI q, vI r], [], aq_h m s F c)) rfl rfl ?_
            refine ae_iinc rfl rfl (am_ri (by omega) (by omega)) ?_
            show am_E _ (130, [vI n, vI t, vR a, vI lf, vI 1, vI p, vI q, vI (r + 1)], [], aq_h m s F c) _
            refine am_E.go (t2 := (71, [vI n, vI t, vR a, vI lf, vI 1, vI p, vI q, vI (r + 1)], [], aq_h m s F c)) rfl rfl ?_
            exact qm_isHalf_in ha hFa hn1 hn4 hr d lf 1 p q (r + 1) (by omega) (by omega) (by rw [← hi, hf_i, if_pos (by omega), if_neg (by omega)]; first | rw [if_pos (by omega)] | rw [if_neg (by omega)]) (by omega) K0
          · refine am_E.go (t2 := (97, [vI n, vI t, vR a, vI lf, vI is, vI p, vI q, vI r], [vI r], aq_h m s F c)) rfl rfl ?_
            refine am_E.go (t2 := (99, [vI n, vI t, vR a, vI lf, vI is, vI p, vI q, vI r], [vI q, vI r], aq_h m s F c)) rfl rfl ?_
            refine ae_icmp rfl (fun (q_5 : q ≤ r) => ?_) (fun (q_5 : r < q) => ?_)
            · refine am_E.go (t2 := (121, [vI n, vI t, vR a, vI lf, vI is, vI p, vI q, vI r], [vI 1], aq_h m s F c)) rfl rfl ?_
              refine am_E.go (t2 := (125, [vI n, vI t, vR a, vI lf, vI is, vI p, vI q, vI r], [vI 1], aq_h m s F c)) rfl rfl ?_
              refine am_E.go (t2 := (127, [vI n, vI t, vR a, vI lf, vI 1, vI p, vI q, vI r], [], aq_h m s F c)) rfl rfl ?_
              refine ae_iinc rfl rfl (am_ri (by omega) (by omega)) ?_
              show am_E _ (130, [vI n, vI t, vR a, vI lf, vI 1, vI p, vI q, vI (r + 1)], [], aq_h m s F c) _
              refine am_E.go (t2 := (71, [vI n, vI t, vR a, vI lf, vI 1, vI p, vI q, vI (r + 1)], [], aq_h m s F c)) rfl rfl ?_
              exact qm_isHalf_in ha hFa hn1 hn4 hr d lf 1 p q (r + 1) (by omega) (by omega) (by rw [← hi, hf_i, if_pos (by omega), if_neg (by omega)]; first | rw [if_pos (by omega)] | rw [if_neg (by omega)]) (by omega) K0
            · refine am_E.go (t2 := (103, [vI n, vI t, vR a, vI lf, vI is, vI p, vI q, vI r], [vR a], aq_h m s F c)) rfl rfl ?_
              refine am_E.go (t2 := (105, [vI n, vI t, vR a, vI lf, vI is, vI p, vI q, vI r], [vI r, vR a], aq_h m s F c)) rfl rfl ?_
              refine aq_al (ok := fun k => k == 0) (v := vI (c a r)) rfl rfl ha hFa rfl (by omega) (by omega) rfl ?_
              show am_E _ (106, [vI n, vI t, vR a, vI lf, vI is, vI p, vI q, vI r], [vI (c a r)], aq_h m s F c) _
              have f_6 := hr r (by omega) (by omega)
              refine am_E.go (t2 := (108, [vI n, vI t, vR a, vI lf, vI is, vI p, vI q, vI r], [vI p, vI (c a r)], aq_h m s F c)) rfl rfl ?_
              refine ae_icmp rfl (fun (q_7 : (c a r) ≤ p) => ?_) (fun (q_7 : p < (c a r)) => ?_)
              · refine am_E.go (t2 := (125, [vI n, vI t, vR a, vI lf, vI is, vI p, vI q, vI r], [vI 0], aq_h m s F c)) rfl rfl ?_
                refine am_E.go (t2 := (127, [vI n, vI t, vR a, vI lf, vI 0, vI p, vI q, vI r], [], aq_h m s F c)) rfl rfl ?_
                refine ae_iinc rfl rfl (am_ri (by omega) (by omega)) ?_
                show am_E _ (130, [vI n, vI t, vR a, vI lf, vI 0, vI p, vI q, vI (r + 1)], [], aq_h m s F c) _
                refine am_E.go (t2 := (71, [vI n, vI t, vR a, vI lf, vI 0, vI p, vI q, vI (r + 1)], [], aq_h m s F c)) rfl rfl ?_
                exact qm_isHalf_in ha hFa hn1 hn4 hr d lf 0 p q (r + 1) (by omega) (by omega) (by rw [← hi, hf_i, if_pos (by omega), if_neg (by omega)]; first | rw [if_pos (by omega)] | rw [if_neg (by omega)]) (by omega) K0
              · refine am_E.go (t2 := (112, [vI n, vI t, vR a, vI lf, vI is, vI p, vI q, vI r], [vR a], aq_h m s F c)) rfl rfl ?_
                refine am_E.go (t2 := (114, [vI n, vI t, vR a, vI lf, vI is, vI p, vI q, vI r], [vI r, vR a], aq_h m s F c)) rfl rfl ?_
                refine aq_al (ok := fun k => k == 0) (v := vI (c a r)) rfl rfl ha hFa rfl (by omega) (by omega) rfl ?_
                show am_E _ (115, [vI n, vI t, vR a, vI lf, vI is, vI p, vI q, vI r], [vI (c a r)], aq_h m s F c) _
                have f_8 := hr r (by omega) (by omega)
                refine am_E.go (t2 := (117, [vI n, vI t, vR a, vI lf, vI is, vI p, vI q, vI r], [vI q, vI (c a r)], aq_h m s F c)) rfl rfl ?_
                refine ae_icmp rfl (fun (q_9 : q ≤ (c a r)) => ?_) (fun (q_9 : (c a r) < q) => ?_)
                · refine am_E.go (t2 := (125, [vI n, vI t, vR a, vI lf, vI is, vI p, vI q, vI r], [vI 0], aq_h m s F c)) rfl rfl ?_
                  refine am_E.go (t2 := (127, [vI n, vI t, vR a, vI lf, vI 0, vI p, vI q, vI r], [], aq_h m s F c)) rfl rfl ?_
                  refine ae_iinc rfl rfl (am_ri (by omega) (by omega)) ?_
                  show am_E _ (130, [vI n, vI t, vR a, vI lf, vI 0, vI p, vI q, vI (r + 1)], [], aq_h m s F c) _
                  refine am_E.go (t2 := (71, [vI n, vI t, vR a, vI lf, vI 0, vI p, vI q, vI (r + 1)], [], aq_h m s F c)) rfl rfl ?_
                  exact qm_isHalf_in ha hFa hn1 hn4 hr d lf 0 p q (r + 1) (by omega) (by omega) (by rw [← hi, hf_i, if_pos (by omega), if_neg (by omega)]; first | rw [if_pos (by omega)] | rw [if_neg (by omega)]) (by omega) K0
                · refine am_E.go (t2 := (121, [vI n, vI t, vR a, vI lf, vI is, vI p, vI q, vI r], [vI 1], aq_h m s F c)) rfl rfl ?_
                  refine am_E.go (t2 := (125, [vI n, vI t, vR a, vI lf, vI is, vI p, vI q, vI r], [vI 1], aq_h m s F c)) rfl rfl ?_
                  refine am_E.go (t2 := (127, [vI n, vI t, vR a, vI lf, vI 1, vI p, vI q, vI r], [], aq_h m s F c)) rfl rfl ?_
                  refine ae_iinc rfl rfl (am_ri (by omega) (by omega)) ?_
                  show am_E _ (130, [vI n, vI t, vR a, vI lf, vI 1, vI p, vI q, vI (r + 1)], [], aq_h m s F c) _
                  refine am_E.go (t2 := (71, [vI n, vI t, vR a, vI lf, vI 1, vI p, vI q, vI (r + 1)], [], aq_h m s F c)) rfl rfl ?_
                  exact qm_isHalf_in ha hFa hn1 hn4 hr d lf 1 p q (r + 1) (by omega) (by omega) (by rw [← hi, hf_i, if_pos (by omega), if_neg (by omega)]; first | rw [if_pos (by omega)] | rw [if_neg (by omega)]) (by omega) K0

theorem qm_isHalf_out {m s : Nat} {F : aq_F} {c : aq_C} {a : Nat} (ha : a < m) (hFa : F a = (0, 4, fun _ => .inl 0)) {n t : Int} (hn1 : 1 ≤ n) (hn4 : n ≤ 4) (hr : aq_rg a n 0 (n + 1) c) {T : Int} : ∀ (d : Nat) (lf : Int) (is : Int) (p : Int) (v6 : am_V) (v7 : am_V) (h0 : 0 ≤ p) (h1 : p ≤ n) (ho : hf_o n t (c a) d p lf is = T) (hd : n - p < (d : Int)), am_E ac_X5_isHalf (8, [vI n, vI t, vR a, vI lf, vI is, vI p, v6, v7], [], aq_h m s F c) (aq_P m s F c (fun r => r = some (vI T)))
  | 0, lf, is, p, v6, v7, h0, h1, ho, hd => by exfalso; omega
  | d + 1, lf, is, p, v6, v7, h0, h1, ho, hd => by
    refine am_E.go (t2 := (10, [vI n, vI t, vR a, vI lf, vI is, vI p, v6, v7], [vI p], aq_h m s F c)) rfl rfl ?_
    refine am_E.go (t2 := (11, [vI n, vI t, vR a, vI lf, vI is, vI p, v6, v7], [vI n, vI p], aq_h m s F c)) rfl rfl ?_
    refine ae_icmp rfl (fun (q_1 : n ≤ p) => ?_) (fun (q_1 : p < n) => ?_)
    · refine am_E.go (t2 := (141, [vI n, vI t, vR a, vI lf, vI is, vI p, v6, v7], [vI is], aq_h m s F c)) rfl rfl ?_
      refine ae_if0 rfl (fun (q_2 : is = 0) => ?_) (fun (q_2 : is ≠ 0) => ?_)
      · refine am_E.go (t2 := (154, [vI n, vI t, vR a, vI lf, vI is, vI p, v6, v7], [vI 0], aq_h m s F c)) rfl rfl ?_
        refine am_E.ret rfl rfl ?_
        refine ⟨rfl, ?_⟩
        first | (exfalso; omega) | (rw [← ho, hf_o]; first | (rw [if_neg (by omega), if_neg (by omega), if_pos (by omega)]) | (rw [if_neg (by omega), if_neg (by omega), if_neg (by omega)]) | (rw [if_neg (by omega), if_pos (by omega)]) | (rw [if_pos (by omega), if_pos (by omega)]))
      · refine am_E.go (t2 := (145, [vI n, vI t, vR a, vI lf, vI is, vI p, v6, v7], [vI lf], aq_h m s F c)) rfl rfl ?_
        refine am_E.go (t2 := (146, [vI n, vI t, vR a, vI lf, vI is, vI p, v6, v7], [vI t, vI lf], aq_h m s F c)) rfl rfl ?_
        refine ae_icmp rfl (fun (q_3 : lf ≠ t) => ?_) (fun (q_3 : lf = t) => ?_)
        · refine am_E.go (t2 := (154, [vI n, vI t, vR a, vI lf, vI is, vI p, v6, v7], [vI 0], aq_h m s F c)) rfl rfl ?_
          refine am_E.ret rfl rfl ?_
          refine ⟨rfl, ?_⟩
          first | (exfalso; omega) | (rw [← ho, hf_o]; first | (rw [if_neg (by omega), if_neg (by omega), if_pos (by omega)]) | (rw [if_neg (by omega), if_neg (by omega), if_neg (by omega)]) | (rw [if_neg (by omega), if_pos (by omega)]) | (rw [if_pos (by omega), if_pos (by omega)]))
        · refine am_E.go (t2 := (150, [vI n, vI t, vR a, vI lf, vI is, vI p, v6, v7], [vI 1], aq_h m s F c)) rfl rfl ?_
          refine am_E.go (t2 := (154, [vI n, vI t, vR a, vI lf, vI is, vI p, v6, v7], [vI 1], aq_h m s F c)) rfl rfl ?_
          refine am_E.ret rfl rfl ?_
          refine ⟨rfl, ?_⟩
          first | (exfalso; omega) | (rw [← ho, hf_o]; first | (rw [if_neg (by omega), if_neg (by omega), if_pos (by omega)]) | (rw [if_neg (by omega), if_neg (by omega), if_neg (by omega)]) | (rw [if_neg (by omega), if_pos (by omega)]) | (rw [if_pos (by omega), if_pos (by omega)]))
    · refine am_E.go (t2 := (16, [vI n, vI t, vR a, vI lf, vI is, vI p, v6, v7], [vI is], aq_h m s F c)) rfl rfl ?_
      refine ae_if0 rfl (fun (q_4 : is = 0) => ?_) (fun (q_4 : is ≠ 0) => ?_)
      · refine am_E.go (t2 := (141, [vI n, vI t, vR a, vI lf, vI is, vI p, v6, v7], [vI is], aq_h m s F c)) rfl rfl ?_
        refine ae_if0 rfl (fun (q_5 : is = 0) => ?_) (fun (q_5 : is ≠ 0) => ?_)
        · refine am_E.go (t2 := (154, [vI n, vI t, vR a, vI lf, vI is, vI p, v6, v7], [vI 0], aq_h m s F c)) rfl rfl ?_
          refine am_E.ret rfl rfl ?_
          refine ⟨rfl, ?_⟩
          first | (exfalso; omega) | (rw [← ho, hf_o]; first | (rw [if_neg (by omega), if_neg (by omega), if_pos (by omega)]) | (rw [if_neg (by omega), if_neg (by omega), if_neg (by omega)]) | (rw [if_neg (by omega), if_pos (by omega)]) | (rw [if_pos (by omega), if_pos (by omega)]))
        · refine am_E.go (t2 := (145, [vI n, vI t, vR a, vI lf, vI is, vI p, v6, v7], [vI lf], aq_h m s F c)) rfl rfl ?_
          refine am_E.go (t2 := (146, [vI n, vI t, vR a, vI lf, vI is, vI p, v6, v7], [vI t, vI lf], aq_h m s F c)) rfl rfl ?_
          refine ae_icmp rfl (fun (q_6 : lf ≠ t) => ?_) (fun (q_6 : lf = t) => ?_)
          · refine am_E.go (t2 := (154, [vI n, vI t, vR a, vI lf, vI is, vI p, v6, v7], [vI 0], aq_h m s F c)) rfl rfl ?_
            refine am_E.ret rfl rfl ?_
            refine ⟨rfl, ?_⟩
            first | (exfalso; omega) | (rw [← ho, hf_o]; first | (rw [if_neg (by omega), if_neg (by omega), if_pos (by omega)]) | (rw [if_neg (by omega), if_neg (by omega), if_neg (by omega)]) | (rw [if_neg (by omega), if_pos (by omega)]) | (rw [if_pos (by omega), if_pos (by omega)]))
          · refine am_E.go (t2 := (150, [vI n, vI t, vR a, vI lf, vI is, vI p, v6, v7], [vI 1], aq_h m s F c)) rfl rfl ?_
            refine am_E.go (t2 := (154, [vI n, vI t, vR a, vI lf, vI is, vI p, v6, v7], [vI 1], aq_h m s F c)) rfl rfl ?_
            refine am_E.ret rfl rfl ?_
            refine ⟨rfl, ?_⟩
            first | (exfalso; omega) | (rw [← ho, hf_o]; first | (rw [if_neg (by omega), if_neg (by omega), if_pos (by omega)]) | (rw [if_neg (by omega), if_neg (by omega), if_neg (by omega)]) | (rw [if_neg (by omega), if_pos (by omega)]) | (rw [if_pos (by omega), if_pos (by omega)]))
      · refine am_E.go (t2 := (20, [vI n, vI t, vR a, vI lf, vI is, vI p, v6, v7], [vR a], aq_h m s F c)) rfl rfl ?_
        refine am_E.go (t2 := (22, [vI n, vI t, vR a, vI lf, vI is, vI p, v6, v7], [vI p, vR a], aq_h m s F c)) rfl rfl ?_
        refine aq_al (ok := fun k => k == 0) (v := vI (c a p)) rfl rfl ha hFa rfl (by omega) (by omega) rfl ?_
        show am_E _ (23, [vI n, vI t, vR a, vI lf, vI is, vI p, v6, v7], [vI (c a p)], aq_h m s F c) _
        have f_7 := hr p (by omega) (by omega)
        refine am_E.go (t2 := (25, [vI n, vI t, vR a, vI lf, vI is, vI p, vI (c a p), v7], [], aq_h m s F c)) rfl rfl ?_
        refine am_E.go (t2 := (26, [vI n, vI t, vR a, vI lf, vI is, vI p, vI (c a p), v7], [vI lf], aq_h m s F c)) rfl rfl ?_
        refine am_E.go (t2 := (28, [vI n, vI t, vR a, vI lf, vI is, vI p, vI (c a p), v7], [vI (c a p), vI lf], aq_h m s F c)) rfl rfl ?_
        refine am_E.go (t2 := (29, [vI n, vI t, vR a, vI lf, vI is, vI p, vI (c a p), v7], [vI n, vI (c a p), vI lf], aq_h m s F c)) rfl rfl ?_
        refine ae_icmp rfl (fun (q_8 : (c a p) ≠ n) => ?_) (fun (q_8 : (c a p) = n) => ?_)
        · refine am_E.go (t2 := (37, [vI n, vI t, vR a, vI lf, vI is, vI p, vI (c a p), v7], [vI 0, vI lf], aq_h m s F c)) rfl rfl ?_
          refine am_E.go (t2 := (38, [vI n, vI t, vR a, vI lf, vI is, vI p, vI (c a p), v7], [vI (am_w (lf + 0))], aq_h m s F c)) rfl rfl ?_
          refine am_E.go (t2 := (39, [vI n, vI t, vR a, vI (am_w (lf + 0)), vI is, vI p, vI (c a p), v7], [], aq_h m s F c)) rfl rfl ?_
          refine am_E.go (t2 := (41, [vI n, vI t, vR a, vI (am_w (lf + 0)), vI is, vI p, vI (c a p), v7], [vI (c a p)], aq_h m s F c)) rfl rfl ?_
          refine am_E.go (t2 := (42, [vI n, vI t, vR a, vI (am_w (lf + 0)), vI is, vI p, vI (c a p), v7], [vI n, vI (c a p)], aq_h m s F c)) rfl rfl ?_
          refine ae_icmp rfl (fun (q_9 : (c a p) = n) => ?_) (fun (q_9 : (c a p) ≠ n) => ?_)
          · refine am_E.go (t2 := (62, [vI n, vI t, vR a, vI (am_w (lf + 0)), vI is, vI p, vI (c a p), v7], [vI 1], aq_h m s F c)) rfl rfl ?_
            refine am_E.go (t2 := (66, [vI n, vI t, vR a, vI (am_w (lf + 0)), vI is, vI p, vI (c a p), v7], [vI 1], aq_h m s F c)) rfl rfl ?_
            refine am_E.go (t2 := (68, [vI n, vI t, vR a, vI (am_w (lf + 0)), vI 1, vI p, vI (c a p), v7], [], aq_h m s F c)) rfl rfl ?_
            refine am_E.go (t2 := (69, [vI n, vI t, vR a, vI (am_w (lf + 0)), vI 1, vI p, vI (c a p), v7], [vI 0], aq_h m s F c)) rfl rfl ?_
            refine am_E.go (t2 := (71, [vI n, vI t, vR a, vI (am_w (lf + 0)), vI 1, vI p, vI (c a p), vI 0], [], aq_h m s F c)) rfl rfl ?_
            refine qm_isHalf_in ha hFa hn1 hn4 hr 6 (am_w (lf + 0)) 1 p (c a p) 0 (by omega) (by omega) rfl (by omega) ?_
            · intro is2_71 r2_71 ht_71
              refine ae_iinc rfl rfl (am_ri (by omega) (by omega)) ?_
              show am_E _ (136, [vI n, vI t, vR a, vI (am_w (lf + 0)), vI is2_71, vI (p + 1), vI (c a p), vI r2_71], [], aq_h m s F c) _
              refine am_E.go (t2 := (8, [vI n, vI t, vR a, vI (am_w (lf + 0)), vI is2_71, vI (p + 1), vI (c a p), vI r2_71], [], aq_h m s F c)) rfl rfl ?_
              exact qm_isHalf_out ha hFa hn1 hn4 hr d (am_w (lf + 0)) is2_71 (p + 1) (vI (c a p)) (vI r2_71) (by omega) (by omega) (by first | (exfalso; omega) | (rw [← ho, hf_o, if_pos (by omega), if_neg (by omega), ht_71]; first | (rw [if_pos (by omega), if_pos (by omega)]) | (rw [if_pos (by omega), if_neg (by omega)]) | (rw [if_neg (by omega), if_pos (by omega)]) | (rw [if_neg (by omega), if_neg (by omega)]))) (by omega)
          · refine am_E.go (t2 := (47, [vI n, vI t, vR a, vI (am_w (lf + 0)), vI is, vI p, vI (c a p), v7], [vI (c a p)], aq_h m s F c)) rfl rfl ?_
            refine am_E.go (t2 := (49, [vI n, vI t, vR a, vI (am_w (lf + 0)), vI is, vI p, vI (c a p), v7], [vI p, vI (c a p)], aq_h m s F c)) rfl rfl ?_
            refine ae_icmp rfl (fun (q_11 : (c a p) = p) => ?_) (fun (q_11 : (c a p) ≠ p) => ?_)
            · refine am_E.go (t2 := (66, [vI n, vI t, vR a, vI (am_w (lf + 0)), vI is, vI p, vI (c a p), v7], [vI 0], aq_h m s F c)) rfl rfl ?_
              refine am_E.go (t2 := (68, [vI n, vI t, vR a, vI (am_w (lf + 0)), vI 0, vI p, vI (c a p), v7], [], aq_h m s F c)) rfl rfl ?_
              refine am_E.go (t2 := (69, [vI n, vI t, vR a, vI (am_w (lf + 0)), vI 0, vI p, vI (c a p), v7], [vI 0], aq_h m s F c)) rfl rfl ?_
              refine am_E.go (t2 := (71, [vI n, vI t, vR a, vI (am_w (lf + 0)), vI 0, vI p, vI (c a p), vI 0], [], aq_h m s F c)) rfl rfl ?_
              refine qm_isHalf_in ha hFa hn1 hn4 hr 6 (am_w (lf + 0)) 0 p (c a p) 0 (by omega) (by omega) rfl (by omega) ?_
              · intro is2_71 r2_71 ht_71
                refine ae_iinc rfl rfl (am_ri (by omega) (by omega)) ?_
                show am_E _ (136, [vI n, vI t, vR a, vI (am_w (lf + 0)), vI is2_71, vI (p + 1), vI (c a p), vI r2_71], [], aq_h m s F c) _
                refine am_E.go (t2 := (8, [vI n, vI t, vR a, vI (am_w (lf + 0)), vI is2_71, vI (p + 1), vI (c a p), vI r2_71], [], aq_h m s F c)) rfl rfl ?_
                exact qm_isHalf_out ha hFa hn1 hn4 hr d (am_w (lf + 0)) is2_71 (p + 1) (vI (c a p)) (vI r2_71) (by omega) (by omega) (by first | (exfalso; omega) | (rw [← ho, hf_o, if_pos (by omega), if_neg (by omega), ht_71]; first | (rw [if_pos (by omega), if_pos (by omega)]) | (rw [if_pos (by omega), if_neg (by omega)]) | (rw [if_neg (by omega), if_pos (by omega)]) | (rw [if_neg (by omega), if_neg (by omega)]))) (by omega)
            · refine am_E.go (t2 := (53, [vI n, vI t, vR a, vI (am_w (lf + 0)), vI is, vI p, vI (c a p), v7], [vR a], aq_h m s F c)) rfl rfl ?_
              refine am_E.go (t2 := (55, [vI n, vI t, vR a, vI (am_w (lf + 0)), vI is, vI p, vI (c a p), v7], [vI (c a p), vR a], aq_h m s F c)) rfl rfl ?_
              refine aq_al (ok := fun k => k == 0) (v := vI (c a (c a p))) rfl rfl ha hFa rfl (by omega) (by omega) rfl ?_
              show am_E _ (56, [vI n, vI t, vR a, vI (am_w (lf + 0)), vI is, vI p, vI (c a p), v7], [vI (c a (c a p))], aq_h m s F c) _
              have f_13 := hr (c a p) (by omega) (by omega)
              refine am_E.go (t2 := (58, [vI n, vI t, vR a, vI (am_w (lf + 0)), vI is, vI p, vI (c a p), v7], [vI p, vI (c a (c a p))], aq_h m s F c)) rfl rfl ?_
              refine ae_icmp rfl (fun (q_14 : (c a (c a p)) ≠ p) => ?_) (fun (q_14 : (c a (c a p)) = p) => ?_)
              · refine am_E.go (t2 := (66, [vI n, vI t, vR a, vI (am_w (lf + 0)), vI is, vI p, vI (c a p), v7], [vI 0], aq_h m s F c)) rfl rfl ?_
                refine am_E.go (t2 := (68, [vI n, vI t, vR a, vI (am_w (lf + 0)), vI 0, vI p, vI (c a p), v7], [], aq_h m s F c)) rfl rfl ?_
                refine am_E.go (t2 := (69, [vI n, vI t, vR a, vI (am_w (lf + 0)), vI 0, vI p, vI (c a p), v7], [vI 0], aq_h m s F c)) rfl rfl ?_
                refine am_E.go (t2 := (71, [vI n, vI t, vR a, vI (am_w (lf + 0)), vI 0, vI p, vI (c a p), vI 0], [], aq_h m s F c)) rfl rfl ?_
                refine qm_isHalf_in ha hFa hn1 hn4 hr 6 (am_w (lf + 0)) 0 p (c a p) 0 (by omega) (by omega) rfl (by omega) ?_
                · intro is2_71 r2_71 ht_71
                  refine ae_iinc rfl rfl (am_ri (by omega) (by omega)) ?_
                  show am_E _ (136, [vI n, vI t, vR a, vI (am_w (lf + 0)), vI is2_71, vI (p + 1), vI (c a p), vI r2_71], [], aq_h m s F c) _
                  refine am_E.go (t2 := (8, [vI n, vI t, vR a, vI (am_w (lf + 0)), vI is2_71, vI (p + 1), vI (c a p), vI r2_71], [], aq_h m s F c)) rfl rfl ?_
                  exact qm_isHalf_out ha hFa hn1 hn4 hr d (am_w (lf + 0)) is2_71 (p + 1) (vI (c a p)) (vI r2_71) (by omega) (by omega) (by first | (exfalso; omega) | (rw [← ho, hf_o, if_pos (by omega), if_neg (by omega), ht_71]; first | (rw [if_pos (by omega), if_pos (by omega)]) | (rw [if_pos (by omega), if_neg (by omega)]) | (rw [if_neg (by omega), if_pos (by omega)]) | (rw [if_neg (by omega), if_neg (by omega)]))) (by omega)
              · refine am_E.go (t2 := (62, [vI n, vI t, vR a, vI (am_w (lf + 0)), vI is, vI p, vI (c a p), v7], [vI 1], aq_h m s F c)) rfl rfl ?_
                refine am_E.go (t2 := (66, [vI n, vI t, vR a, vI (am_w (lf + 0)), vI is, vI p, vI (c a p), v7], [vI 1], aq_h m s F c)) rfl rfl ?_
                refine am_E.go (t2 := (68, [vI n, vI t, vR a, vI (am_w (lf + 0)), vI 1, vI p, vI (c a p), v7], [], aq_h m s F c)) rfl rfl ?_
                refine am_E.go (t2 := (69, [vI n, vI t, vR a, vI (am_w (lf + 0)), vI 1, vI p, vI (c a p), v7], [vI 0], aq_h m s F c)) rfl rfl ?_
                refine am_E.go (t2 := (71, [vI n, vI t, vR a, vI (am_w (lf + 0)), vI 1, vI p, vI (c a p), vI 0], [], aq_h m s F c)) rfl rfl ?_
                refine qm_isHalf_in ha hFa hn1 hn4 hr 6 (am_w (lf + 0)) 1 p (c a p) 0 (by omega) (by omega) rfl (by omega) ?_
                · intro is2_71 r2_71 ht_71
                  refine ae_iinc rfl rfl (am_ri (by omega) (by omega)) ?_
                  show am_E _ (136, [vI n, vI t, vR a, vI (am_w (lf + 0)), vI is2_71, vI (p + 1), vI (c a p), vI r2_71], [], aq_h m s F c) _
                  refine am_E.go (t2 := (8, [vI n, vI t, vR a, vI (am_w (lf + 0)), vI is2_71, vI (p + 1), vI (c a p), vI r2_71], [], aq_h m s F c)) rfl rfl ?_
                  exact qm_isHalf_out ha hFa hn1 hn4 hr d (am_w (lf + 0)) is2_71 (p + 1) (vI (c a p)) (vI r2_71) (by omega) (by omega) (by first | (exfalso; omega) | (rw [← ho, hf_o, if_pos (by omega), if_neg (by omega), ht_71]; first | (rw [if_pos (by omega), if_pos (by omega)]) | (rw [if_pos (by omega), if_neg (by omega)]) | (rw [if_neg (by omega), if_pos (by omega)]) | (rw [if_neg (by omega), if_neg (by omega)]))) (by omega)
        · refine am_E.go (t2 := (33, [vI n, vI t, vR a, vI lf, vI is, vI p, vI (c a p), v7], [vI 1, vI lf], aq_h m s F c)) rfl rfl ?_
          refine am_E.go (t2 := (37, [vI n, vI t, vR a, vI lf, vI is, vI p, vI (c a p), v7], [vI 1, vI lf], aq_h m s F c)) rfl rfl ?_
          refine am_E.go (t2 := (38, [vI n, vI t, vR a, vI lf, vI is, vI p, vI (c a p), v7], [vI (am_w (lf + 1))], aq_h m s F c)) rfl rfl ?_
          refine am_E.go (t2 := (39, [vI n, vI t, vR a, vI (am_w (lf + 1)), vI is, vI p, vI (c a p), v7], [], aq_h m s F c)) rfl rfl ?_
          refine am_E.go (t2 := (41, [vI n, vI t, vR a, vI (am_w (lf + 1)), vI is, vI p, vI (c a p), v7], [vI (c a p)], aq_h m s F c)) rfl rfl ?_
          refine am_E.go (t2 := (42, [vI n, vI t, vR a, vI (am_w (lf + 1)), vI is, vI p, vI (c a p), v7], [vI n, vI (c a p)], aq_h m s F c)) rfl rfl ?_
          refine ae_icmp rfl (fun (q_17 : (c a p) = n) => ?_) (fun (q_17 : (c a p) ≠ n) => ?_)
          · refine am_E.go (t2 := (62, [vI n, vI t, vR a, vI (am_w (lf + 1)), vI is, vI p, vI (c a p), v7], [vI 1], aq_h m s F c)) rfl rfl ?_
            refine am_E.go (t2 := (66, [vI n, vI t, vR a, vI (am_w (lf + 1)), vI is, vI p, vI (c a p), v7], [vI 1], aq_h m s F c)) rfl rfl ?_
            refine am_E.go (t2 := (68, [vI n, vI t, vR a, vI (am_w (lf + 1)), vI 1, vI p, vI (c a p), v7], [], aq_h m s F c)) rfl rfl ?_
            refine am_E.go (t2 := (69, [vI n, vI t, vR a, vI (am_w (lf + 1)), vI 1, vI p, vI (c a p), v7], [vI 0], aq_h m s F c)) rfl rfl ?_
            refine am_E.go (t2 := (71, [vI n, vI t, vR a, vI (am_w (lf + 1)), vI 1, vI p, vI (c a p), vI 0], [], aq_h m s F c)) rfl rfl ?_
            refine qm_isHalf_in ha hFa hn1 hn4 hr 6 (am_w (lf + 1)) 1 p (c a p) 0 (by omega) (by omega) rfl (by omega) ?_
            · intro is2_71 r2_71 ht_71
              refine ae_iinc rfl rfl (am_ri (by omega) (by omega)) ?_
              show am_E _ (136, [vI n, vI t, vR a, vI (am_w (lf + 1)), vI is2_71, vI (p + 1), vI (c a p), vI r2_71], [], aq_h m s F c) _
              refine am_E.go (t2 := (8, [vI n, vI t, vR a, vI (am_w (lf + 1)), vI is2_71, vI (p + 1), vI (c a p), vI r2_71], [], aq_h m s F c)) rfl rfl ?_
              exact qm_isHalf_out ha hFa hn1 hn4 hr d (am_w (lf + 1)) is2_71 (p + 1) (vI (c a p)) (vI r2_71) (by omega) (by omega) (by first | (exfalso; omega) | (rw [← ho, hf_o, if_pos (by omega), if_neg (by omega), ht_71]; first | (rw [if_pos (by omega), if_pos (by omega)]) | (rw [if_pos (by omega), if_neg (by omega)]) | (rw [if_neg (by omega), if_pos (by omega)]) | (rw [if_neg (by omega), if_neg (by omega)]))) (by omega)
          · refine am_E.go (t2 := (47, [vI n, vI t, vR a, vI (am_w (lf + 1)), vI is, vI p, vI (c a p), v7], [vI (c a p)], aq_h m s F c)) rfl rfl ?_
            refine am_E.go (t2 := (49, [vI n, vI t, vR a, vI (am_w (lf + 1)), vI is, vI p, vI (c a p), v7], [vI p, vI (c a p)], aq_h m s F c)) rfl rfl ?_
            refine ae_icmp rfl (fun (q_19 : (c a p) = p) => ?_) (fun (q_19 : (c a p) ≠ p) => ?_)
            · refine am_E.go (t2 := (66, [vI n, vI t, vR a, vI (am_w (lf + 1)), vI is, vI p, vI (c a p), v7], [vI 0], aq_h m s F c)) rfl rfl ?_
              refine am_E.go (t2 := (68, [vI n, vI t, vR a, vI (am_w (lf + 1)), vI 0, vI p, vI (c a p), v7], [], aq_h m s F c)) rfl rfl ?_
              refine am_E.go (t2 := (69, [vI n, vI t, vR a, vI (am_w (lf + 1)), vI 0, vI p, vI (c a p), v7], [vI 0], aq_h m s F c)) rfl rfl ?_
              refine am_E.go (t2 := (71, [vI n, vI t, vR a, vI (am_w (lf + 1)), vI 0, vI p, vI (c a p), vI 0], [], aq_h m s F c)) rfl rfl ?_
              refine qm_isHalf_in ha hFa hn1 hn4 hr 6 (am_w (lf + 1)) 0 p (c a p) 0 (by omega) (by omega) rfl (by omega) ?_
              · intro is2_71 r2_71 ht_71
                refine ae_iinc rfl rfl (am_ri (by omega) (by omega)) ?_
                show am_E _ (136, [vI n, vI t, vR a, vI (am_w (lf + 1)), vI is2_71, vI (p + 1), vI (c a p), vI r2_71], [], aq_h m s F c) _
                refine am_E.go (t2 := (8, [vI n, vI t, vR a, vI (am_w (lf + 1)), vI is2_71, vI (p + 1), vI (c a p), vI r2_71], [], aq_h m s F c)) rfl rfl ?_
                exact qm_isHalf_out ha hFa hn1 hn4 hr d (am_w (lf + 1)) is2_71 (p + 1) (vI (c a p)) (vI r2_71) (by omega) (by omega) (by first | (exfalso; omega) | (rw [← ho, hf_o, if_pos (by omega), if_neg (by omega), ht_71]; first | (rw [if_pos (by omega), if_pos (by omega)]) | (rw [if_pos (by omega), if_neg (by omega)]) | (rw [if_neg (by omega), if_pos (by omega)]) | (rw [if_neg (by omega), if_neg (by omega)]))) (by omega)
            · refine am_E.go (t2 := (53, [vI n, vI t, vR a, vI (am_w (lf + 1)), vI is, vI p, vI (c a p), v7], [vR a], aq_h m s F c)) rfl rfl ?_
              refine am_E.go (t2 := (55, [vI n, vI t, vR a, vI (am_w (lf + 1)), vI is, vI p, vI (c a p), v7], [vI (c a p), vR a], aq_h m s F c)) rfl rfl ?_
              refine aq_al (ok := fun k => k == 0) (v := vI (c a (c a p))) rfl rfl ha hFa rfl (by omega) (by omega) rfl ?_
              show am_E _ (56, [vI n, vI t, vR a, vI (am_w (lf + 1)), vI is, vI p, vI (c a p), v7], [vI (c a (c a p))], aq_h m s F c) _
              have f_21 := hr (c a p) (by omega) (by omega)
              refine am_E.go (t2 := (58, [vI n, vI t, vR a, vI (am_w (lf + 1)), vI is, vI p, vI (c a p), v7], [vI p, vI (c a (c a p))], aq_h m s F c)) rfl rfl ?_
              refine ae_icmp rfl (fun (q_22 : (c a (c a p)) ≠ p) => ?_) (fun (q_22 : (c a (c a p)) = p) => ?_)
              · refine am_E.go (t2 := (66, [vI n, vI t, vR a, vI (am_w (lf + 1)), vI is, vI p, vI (c a p), v7], [vI 0], aq_h m s F c)) rfl rfl ?_
                refine am_E.go (t2 := (68, [vI n, vI t, vR a, vI (am_w (lf + 1)), vI 0, vI p, vI (c a p), v7], [], aq_h m s F c)) rfl rfl ?_
                refine am_E.go (t2 := (69, [vI n, vI t, vR a, vI (am_w (lf + 1)), vI 0, vI p, vI (c a p), v7], [vI 0], aq_h m s F c)) rfl rfl ?_
                refine am_E.go (t2 := (71, [vI n, vI t, vR a, vI (am_w (lf + 1)), vI 0, vI p, vI (c a p), vI 0], [], aq_h m s F c)) rfl rfl ?_
                refine qm_isHalf_in ha hFa hn1 hn4 hr 6 (am_w (lf + 1)) 0 p (c a p) 0 (by omega) (by omega) rfl (by omega) ?_
                · intro is2_71 r2_71 ht_71
                  refine ae_iinc rfl rfl (am_ri (by omega) (by omega)) ?_
                  show am_E _ (136, [vI n, vI t, vR a, vI (am_w (lf + 1)), vI is2_71, vI (p + 1), vI (c a p), vI r2_71], [], aq_h m s F c) _
                  refine am_E.go (t2 := (8, [vI n, vI t, vR a, vI (am_w (lf + 1)), vI is2_71, vI (p + 1), vI (c a p), vI r2_71], [], aq_h m s F c)) rfl rfl ?_
                  exact qm_isHalf_out ha hFa hn1 hn4 hr d (am_w (lf + 1)) is2_71 (p + 1) (vI (c a p)) (vI r2_71) (by omega) (by omega) (by first | (exfalso; omega) | (rw [← ho, hf_o, if_pos (by omega), if_neg (by omega), ht_71]; first | (rw [if_pos (by omega), if_pos (by omega)]) | (rw [if_pos (by omega), if_neg (by omega)]) | (rw [if_neg (by omega), if_pos (by omega)]) | (rw [if_neg (by omega), if_neg (by omega)]))) (by omega)
              · refine am_E.go (t2 := (62, [vI n, vI t, vR a, vI (am_w (lf + 1)), vI is, vI p, vI (c a p), v7], [vI 1], aq_h m s F c)) rfl rfl ?_
                refine am_E.go (t2 := (66, [vI n, vI t, vR a, vI (am_w (lf + 1)), vI is, vI p, vI (c a p), v7], [vI 1], aq_h m s F c)) rfl rfl ?_
                refine am_E.go (t2 := (68, [vI n, vI t, vR a, vI (am_w (lf + 1)), vI 1, vI p, vI (c a p), v7], [], aq_h m s F c)) rfl rfl ?_
                refine am_E.go (t2 := (69, [vI n, vI t, vR a, vI (am_w (lf + 1)), vI 1, vI p, vI (c a p), v7], [vI 0], aq_h m s F c)) rfl rfl ?_
                refine am_E.go (t2 := (71, [vI n, vI t, vR a, vI (am_w (lf + 1)), vI 1, vI p, vI (c a p), vI 0], [], aq_h m s F c)) rfl rfl ?_
                refine qm_isHalf_in ha hFa hn1 hn4 hr 6 (am_w (lf + 1)) 1 p (c a p) 0 (by omega) (by omega) rfl (by omega) ?_
                · intro is2_71 r2_71 ht_71
                  refine ae_iinc rfl rfl (am_ri (by omega) (by omega)) ?_
                  show am_E _ (136, [vI n, vI t, vR a, vI (am_w (lf + 1)), vI is2_71, vI (p + 1), vI (c a p), vI r2_71], [], aq_h m s F c) _
                  refine am_E.go (t2 := (8, [vI n, vI t, vR a, vI (am_w (lf + 1)), vI is2_71, vI (p + 1), vI (c a p), vI r2_71], [], aq_h m s F c)) rfl rfl ?_
                  exact qm_isHalf_out ha hFa hn1 hn4 hr d (am_w (lf + 1)) is2_71 (p + 1) (vI (c a p)) (vI r2_71) (by omega) (by omega) (by first | (exfalso; omega) | (rw [← ho, hf_o, if_pos (by omega), if_neg (by omega), ht_71]; first | (rw [if_pos (by omega), if_pos (by omega)]) | (rw [if_pos (by omega), if_neg (by omega)]) | (rw [if_neg (by omega), if_pos (by omega)]) | (rw [if_neg (by omega), if_neg (by omega)]))) (by omega)

theorem qm_isHalf {m s : Nat} {F : aq_F} {c : aq_C} {a : Nat} (ha : a < m) (hFa : F a = (0, 4, fun _ => .inl 0)) {n t : Int} (hn1 : 1 ≤ n) (hn4 : n ≤ 4) (hr : aq_rg a n 0 (n + 1) c) : am_E ac_X5_isHalf (0, [vI n, vI t, vR a, vU, vU, vU, vU, vU], [], aq_h m s F c) (aq_P m s F c (fun r => r = some (vI (hf_o n t (c a) 6 0 0 1)))) := by
  refine am_E.go (t2 := (1, [vI n, vI t, vR a, vU, vU, vU, vU, vU], [vI 0], aq_h m s F c)) rfl rfl ?_
  refine am_E.go (t2 := (2, [vI n, vI t, vR a, vI 0, vU, vU, vU, vU], [], aq_h m s F c)) rfl rfl ?_
  refine am_E.go (t2 := (3, [vI n, vI t, vR a, vI 0, vU, vU, vU, vU], [vI 1], aq_h m s F c)) rfl rfl ?_
  refine am_E.go (t2 := (5, [vI n, vI t, vR a, vI 0, vI 1, vU, vU, vU], [], aq_h m s F c)) rfl rfl ?_
  refine am_E.go (t2 := (6, [vI n, vI t, vR a, vI 0, vI 1, vU, vU, vU], [vI 0], aq_h m s F c)) rfl rfl ?_
  refine am_E.go (t2 := (8, [vI n, vI t, vR a, vI 0, vI 1, vI 0, vU, vU], [], aq_h m s F c)) rfl rfl ?_
  exact qm_isHalf_out ha hFa hn1 hn4 hr 6 0 1 0 (vU) (vU) (by omega) (by omega) rfl (by omega)

theorem hf_ic {n p q : Int} {f g : Int → Int} (h : ∀ i, 0 ≤ i → i < n → f i = g i) : ∀ (d : Nat) (r is : Int), 0 ≤ r → hf_i n p q f d r is = hf_i n p q g d r is
  | 0, _, _, _ => rfl
  | d + 1, r, is, hr => by
    rw [hf_i, hf_i]
    by_cases e : r < n
    · rw [if_pos e, if_pos e, h r hr e]
      by_cases e2 : is = 0
      · rw [if_pos e2, if_pos e2]
      · rw [if_neg e2, if_neg e2]
        exact hf_ic h d (r + 1) _ (by omega)
    · rw [if_neg e, if_neg e]
theorem hf_oc {n t : Int} {f g : Int → Int} (h : ∀ i, 0 ≤ i → i < n → f i = g i) (hr : ∀ i, 0 ≤ i → i < n → 0 ≤ f i ∧ f i ≤ n) : ∀ (d : Nat) (p l is : Int), 0 ≤ p → hf_o n t f d p l is = hf_o n t g d p l is
  | 0, _, _, _, _ => rfl
  | d + 1, p, l, is, hp => by
    rw [hf_o, hf_o]
    by_cases e : p < n
    · rw [if_pos e, if_pos e]
      by_cases e2 : is = 0
      · rw [if_pos e2, if_pos e2]
      · rw [if_neg e2, if_neg e2, hf_oc h hr d (p + 1) _ _ (by omega), hf_ic h 6 0 _ (by omega), ← h p hp e]
        by_cases e3 : f p = n
        · rw [if_pos (Or.inl e3), if_pos (Or.inl e3)]
        · have k := hr p hp e
          rw [← h (f p) k.1 (by omega)]
    · rw [if_neg e, if_neg e]
