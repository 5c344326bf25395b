
theorem qm_load_l {m s : Nat} {F : aq_F} {c0 : aq_C} {y : Nat} (hO : mo_0 m F y) {t : Int} (ht0 : 0 ≤ t) (ht1 : t < 8) (hu : mo_u y t c0) : ∀ (d : Nat) (k : Int) (c : aq_C) (hs : aq_sm (fun a => a = y ∨ a = y + 15 ∨ a = y + 16 ∨ a = y + 17) c0 c) (hz : c y 17 = c0 (y + 6) t) (hq : mo_q y c0 c) (h0 : 0 ≤ k) (h1 : k ≤ c0 (y + 6) t) (hv : ∀ j, 0 ≤ j → j < k → mo_v y (bx_K (c0 (y + 5) t)) c j) (hd : c0 (y + 6) t - k < (d : Int)), am_E ac_X5_load (12, [vR y, vI t, vI k], [], aq_h m s F c) (aq_Z m s F (fun a => a = y ∨ a = y + 15 ∨ a = y + 16 ∨ a = y + 17) c0 (fun r d => r = none ∧ mo_q y c0 d ∧ mo_R y (bx_K (c0 (y + 5) t)) d))
  | 0, k, c, hs, hz, hq, h0, h1, hv, hd => by exfalso; omega
  | d + 1, k, c, hs, hz, hq, h0, h1, hv, hd => by
    obtain ⟨hm, hFo, hG5, hG6, hG7, hG8, hG9, hG10, hG11, hG12, hG13, hG14, hG15, hG16, hG17, hG18, hG19, hG20, hG21, hG22, hG23⟩ := hO
    have hu3 := hu.2.2.1
    have hu4 := hu.2.2.2.1
    refine am_E.go (t2 := (13, [vR y, vI t, vI k], [vI k], aq_h m s F c)) rfl rfl ?_
    refine am_E.go (t2 := (14, [vR y, vI t, vI k], [vR y, vI k], aq_h m s F c)) rfl rfl ?_
    refine aq_gf (v := vI (c y 17)) rfl (by omega) hFo (by decide) rfl ?_
    show am_E _ (17, [vR y, vI t, vI k], [vI (c y 17), vI k], aq_h m s F c) _
    have f_1 := hz
    refine ae_icmp rfl (fun (q_2 : (c y 17) ≤ k) => ?_) (fun (q_2 : k < (c y 17)) => ?_)
    · refine am_E.ret rfl rfl ?_
      exact ⟨_, rfl, hs, rfl, hq, by omega, by omega, fun j h5 h6 => hv j h5 (by omega)⟩
    · refine am_E.go (t2 := (21, [vR y, vI t, vI k], [vR y], aq_h m s F c)) rfl rfl ?_
      refine aq_gf (v := vR (y + 15)) rfl (by omega) hFo (by decide) rfl ?_
      show am_E _ (24, [vR y, vI t, vI k], [vR (y + 15)], aq_h m s F c) _
      refine am_E.go (t2 := (25, [vR y, vI t, vI k], [vI k, vR (y + 15)], aq_h m s F c)) rfl rfl ?_
      refine am_E.go (t2 := (26, [vR y, vI t, vI k], [vR y, vI k, vR (y + 15)], aq_h m s F c)) rfl rfl ?_
      refine aq_gf (v := vR (y + 7)) rfl (by omega) hFo (by decide) rfl ?_
      show am_E _ (29, [vR y, vI t, vI k], [vR (y + 7), vI k, vR (y + 15)], aq_h m s F c) _
      refine am_E.go (t2 := (31, [vR y, vI t, vI k], [vI 40, vR (y + 7), vI k, vR (y + 15)], aq_h m s F c)) rfl rfl ?_
      refine am_E.go (t2 := (32, [vR y, vI t, vI k], [vI t, vI 40, vR (y + 7), vI k, vR (y + 15)], aq_h m s F c)) rfl rfl ?_
      refine ae_mul rfl (am_ri (by omega) (by omega)) ?_
      show am_E _ (33, [vR y, vI t, vI k], [vI (40 * t), vR (y + 7), vI k, vR (y + 15)], aq_h m s F c) _
      refine am_E.go (t2 := (34, [vR y, vI t, vI k], [vI k, vI (40 * t), vR (y + 7), vI k, vR (y + 15)], aq_h m s F c)) rfl rfl ?_
      refine ae_add rfl (am_ri (by omega) (by omega)) ?_
      show am_E _ (35, [vR y, vI t, vI k], [vI ((40 * t) + k), vR (y + 7), vI k, vR (y + 15)], aq_h m s F c) _
      refine aq_al (ok := fun k => k == 0) (v := vI (c (y + 7) ((40 * t) + k))) rfl rfl (by omega) hG7 rfl (by omega) (by omega) rfl ?_
      show am_E _ (36, [vR y, vI t, vI k], [vI (c (y + 7) ((40 * t) + k)), vI k, vR (y + 15)], aq_h m s F c) _
      refine aq_as (kd := 0) rfl rfl (by omega) hG15 (by omega) (by omega) rfl rfl ?_
      show am_E _ (37, [vR y, vI t, vI k], [], aq_h m s F (aq_u c (y + 15) k (c (y + 7) ((40 * t) + k)))) _
      generalize hdc_3 : aq_u c (y + 15) k (c (y + 7) ((40 * t) + k)) = c_3
      have sc_3 := aq_smu hs hdc_3 (Or.inr (Or.inl rfl))
      refine am_E.go (t2 := (38, [vR y, vI t, vI k], [vR y], aq_h m s F c_3)) rfl rfl ?_
      refine aq_gf (v := vR (y + 16)) rfl (by omega) hFo (by decide) rfl ?_
      show am_E _ (41, [vR y, vI t, vI k], [vR (y + 16)], aq_h m s F c_3) _
      refine am_E.go (t2 := (42, [vR y, vI t, vI k], [vI k, vR (y + 16)], aq_h m s F c_3)) rfl rfl ?_
      refine am_E.go (t2 := (43, [vR y, vI t, vI k], [vR y, vI k, vR (y + 16)], aq_h m s F c_3)) rfl rfl ?_
      refine aq_gf (v := vR (y + 8)) rfl (by omega) hFo (by decide) rfl ?_
      show am_E _ (46, [vR y, vI t, vI k], [vR (y + 8), vI k, vR (y + 16)], aq_h m s F c_3) _
      refine am_E.go (t2 := (48, [vR y, vI t, vI k], [vI 40, vR (y + 8), vI k, vR (y + 16)], aq_h m s F c_3)) rfl rfl ?_
      refine am_E.go (t2 := (49, [vR y, vI t, vI k], [vI t, vI 40, vR (y + 8), vI k, vR (y + 16)], aq_h m s F c_3)) rfl rfl ?_
      refine ae_mul rfl (am_ri (by omega) (by omega)) ?_
      show am_E _ (50, [vR y, vI t, vI k], [vI (40 * t), vR (y + 8), vI k, vR (y + 16)], aq_h m s F c_3) _
      refine am_E.go (t2 := (51, [vR y, vI t, vI k], [vI k, vI (40 * t), vR (y + 8), vI k, vR (y + 16)], aq_h m s F c_3)) rfl rfl ?_
      refine ae_add rfl (am_ri (by omega) (by omega)) ?_
      show am_E _ (52, [vR y, vI t, vI k], [vI ((40 * t) + k), vR (y + 8), vI k, vR (y + 16)], aq_h m s F c_3) _
      refine aq_al (ok := fun k => k == 0) (v := vI (c_3 (y + 8) ((40 * t) + k))) rfl rfl (by omega) hG8 rfl (by omega) (by omega) rfl ?_
      show am_E _ (53, [vR y, vI t, vI k], [vI (c_3 (y + 8) ((40 * t) + k)), vI k, vR (y + 16)], aq_h m s F c_3) _
      refine aq_as (kd := 0) rfl rfl (by omega) hG16 (by omega) (by omega) rfl rfl ?_
      show am_E _ (54, [vR y, vI t, vI k], [], aq_h m s F (aq_u c_3 (y + 16) k (c_3 (y + 8) ((40 * t) + k)))) _
      generalize hdc_4 : aq_u c_3 (y + 16) k (c_3 (y + 8) ((40 * t) + k)) = c_4
      have sc_4 := aq_smu sc_3 hdc_4 (Or.inr (Or.inr (Or.inl rfl)))
      refine am_E.go (t2 := (55, [vR y, vI t, vI k], [vR y], aq_h m s F c_4)) rfl rfl ?_
      refine aq_gf (v := vR (y + 17)) rfl (by omega) hFo (by decide) rfl ?_
      show am_E _ (58, [vR y, vI t, vI k], [vR (y + 17)], aq_h m s F c_4) _
      refine am_E.go (t2 := (59, [vR y, vI t, vI k], [vI k, vR (y + 17)], aq_h m s F c_4)) rfl rfl ?_
      refine am_E.go (t2 := (60, [vR y, vI t, vI k], [vR y, vI k, vR (y + 17)], aq_h m s F c_4)) rfl rfl ?_
      refine aq_gf (v := vR (y + 9)) rfl (by omega) hFo (by decide) rfl ?_
      show am_E _ (63, [vR y, vI t, vI k], [vR (y + 9), vI k, vR (y + 17)], aq_h m s F c_4) _
      refine am_E.go (t2 := (65, [vR y, vI t, vI k], [vI 40, vR (y + 9), vI k, vR (y + 17)], aq_h m s F c_4)) rfl rfl ?_
      refine am_E.go (t2 := (66, [vR y, vI t, vI k], [vI t, vI 40, vR (y + 9), vI k, vR (y + 17)], aq_h m s F c_4)) rfl rfl ?_
      refine ae_mul rfl (am_ri (by omega) (by omega)) ?_
      show am_E _ (67, [vR y, vI t, vI k], [vI (40 * t), vR (y + 9), vI k, vR (y + 17)], aq_h m s F c_4) _
      refine am_E.go (t2 := (68, [vR y, vI t, vI k], [vI k, vI (40 * t), vR (y + 9), vI k, vR (y + 17)], aq_h m s F c_4)) rfl rfl ?_
      refine ae_add rfl (am_ri (by omega) (by omega)) ?_
      show am_E _ (69, [vR y, vI t, vI k], [vI ((40 * t) + k), vR (y + 9), vI k, vR (y + 17)], aq_h m s F c_4) _
      refine aq_al (ok := fun k => k == 2) (v := vL (c_4 (y + 9) ((40 * t) + k))) rfl rfl (by omega) hG9 rfl (by omega) (by omega) rfl ?_
      show am_E _ (70, [vR y, vI t, vI k], [vL (c_4 (y + 9) ((40 * t) + k)), vI k, vR (y + 17)], aq_h m s F c_4) _
      refine aq_asl rfl rfl (by omega) hG17 (by omega) (by omega) rfl ?_
      show am_E _ (71, [vR y, vI t, vI k], [], aq_h m s F (aq_u c_4 (y + 17) k (c_4 (y + 9) ((40 * t) + k)))) _
      generalize hdc_5 : aq_u c_4 (y + 17) k (c_4 (y + 9) ((40 * t) + k)) = c_5
      have sc_5 := aq_smu sc_4 hdc_5 (Or.inr (Or.inr (Or.inr rfl)))
      refine ae_iinc rfl rfl (am_ri (by omega) (by omega)) ?_
      show am_E _ (74, [vR y, vI t, vI (k + 1)], [], aq_h m s F c_5) _
      refine am_E.go (t2 := (12, [vR y, vI t, vI (k + 1)], [], aq_h m s F c_5)) rfl rfl ?_
      exact qm_load_l ⟨hm, hFo, hG5, hG6, hG7, hG8, hG9, hG10, hG11, hG12, hG13, hG14, hG15, hG16, hG17, hG18, hG19, hG20, hG21, hG22, hG23⟩ ht0 ht1 hu d (k + 1) c_5 sc_5 (by rw [← hdc_5, aq_un (Or.inl (by omega)), ← hdc_4, aq_un (Or.inl (by omega)), ← hdc_3, aq_un (Or.inl (by omega))]; exact hz) (mo_qu (mo_qu (mo_qu hq hdc_3 (Or.inl (by omega))) hdc_4 (Or.inl (by omega))) hdc_5 (Or.inl (by omega))) (by omega) (by omega) (fun j h5 h6 => by
      by_cases e : j = k
      · subst e
        have u9 := hu.2.2.2.2 j h5 (by omega)
        refine ⟨?_, ?_, ?_, ?_, ?_⟩
        all_goals first | rw [← hdc_5, aq_un (Or.inl (by omega)), ← hdc_4, aq_un (Or.inl (by omega)), ← hdc_3, aq_us, hs _ (by omega)] | rw [← hdc_5, aq_us, ← hdc_4, aq_un (Or.inl (by omega)), ← hdc_3, aq_un (Or.inl (by omega)), hs _ (by omega)]
        all_goals omega
      · exact mo_vc (by rw [← hdc_5, aq_un (Or.inl (by omega)), ← hdc_4, aq_un (Or.inl (by omega)), ← hdc_3, aq_un (Or.inr e)]) (by rw [← hdc_5, aq_un (Or.inr e), ← hdc_4, aq_un (Or.inl (by omega)), ← hdc_3, aq_un (Or.inl (by omega))]) (hv j h5 (by omega))) (by omega)

theorem qm_load {m s : Nat} {F : aq_F} {c : aq_C} {y : Nat} (hO : mo_0 m F y) {t : Int} (ht0 : 0 ≤ t) (ht1 : t < 8) (hu : mo_u y t c) : am_E ac_X5_load (0, [vR y, vI t, vU], [], aq_h m s F c) (aq_Z m s F (fun a => a = y ∨ a = y + 15 ∨ a = y + 16 ∨ a = y + 17) c (fun r d => r = none ∧ mo_q y c d ∧ mo_R y (bx_K (c (y + 5) t)) d)) := by
  obtain ⟨hm, hFo, hG5, hG6, hG7, hG8, hG9, hG10, hG11, hG12, hG13, hG14, hG15, hG16, hG17, hG18, hG19, hG20, hG21, hG22, hG23⟩ := hO
  have hu3 := hu.2.2.1
  have hu4 := hu.2.2.2.1
  refine am_E.go (t2 := (1, [vR y, vI t, vU], [vR y], aq_h m s F c)) rfl rfl ?_
  refine am_E.go (t2 := (2, [vR y, vI t, vU], [vR y, vR y], aq_h m s F c)) rfl rfl ?_
  refine aq_gf (v := vR (y + 6)) rfl (by omega) hFo (by decide) rfl ?_
  show am_E _ (5, [vR y, vI t, vU], [vR (y + 6), vR y], aq_h m s F c) _
  refine am_E.go (t2 := (6, [vR y, vI t, vU], [vI t, vR (y + 6), vR y], aq_h m s F c)) rfl rfl ?_
  refine aq_al (ok := fun k => k == 0) (v := vI (c (y + 6) t)) rfl rfl (by omega) hG6 rfl (by omega) (by omega) rfl ?_
  show am_E _ (7, [vR y, vI t, vU], [vI (c (y + 6) t), vR y], aq_h m s F c) _
  refine aq_pf rfl (by omega) hFo (by decide) rfl rfl ?_
  show am_E _ (10, [vR y, vI t, vU], [], aq_h m s F (aq_u c y 17 (c (y + 6) t))) _
  generalize hdc_1 : aq_u c y 17 (c (y + 6) t) = c_1
  have sc_1 := aq_smu (aq_sm0 (c := c) (S := (fun a => a = y ∨ a = y + 15 ∨ a = y + 16 ∨ a = y + 17))) hdc_1 (Or.inl rfl)
  refine am_E.go (t2 := (11, [vR y, vI t, vU], [vI 0], aq_h m s F c_1)) rfl rfl ?_
  refine am_E.go (t2 := (12, [vR y, vI t, vI 0], [], aq_h m s F c_1)) rfl rfl ?_
  exact qm_load_l ⟨hm, hFo, hG5, hG6, hG7, hG8, hG9, hG10, hG11, hG12, hG13, hG14, hG15, hG16, hG17, hG18, hG19, hG20, hG21, hG22, hG23⟩ ht0 ht1 hu 41 0 c_1 sc_1 (by rw [← hdc_1, aq_us]) (mo_qu mo_q0 hdc_1 (Or.inr (by decide))) (by omega) (by omega) (fun j h5 h6 => absurd h6 (by omega)) (by omega)

theorem qm_store_l {m s : Nat} {F : aq_F} {c0 : aq_C} {y : Nat} (hO : mo_0 m F y) {t n : Int} (ht0 : 0 ≤ t) (ht1 : t < 8) (hn1 : 1 ≤ n) (hn4 : n ≤ 4) (hI : mo_I y c0) (hR : mo_R y (bx_K n) c0) : ∀ (d : Nat) (k : Int) (c : aq_C) (hs : aq_sm (fun a => y + 5 ≤ a ∧ a ≤ y + 9) c0 c) (h0 : 0 ≤ k) (h1 : k ≤ c0 y 17) (h5 : ∀ i, c (y + 5) i = if i = t then n else c0 (y + 5) i) (h6 : ∀ i, c (y + 6) i = if i = t then c0 y 17 else c0 (y + 6) i) (h7 : ∀ i, (∀ j, 0 ≤ j → j < 40 → i ≠ 40 * t + j) → c (y + 7) i = c0 (y + 7) i) (h9 : ∀ i, (∀ j, 0 ≤ j → j < 40 → i ≠ 40 * t + j) → c (y + 9) i = c0 (y + 9) i) (h7k : ∀ j, 0 ≤ j → j < k → c (y + 7) (40 * t + j) = c0 (y + 15) j) (h9k : ∀ j, 0 ≤ j → j < k → c (y + 9) (40 * t + j) = c0 (y + 17) j) (hd : c0 y 17 - k < (d : Int)), am_E ac_X5_store (19, [vR y, vI t, vI n, vI k], [], aq_h m s F c) (aq_Z m s F (fun a => y + 5 ≤ a ∧ a ≤ y + 9) c0 (fun r d => r = some (vI (c0 y 17)) ∧ mo_I y d))
  | 0, k, c, hs, h0, h1, h5, h6, h7, h9, h7k, h9k, hd => by exfalso; omega
  | d + 1, k, c, hs, h0, h1, h5, h6, h7, h9, h7k, h9k, hd => by
    obtain ⟨hm, hFo, hG5, hG6, hG7, hG8, hG9, hG10, hG11, hG12, hG13, hG14, hG15, hG16, hG17, hG18, hG19, hG20, hG21, hG22, hG23⟩ := hO
    have hR1 := hR.1
    have hR2 := hR.2.1
    refine am_E.go (t2 := (20, [vR y, vI t, vI n, vI k], [vI k], aq_h m s F c)) rfl rfl ?_
    refine am_E.go (t2 := (21, [vR y, vI t, vI n, vI k], [vR y, vI k], aq_h m s F c)) rfl rfl ?_
    refine aq_gf (v := vI (c y 17)) rfl (by omega) hFo (by decide) rfl ?_
    show am_E _ (24, [vR y, vI t, vI n, vI k], [vI (c y 17), vI k], aq_h m s F c) _
    have f_1 := hs y (by omega) 17
    refine ae_icmp rfl (fun (q_2 : (c y 17) ≤ k) => ?_) (fun (q_2 : k < (c y 17)) => ?_)
    · refine am_E.go (t2 := (85, [vR y, vI t, vI n, vI k], [vR y], aq_h m s F c)) rfl rfl ?_
      refine aq_gf (v := vI (c y 17)) rfl (by omega) hFo (by decide) rfl ?_
      show am_E _ (88, [vR y, vI t, vI n, vI k], [vI (c y 17)], aq_h m s F c) _
      have f_3 := hs y (by omega) 17
      refine am_E.ret rfl rfl ?_
      refine ⟨_, rfl, hs, by rw [hs y (by omega) 17], mo_Ist hI hR hn1 hn4 hs h5 h6 h7 h9 (fun j h8 h10 => h7k j h8 (by omega)) (fun j h8 h10 => h9k j h8 (by omega))⟩
    · refine am_E.go (t2 := (28, [vR y, vI t, vI n, vI k], [vR y], aq_h m s F c)) rfl rfl ?_
      refine aq_gf (v := vR (y + 7)) rfl (by omega) hFo (by decide) rfl ?_
      show am_E _ (31, [vR y, vI t, vI n, vI k], [vR (y + 7)], aq_h m s F c) _
      refine am_E.go (t2 := (33, [vR y, vI t, vI n, vI k], [vI 40, vR (y + 7)], aq_h m s F c)) rfl rfl ?_
      refine am_E.go (t2 := (34, [vR y, vI t, vI n, vI k], [vI t, vI 40, vR (y + 7)], aq_h m s F c)) rfl rfl ?_
      refine ae_mul rfl (am_ri (by omega) (by omega)) ?_
      show am_E _ (35, [vR y, vI t, vI n, vI k], [vI (40 * t), vR (y + 7)], aq_h m s F c) _
      refine am_E.go (t2 := (36, [vR y, vI t, vI n, vI k], [vI k, vI (40 * t), vR (y + 7)], aq_h m s F c)) rfl rfl ?_
      refine ae_add rfl (am_ri (by omega) (by omega)) ?_
      show am_E _ (37, [vR y, vI t, vI n, vI k], [vI ((40 * t) + k), vR (y + 7)], aq_h m s F c) _
      refine am_E.go (t2 := (38, [vR y, vI t, vI n, vI k], [vR y, vI ((40 * t) + k), vR (y + 7)], aq_h m s F c)) rfl rfl ?_
      refine aq_gf (v := vR (y + 15)) rfl (by omega) hFo (by decide) rfl ?_
      show am_E _ (41, [vR y, vI t, vI n, vI k], [vR (y + 15), vI ((40 * t) + k), vR (y + 7)], aq_h m s F c) _
      refine am_E.go (t2 := (42, [vR y, vI t, vI n, vI k], [vI k, vR (y + 15), vI ((40 * t) + k), vR (y + 7)], aq_h m s F c)) rfl rfl ?_
      refine aq_al (ok := fun k => k == 0) (v := vI (c (y + 15) k)) rfl rfl (by omega) hG15 rfl (by omega) (by omega) rfl ?_
      show am_E _ (43, [vR y, vI t, vI n, vI k], [vI (c (y + 15) k), vI ((40 * t) + k), vR (y + 7)], aq_h m s F c) _
      refine aq_as (kd := 0) rfl rfl (by omega) hG7 (by omega) (by omega) rfl rfl ?_
      show am_E _ (44, [vR y, vI t, vI n, vI k], [], aq_h m s F (aq_u c (y + 7) ((40 * t) + k) (c (y + 15) k))) _
      generalize hdc_4 : aq_u c (y + 7) ((40 * t) + k) (c (y + 15) k) = c_4
      have sc_4 := aq_smu hs hdc_4 (by omega)
      refine am_E.go (t2 := (45, [vR y, vI t, vI n, vI k], [vR y], aq_h m s F c_4)) rfl rfl ?_
      refine aq_gf (v := vR (y + 8)) rfl (by omega) hFo (by decide) rfl ?_
      show am_E _ (48, [vR y, vI t, vI n, vI k], [vR (y + 8)], aq_h m s F c_4) _
      refine am_E.go (t2 := (50, [vR y, vI t, vI n, vI k], [vI 40, vR (y + 8)], aq_h m s F c_4)) rfl rfl ?_
      refine am_E.go (t2 := (51, [vR y, vI t, vI n, vI k], [vI t, vI 40, vR (y + 8)], aq_h m s F c_4)) rfl rfl ?_
      refine ae_mul rfl (am_ri (by omega) (by omega)) ?_
      show am_E _ (52, [vR y, vI t, vI n, vI k], [vI (40 * t), vR (y + 8)], aq_h m s F c_4) _
      refine am_E.go (t2 := (53, [vR y, vI t, vI n, vI k], [vI k, vI (40 * t), vR (y + 8)], aq_h m s F c_4)) rfl rfl ?_
      refine ae_add rfl (am_ri (by omega) (by omega)) ?_
      show am_E _ (54, [vR y, vI t, vI n, vI k], [vI ((40 * t) + k), vR (y + 8)], aq_h m s F c_4) _
      refine am_E.go (t2 := (55, [vR y, vI t, vI n, vI k], [vR y, vI ((40 * t) + k), vR (y + 8)], aq_h m s F c_4)) rfl rfl ?_
      refine aq_gf (v := vR (y + 16)) rfl (by omega) hFo (by decide) rfl ?_
      show am_E _ (58, [vR y, vI t, vI n, vI k], [vR (y + 16), vI ((40 * t) + k), vR (y + 8)], aq_h m s F c_4) _
      refine am_E.go (t2 := (59, [vR y, vI t, vI n, vI k], [vI k, vR (y + 16), vI ((40 * t) + k), vR (y + 8)], aq_h m s F c_4)) rfl rfl ?_
      refine aq_al (ok := fun k => k == 0) (v := vI (c_4 (y + 16) k)) rfl rfl (by omega) hG16 rfl (by omega) (by omega) rfl ?_
      show am_E _ (60, [vR y, vI t, vI n, vI k], [vI (c_4 (y + 16) k), vI ((40 * t) + k), vR (y + 8)], aq_h m s F c_4) _
      refine aq_as (kd := 0) rfl rfl (by omega) hG8 (by omega) (by omega) rfl rfl ?_
      show am_E _ (61, [vR y, vI t, vI n, vI k], [], aq_h m s F (aq_u c_4 (y + 8) ((40 * t) + k) (c_4 (y + 16) k))) _
      generalize hdc_5 : aq_u c_4 (y + 8) ((40 * t) + k) (c_4 (y + 16) k) = c_5
      have sc_5 := aq_smu sc_4 hdc_5 (by omega)
      refine am_E.go (t2 := (62, [vR y, vI t, vI n, vI k], [vR y], aq_h m s F c_5)) rfl rfl ?_
      refine aq_gf (v := vR (y + 9)) rfl (by omega) hFo (by decide) rfl ?_
      show am_E _ (65, [vR y, vI t, vI n, vI k], [vR (y + 9)], aq_h m s F c_5) _
      refine am_E.go (t2 := (67, [vR y, vI t, vI n, vI k], [vI 40, vR (y + 9)], aq_h m s F c_5)) rfl rfl ?_
      refine am_E.go (t2 := (68, [vR y, vI t, vI n, vI k], [vI t, vI 40, vR (y + 9)], aq_h m s F c_5)) rfl rfl ?_
      refine ae_mul rfl (am_ri (by omega) (by omega)) ?_
      show am_E _ (69, [vR y, vI t, vI n, vI k], [vI (40 * t), vR (y + 9)], aq_h m s F c_5) _
      refine am_E.go (t2 := (70, [vR y, vI t, vI n, vI k], [vI k, vI (40 * t), vR (y + 9)], aq_h m s F c_5)) rfl rfl ?_
      refine ae_add rfl (am_ri (by omega) (by omega)) ?_
      show am_E _ (71, [vR y, vI t, vI n, vI k], [vI ((40 * t) + k), vR (y + 9)], aq_h m s F c_5) _
      refine am_E.go (t2 := (72, [vR y, vI t, vI n, vI k], [vR y, vI ((40 * t) + k), vR (y + 9)], aq_h m s F c_5)) rfl rfl ?_
      refine aq_gf (v := vR (y + 17)) rfl (by omega) hFo (by decide) rfl ?_
      show am_E _ (75, [vR y, vI t, vI n, vI k], [vR (y + 17), vI ((40 * t) + k), vR (y + 9)], aq_h m s F c_5) _
      refine am_E.go (t2 := (76, [vR y, vI t, vI n, vI k], [vI k, vR (y + 17), vI ((40 * t) + k), vR (y + 9)], aq_h m s F c_5)) rfl rfl ?_
      refine aq_al (ok := fun k => k == 2) (v := vL (c_5 (y + 17) k)) rfl rfl (by omega) hG17 rfl (by omega) (by omega) rfl ?_
      show am_E _ (77, [vR y, vI t, vI n, vI k], [vL (c_5 (y + 17) k), vI ((40 * t) + k), vR (y + 9)], aq_h m s F c_5) _
      refine aq_asl rfl rfl (by omega) hG9 (by omega) (by omega) rfl ?_
      show am_E _ (78, [vR y, vI t, vI n, vI k], [], aq_h m s F (aq_u c_5 (y + 9) ((40 * t) + k) (c_5 (y + 17) k))) _
      generalize hdc_6 : aq_u c_5 (y + 9) ((40 * t) + k) (c_5 (y + 17) k) = c_6
      have sc_6 := aq_smu sc_5 hdc_6 (by omega)
      refine ae_iinc rfl rfl (am_ri (by omega) (by omega)) ?_
      show am_E _ (81, [vR y, vI t, vI n, vI (k + 1)], [], aq_h m s F c_6) _
      refine am_E.go (t2 := (19, [vR y, vI t, vI n, vI (k + 1)], [], aq_h m s F c_6)) rfl rfl ?_
      exact qm_store_l ⟨hm, hFo, hG5, hG6, hG7, hG8, hG9, hG10, hG11, hG12, hG13, hG14, hG15, hG16, hG17, hG18, hG19, hG20, hG21, hG22, hG23⟩ ht0 ht1 hn1 hn4 hI hR d (k + 1) c_6 sc_6 (by omega) (by omega) (fun i => by rw [← hdc_6, aq_un (Or.inl (by omega)), ← hdc_5, aq_un (Or.inl (by omega)), ← hdc_4, aq_un (Or.inl (by omega))]; exact h5 i) (fun i => by rw [← hdc_6, aq_un (Or.inl (by omega)), ← hdc_5, aq_un (Or.inl (by omega)), ← hdc_4, aq_un (Or.inl (by omega))]; exact h6 i) (fun i hi => by rw [← hdc_6, aq_un (Or.inl (by omega)), ← hdc_5, aq_un (Or.inl (by omega)), ← hdc_4, aq_un (Or.inr (by have := hi k (by omega) (by omega); omega))]; exact h7 i hi) (fun i hi => by rw [← hdc_6, aq_un (Or.inr (by have := hi k (by omega) (by omega); omega)), ← hdc_5, aq_un (Or.inl (by omega)), ← hdc_4, aq_un (Or.inl (by omega))]; exact h9 i hi) (fun j h5 h6 => by by_cases e : j = k; (rw [e, ← hdc_6, aq_un (Or.inl (by omega)), ← hdc_5, aq_un (Or.inl (by omega)), ← hdc_4, aq_us, hs _ (by omega)]); rw [← hdc_6, aq_un (Or.inl (by omega)), ← hdc_5, aq_un (Or.inl (by omega)), ← hdc_4, aq_un (Or.inr (by omega))]; exact h7k j h5 (by omega)) (fun j h5 h6 => by by_cases e : j = k; (rw [e, ← hdc_6, aq_us, ← hdc_5, aq_un (Or.inl (by omega)), ← hdc_4, aq_un (Or.inl (by omega)), hs _ (by omega)]); rw [← hdc_6, aq_un (Or.inr (by omega)), ← hdc_5, aq_un (Or.inl (by omega)), ← hdc_4, aq_un (Or.inl (by omega))]; exact h9k j h5 (by omega)) (by omega)

theorem qm_store {m s : Nat} {F : aq_F} {c : aq_C} {y : Nat} (hO : mo_0 m F y) {t n : Int} (ht0 : 0 ≤ t) (ht1 : t < 8) (hn1 : 1 ≤ n) (hn4 : n ≤ 4) (hI : mo_I y c) (hR : mo_R y (bx_K n) c) : am_E ac_X5_store (0, [vR y, vI t, vI n, vU], [], aq_h m s F c) (aq_Z m s F (fun a => y + 5 ≤ a ∧ a ≤ y + 9) c (fun r d => r = some (vI (c y 17)) ∧ mo_I y d)) := by
  obtain ⟨hm, hFo, hG5, hG6, hG7, hG8, hG9, hG10, hG11, hG12, hG13, hG14, hG15, hG16, hG17, hG18, hG19, hG20, hG21, hG22, hG23⟩ := hO
  have hR1 := hR.1
  have hR2 := hR.2.1
  refine am_E.go (t2 := (1, [vR y, vI t, vI n, vU], [vR y], aq_h m s F c)) rfl rfl ?_
  refine aq_gf (v := vR (y + 5)) rfl (by omega) hFo (by decide) rfl ?_
  show am_E _ (4, [vR y, vI t, vI n, vU], [vR (y + 5)], aq_h m s F c) _
  refine am_E.go (t2 := (5, [vR y, vI t, vI n, vU], [vI t, vR (y + 5)], aq_h m s F c)) rfl rfl ?_
  refine am_E.go (t2 := (6, [vR y, vI t, vI n, vU], [vI n, vI t, vR (y + 5)], aq_h m s F c)) rfl rfl ?_
  refine aq_as (kd := 0) rfl rfl (by omega) hG5 (by omega) (by omega) rfl rfl ?_
  show am_E _ (7, [vR y, vI t, vI n, vU], [], aq_h m s F (aq_u c (y + 5) t n)) _
  generalize hdc_1 : aq_u c (y + 5) t n = c_1
  have sc_1 := aq_smu (aq_sm0 (c := c) (S := (fun a => y + 5 ≤ a ∧ a ≤ y + 9))) hdc_1 (by omega)
  refine am_E.go (t2 := (8, [vR y, vI t, vI n, vU], [vR y], aq_h m s F c_1)) rfl rfl ?_
  refine aq_gf (v := vR (y + 6)) rfl (by omega) hFo (by decide) rfl ?_
  show am_E _ (11, [vR y, vI t, vI n, vU], [vR (y + 6)], aq_h m s F c_1) _
  refine am_E.go (t2 := (12, [vR y, vI t, vI n, vU], [vI t, vR (y + 6)], aq_h m s F c_1)) rfl rfl ?_
  refine am_E.go (t2 := (13, [vR y, vI t, vI n, vU], [vR y, vI t, vR (y + 6)], aq_h m s F c_1)) rfl rfl ?_
  refine aq_gf (v := vI (c_1 y 17)) rfl (by omega) hFo (by decide) rfl ?_
  show am_E _ (16, [vR y, vI t, vI n, vU], [vI (c_1 y 17), vI t, vR (y + 6)], aq_h m s F c_1) _
  have f_2 := sc_1 y (by omega) 17
  refine aq_as (kd := 0) rfl rfl (by omega) hG6 (by omega) (by omega) rfl rfl ?_
  show am_E _ (17, [vR y, vI t, vI n, vU], [], aq_h m s F (aq_u c_1 (y + 6) t (c_1 y 17))) _
  generalize hdc_3 : aq_u c_1 (y + 6) t (c_1 y 17) = c_3
  have sc_3 := aq_smu sc_1 hdc_3 (by omega)
  refine am_E.go (t2 := (18, [vR y, vI t, vI n, vU], [vI 0], aq_h m s F c_3)) rfl rfl ?_
  refine am_E.go (t2 := (19, [vR y, vI t, vI n, vI 0], [], aq_h m s F c_3)) rfl rfl ?_
  exact qm_store_l ⟨hm, hFo, hG5, hG6, hG7, hG8, hG9, hG10, hG11, hG12, hG13, hG14, hG15, hG16, hG17, hG18, hG19, hG20, hG21, hG22, hG23⟩ ht0 ht1 hn1 hn4 hI hR 41 0 c_3 sc_3 (by omega) (by omega) (fun i => by rw [← hdc_3, aq_un (Or.inl (by omega)), ← hdc_1]; unfold aq_u; by_cases e : i = t; (rw [if_pos ⟨rfl, e⟩, if_pos e]); rw [if_neg (fun h => e h.2), if_neg e]) (fun i => by rw [← hdc_3]; unfold aq_u; by_cases e : i = t; (rw [if_pos ⟨rfl, e⟩, if_pos e, ← hdc_1, aq_un (Or.inl (by omega))]); rw [if_neg (fun h => e h.2), if_neg e, ← hdc_1, aq_un (Or.inl (by omega))]) (fun i _ => by rw [← hdc_3, aq_un (Or.inl (by omega)), ← hdc_1, aq_un (Or.inl (by omega))]) (fun i _ => by rw [← hdc_3, aq_un (Or.inl (by omega)), ← hdc_1, aq_un (Or.inl (by omega))]) (fun j _ h6 => absurd h6 (by omega)) (fun j _ h6 => absurd h6 (by omega)) (by omega)

theorem qm_X5_clear {m s : Nat} {F : aq_F} {c : aq_C} {y : Nat} (hC : mo_C m F y) (hI : mo_I y c) {t n : Int} : am_E ac_X5_clear (0, [vR y, vI t, vI n, vU, vU], [], aq_h m s F c) (aq_Z m s F (fun a => y ≤ a ∧ a < y + 24) c (fun r d => aq_vi r ∧ mo_I y d)) := by
  obtain ⟨⟨hm, hFo, hG5, hG6, hG7, hG8, hG9, hG10, hG11, hG12, hG13, hG14, hG15, hG16, hG17, hG18, hG19, hG20, hG21, hG22, hG23⟩, ⟨tbl, hT1, hTt⟩, ⟨tA, tB, tD, hL1, hL2, hL3, hLt⟩⟩ := hC
  refine am_E.go (t2 := (1, [vR y, vI t, vI n, vU, vU], [vI t], aq_h m s F c)) rfl rfl ?_
  refine am_E.call rfl rfl rfl (Nat.le_of_ble_eq_true rfl) (qm_isSum) ?_
  rintro r5 h5 ⟨rfl, v_1, rfl, hv_1⟩
  show am_E _ (4, [vR y, vI t, vI n, vU, vU], [vI v_1], aq_h m s F c) _
  refine ae_if0 rfl (fun (q_2 : v_1 = 0) => ?_) (fun (q_2 : v_1 ≠ 0) => ?_)
  · refine am_E.go (t2 := (15, [vR y, vI t, vI n, vU, vU], [vI (-1)], aq_h m s F c)) rfl rfl ?_
    refine am_E.ret rfl rfl ?_
    exact ⟨_, rfl, (aq_sm0 (c := c) (S := fun a => y ≤ a ∧ a < y + 24)), ⟨_, rfl⟩, hI⟩
  · refine am_E.go (t2 := (8, [vR y, vI t, vI n, vU, vU], [vI n], aq_h m s F c)) rfl rfl ?_
    refine am_E.call rfl rfl rfl (Nat.le_of_ble_eq_true rfl) (qm_isWide) ?_
    rintro r5 h5 ⟨rfl, v_3, rfl, hv_3⟩
    show am_E _ (11, [vR y, vI t, vI n, vU, vU], [vI v_3], aq_h m s F c) _
    refine ae_if0 rfl (fun (q_4 : v_3 ≠ 0) => ?_) (fun (q_4 : v_3 = 0) => ?_)
    · refine am_E.go (t2 := (17, [vR y, vI t, vI n, vU, vU], [vR y], aq_h m s F c)) rfl rfl ?_
      refine aq_gf (v := vR (y + 6)) rfl (by omega) hFo (by decide) rfl ?_
      show am_E _ (20, [vR y, vI t, vI n, vU, vU], [vR (y + 6)], aq_h m s F c) _
      refine am_E.go (t2 := (21, [vR y, vI t, vI n, vU, vU], [vI t, vR (y + 6)], aq_h m s F c)) rfl rfl ?_
      refine aq_al (ok := fun k => k == 0) (v := vI (c (y + 6) t)) rfl rfl (by omega) hG6 rfl (by omega) (by omega) rfl ?_
      show am_E _ (22, [vR y, vI t, vI n, vU, vU], [vI (c (y + 6) t)], aq_h m s F c) _
      refine am_E.go (t2 := (23, [vR y, vI t, vI n, vI (c (y + 6) t), vU], [], aq_h m s F c)) rfl rfl ?_
      refine am_E.go (t2 := (24, [vR y, vI t, vI n, vI (c (y + 6) t), vU], [vR y], aq_h m s F c)) rfl rfl ?_
      refine am_E.go (t2 := (25, [vR y, vI t, vI n, vI (c (y + 6) t), vU], [vI 0, vR y], aq_h m s F c)) rfl rfl ?_
      refine aq_pf rfl (by omega) hFo (by decide) rfl rfl ?_
      show am_E _ (28, [vR y, vI t, vI n, vI (c (y + 6) t), vU], [], aq_h m s F (aq_u c y 17 0)) _
      generalize hdc_5 : aq_u c y 17 0 = c_5
      have sc_5 := aq_smu (aq_sm0 (c := c) (S := fun a => y ≤ a ∧ a < y + 24)) hdc_5 (by omega)
      have hI_z : mo_I y c_5 := mo_Iq (S := fun a => a = y) hI (aq_smu aq_sm0 hdc_5 rfl) (mo_qu mo_q0 hdc_5 (Or.inr (by decide))) (by omega) (by omega) (by omega) (by omega) (by omega)
      have e_z : c_5 y 17 = 0 := by rw [← hdc_5, aq_us]
      have hR_z : mo_R y (bx_K n) c_5 := ⟨by omega, by omega, fun j h5 h6 => absurd h6 (by omega)⟩
      refine am_E.go (t2 := (29, [vR y, vI t, vI n, vI (c (y + 6) t), vU], [vR y], aq_h m s F c_5)) rfl rfl ?_
      refine am_E.go (t2 := (30, [vR y, vI t, vI n, vI (c (y + 6) t), vU], [vI t, vR y], aq_h m s F c_5)) rfl rfl ?_
      refine am_E.go (t2 := (31, [vR y, vI t, vI n, vI (c (y + 6) t), vU], [vI n, vI t, vR y], aq_h m s F c_5)) rfl rfl ?_
      refine aq_callv (y := 3) (as2 := [vI t, vI n]) (rest := []) rfl rfl (by decide) (Nat.le_of_ble_eq_true rfl) rfl rfl (Nat.le_of_ble_eq_true rfl) (by omega) hFo rfl (Nat.le_of_ble_eq_true rfl) (qm_store ⟨hm, hFo, hG5, hG6, hG7, hG8, hG9, hG10, hG11, hG12, hG13, hG14, hG15, hG16, hG17, hG18, hG19, hG20, hG21, hG22, hG23⟩ (by omega) (by omega) (by omega) (by omega) hI_z hR_z) ?_
      rintro r5 h5 ⟨c_b, rfl, s_b, rfl, hI_b⟩
      show am_E _ (34, [vR y, vI t, vI n, vI (c (y + 6) t), vU], [vI (c_5 y 17)], aq_h m s F c_b) _
      refine am_E.go (t2 := (36, [vR y, vI t, vI n, vI (c (y + 6) t), vI (c_5 y 17)], [], aq_h m s F c_b)) rfl rfl ?_
      refine am_E.go (t2 := (37, [vR y, vI t, vI n, vI (c (y + 6) t), vI (c_5 y 17)], [vI (c (y + 6) t)], aq_h m s F c_b)) rfl rfl ?_
      refine am_E.ret rfl rfl ?_
      exact ⟨_, rfl, (aq_smt sc_5 (aq_smi s_b (fun a h => by omega))), ⟨_, rfl⟩, hI_b⟩
    · refine am_E.go (t2 := (15, [vR y, vI t, vI n, vU, vU], [vI (-1)], aq_h m s F c)) rfl rfl ?_
      refine am_E.ret rfl rfl ?_
      exact ⟨_, rfl, (aq_sm0 (c := c) (S := fun a => y ≤ a ∧ a < y + 24)), ⟨_, rfl⟩, hI⟩

theorem qm_X5_add {m s : Nat} {F : aq_F} {c : aq_C} {y : Nat} (hC : mo_C m F y) (hI : mo_I y c) {t b p f : Int} : am_E ac_X5_add (0, [vR y, vI t, vI b, vI p, vL f, vU], [], aq_h m s F c) (aq_Z m s F (fun a => y ≤ a ∧ a < y + 24) c (fun r d => aq_vi r ∧ mo_I y d)) := by
  obtain ⟨⟨hm, hFo, hG5, hG6, hG7, hG8, hG9, hG10, hG11, hG12, hG13, hG14, hG15, hG16, hG17, hG18, hG19, hG20, hG21, hG22, hG23⟩, ⟨tbl, hT1, hTt⟩, ⟨tA, tB, tD, hL1, hL2, hL3, hLt⟩⟩ := hC
  refine am_E.go (t2 := (1, [vR y, vI t, vI b, vI p, vL f, vU], [vI t], aq_h m s F c)) rfl rfl ?_
  refine am_E.call rfl rfl rfl (Nat.le_of_ble_eq_true rfl) (qm_isSum) ?_
  rintro r5 h5 ⟨rfl, v_1, rfl, hv_1⟩
  show am_E _ (4, [vR y, vI t, vI b, vI p, vL f, vU], [vI v_1], aq_h m s F c) _
  refine ae_if0 rfl (fun (q_2 : v_1 = 0) => ?_) (fun (q_2 : v_1 ≠ 0) => ?_)
  · refine am_E.go (t2 := (47, [vR y, vI t, vI b, vI p, vL f, vU], [vI (-1)], aq_h m s F c)) rfl rfl ?_
    refine am_E.ret rfl rfl ?_
    exact ⟨_, rfl, (aq_sm0 (c := c) (S := fun a => y ≤ a ∧ a < y + 24)), ⟨_, rfl⟩, hI⟩
  · refine am_E.go (t2 := (8, [vR y, vI t, vI b, vI p, vL f, vU], [vR y], aq_h m s F c)) rfl rfl ?_
    refine aq_gf (v := vR (y + 5)) rfl (by omega) hFo (by decide) rfl ?_
    show am_E _ (11, [vR y, vI t, vI b, vI p, vL f, vU], [vR (y + 5)], aq_h m s F c) _
    refine am_E.go (t2 := (12, [vR y, vI t, vI b, vI p, vL f, vU], [vI t, vR (y + 5)], aq_h m s F c)) rfl rfl ?_
    refine aq_al (ok := fun k => k == 0) (v := vI (c (y + 5) t)) rfl rfl (by omega) hG5 rfl (by omega) (by omega) rfl ?_
    show am_E _ (13, [vR y, vI t, vI b, vI p, vL f, vU], [vI (c (y + 5) t)], aq_h m s F c) _
    obtain ⟨hu1t, hu2t, hu3t, hu4t, hu5t⟩ := hI.2 t (by omega) (by omega)
    refine am_E.go (t2 := (14, [vR y, vI t, vI b, vI p, vL f, vU], [vI b, vI (c (y + 5) t)], aq_h m s F c)) rfl rfl ?_
    refine am_E.call rfl rfl rfl (Nat.le_of_ble_eq_true rfl) (qm_isBox) ?_
    rintro r5 h5 ⟨rfl, v_4, rfl, hv_4⟩
    show am_E _ (17, [vR y, vI t, vI b, vI p, vL f, vU], [vI v_4], aq_h m s F c) _
    refine ae_if0 rfl (fun (q_5 : v_4 = 0) => ?_) (fun (q_5 : v_4 ≠ 0) => ?_)
    · refine am_E.go (t2 := (47, [vR y, vI t, vI b, vI p, vL f, vU], [vI (-1)], aq_h m s F c)) rfl rfl ?_
      refine am_E.ret rfl rfl ?_
      exact ⟨_, rfl, (aq_sm0 (c := c) (S := fun a => y ≤ a ∧ a < y + 24)), ⟨_, rfl⟩, hI⟩
    · refine am_E.go (t2 := (21, [vR y, vI t, vI b, vI p, vL f, vU], [vI p], aq_h m s F c)) rfl rfl ?_
      refine am_E.go (t2 := (22, [vR y, vI t, vI b, vI p, vL f, vU], [vL p], aq_h m s F c)) rfl rfl ?_
      refine am_E.go (t2 := (23, [vR y, vI t, vI b, vI p, vL f, vU], [vL 0, vL p], aq_h m s F c)) rfl rfl ?_
      refine am_E.go (t2 := (26, [vR y, vI t, vI b, vI p, vL f, vU], [vL 20, vL 0, vL p], aq_h m s F c)) rfl rfl ?_
      refine am_E.call rfl rfl rfl (Nat.le_of_ble_eq_true rfl) (qm_in) ?_
      rintro r5 h5 ⟨rfl, v_6, rfl, hv_6⟩
      show am_E _ (29, [vR y, vI t, vI b, vI p, vL f, vU], [vI v_6], aq_h m s F c) _
      refine ae_if0 rfl (fun (q_7 : v_6 = 0) => ?_) (fun (q_7 : v_6 ≠ 0) => ?_)
      · refine am_E.go (t2 := (47, [vR y, vI t, vI b, vI p, vL f, vU], [vI (-1)], aq_h m s F c)) rfl rfl ?_
        refine am_E.ret rfl rfl ?_
        exact ⟨_, rfl, (aq_sm0 (c := c) (S := fun a => y ≤ a ∧ a < y + 24)), ⟨_, rfl⟩, hI⟩
      · refine am_E.go (t2 := (34, [vR y, vI t, vI b, vI p, vL f, vU], [vL f], aq_h m s F c)) rfl rfl ?_
        refine am_E.go (t2 := (37, [vR y, vI t, vI b, vI p, vL f, vU], [vL (-1000000), vL f], aq_h m s F c)) rfl rfl ?_
        refine am_E.go (t2 := (40, [vR y, vI t, vI b, vI p, vL f, vU], [vL 1000000, vL (-1000000), vL f], aq_h m s F c)) rfl rfl ?_
        refine am_E.call rfl rfl rfl (Nat.le_of_ble_eq_true rfl) (qm_in) ?_
        rintro r5 h5 ⟨rfl, v_8, rfl, hv_8⟩
        show am_E _ (43, [vR y, vI t, vI b, vI p, vL f, vU], [vI v_8], aq_h m s F c) _
        refine ae_if0 rfl (fun (q_9 : v_8 ≠ 0) => ?_) (fun (q_9 : v_8 = 0) => ?_)
        · refine am_E.go (t2 := (49, [vR y, vI t, vI b, vI p, vL f, vU], [vR y], aq_h m s F c)) rfl rfl ?_
          refine am_E.go (t2 := (50, [vR y, vI t, vI b, vI p, vL f, vU], [vI t, vR y], aq_h m s F c)) rfl rfl ?_
          refine aq_callv (y := 2) (as2 := [vI t]) (rest := []) rfl rfl (by decide) (Nat.le_of_ble_eq_true rfl) rfl rfl (Nat.le_of_ble_eq_true rfl) (by omega) hFo rfl (Nat.le_of_ble_eq_true rfl) (qm_load ⟨hm, hFo, hG5, hG6, hG7, hG8, hG9, hG10, hG11, hG12, hG13, hG14, hG15, hG16, hG17, hG18, hG19, hG20, hG21, hG22, hG23⟩ (by omega) (by omega) (hI.2 _ (by omega) (by omega))) ?_
          rintro r5 h5 ⟨c_l, rfl, s_l, rfl, q_l, R_l⟩
          show am_E _ (53, [vR y, vI t, vI b, vI p, vL f, vU], [], aq_h m s F c_l) _
          refine am_E.go (t2 := (54, [vR y, vI t, vI b, vI p, vL f, vU], [vR y], aq_h m s F c_l)) rfl rfl ?_
          refine am_E.go (t2 := (55, [vR y, vI t, vI b, vI p, vL f, vU], [vI b, vR y], aq_h m s F c_l)) rfl rfl ?_
          refine am_E.go (t2 := (56, [vR y, vI t, vI b, vI p, vL f, vU], [vI p, vI b, vR y], aq_h m s F c_l)) rfl rfl ?_
          refine am_E.go (t2 := (58, [vR y, vI t, vI b, vI p, vL f, vU], [vL f, vI p, vI b, vR y], aq_h m s F c_l)) rfl rfl ?_
          refine aq_callv (y := 4) (as2 := [vI b, vI p, vL f]) (rest := []) rfl rfl (by decide) (Nat.le_of_ble_eq_true rfl) rfl rfl (Nat.le_of_ble_eq_true rfl) (by omega) hFo rfl (Nat.le_of_ble_eq_true rfl) (qm_comes ⟨hm, hFo, hG5, hG6, hG7, hG8, hG9, hG10, hG11, hG12, hG13, hG14, hG15, hG16, hG17, hG18, hG19, hG20, hG21, hG22, hG23⟩ (K := bx_K (c (y + 5) t)) (by omega) (by omega) R_l) ?_
          rintro r5 h5 ⟨c_k, rfl, s_k, v_k, rfl, hv_k, q_k, R_k⟩
          show am_E _ (61, [vR y, vI t, vI b, vI p, vL f, vU], [vI v_k], aq_h m s F c_k) _
          refine ae_if0 rfl (fun (q_10 : v_k = 0) => ?_) (fun (q_10 : v_k ≠ 0) => ?_)
          · refine am_E.go (t2 := (80, [vR y, vI t, vI b, vI p, vL f, vU], [vI (-5)], aq_h m s F c_k)) rfl rfl ?_
            refine am_E.ret rfl rfl ?_
            exact ⟨_, rfl, (aq_smt (aq_smt (aq_sm0 (c := c) (S := fun a => y ≤ a ∧ a < y + 24)) (aq_smi s_l (fun a h => by omega))) (aq_smi s_k (fun a h => by omega))), ⟨_, rfl⟩, mo_Iw hI (aq_smt (aq_smi s_l (fun a h => mo_S3 h)) (aq_smi s_k (fun a h => mo_S3 h))) (mo_qt q_l q_k)⟩
          · refine am_E.go (t2 := (65, [vR y, vI t, vI b, vI p, vL f, vU], [vR y], aq_h m s F c_k)) rfl rfl ?_
            refine am_E.go (t2 := (66, [vR y, vI t, vI b, vI p, vL f, vU], [vI t, vR y], aq_h m s F c_k)) rfl rfl ?_
            refine am_E.go (t2 := (67, [vR y, vI t, vI b, vI p, vL f, vU], [vR y, vI t, vR y], aq_h m s F c_k)) rfl rfl ?_
            refine aq_gf (v := vR (y + 5)) rfl (by omega) hFo (by decide) rfl ?_
            show am_E _ (70, [vR y, vI t, vI b, vI p, vL f, vU], [vR (y + 5), vI t, vR y], aq_h m s F c_k) _
            refine am_E.go (t2 := (71, [vR y, vI t, vI b, vI p, vL f, vU], [vI t, vR (y + 5), vI t, vR y], aq_h m s F c_k)) rfl rfl ?_
            refine aq_al (ok := fun k => k == 0) (v := vI (c_k (y + 5) t)) rfl rfl (by omega) hG5 rfl (by omega) (by omega) rfl ?_
            show am_E _ (72, [vR y, vI t, vI b, vI p, vL f, vU], [vI (c_k (y + 5) t), vI t, vR y], aq_h m s F c_k) _
            have e_5 : c_k (y + 5) t = c (y + 5) t := by rw [s_k _ (by omega), s_l _ (by omega)]
            have hI_k := mo_Iw hI (aq_smt (aq_smi s_l (fun a h => mo_S3 h)) (aq_smi s_k (fun a h => mo_S3 h))) (mo_qt q_l q_k)
            refine aq_callv (y := 3) (as2 := [vI t, vI (c_k (y + 5) t)]) (rest := []) rfl rfl (by decide) (Nat.le_of_ble_eq_true rfl) rfl rfl (Nat.le_of_ble_eq_true rfl) (by omega) hFo rfl (Nat.le_of_ble_eq_true rfl) (qm_store ⟨hm, hFo, hG5, hG6, hG7, hG8, hG9, hG10, hG11, hG12, hG13, hG14, hG15, hG16, hG17, hG18, hG19, hG20, hG21, hG22, hG23⟩ (by omega) (by omega) (by omega) (by omega) hI_k (by rw [e_5]; exact R_k (by omega))) ?_
            rintro r5 h5 ⟨c_b, rfl, s_b, rfl, hI_b⟩
            show am_E _ (75, [vR y, vI t, vI b, vI p, vL f, vU], [vI (c_k y 17)], aq_h m s F c_b) _
            refine am_E.go (t2 := (80, [vR y, vI t, vI b, vI p, vL f, vU], [vI (c_k y 17)], aq_h m s F c_b)) rfl rfl ?_
            refine am_E.ret rfl rfl ?_
            exact ⟨_, rfl, (aq_smt (aq_smt (aq_smt (aq_sm0 (c := c) (S := fun a => y ≤ a ∧ a < y + 24)) (aq_smi s_l (fun a h => by omega))) (aq_smi s_k (fun a h => by omega))) (aq_smi s_b (fun a h => by omega))), ⟨_, rfl⟩, hI_b⟩
        · refine am_E.go (t2 := (47, [vR y, vI t, vI b, vI p, vL f, vU], [vI (-1)], aq_h m s F c)) rfl rfl ?_
          refine am_E.ret rfl rfl ?_
          exact ⟨_, rfl, (aq_sm0 (c := c) (S := fun a => y ≤ a ∧ a < y + 24)), ⟨_, rfl⟩, hI⟩

theorem qm_X5_sum {m s : Nat} {F : aq_F} {c : aq_C} {y : Nat} (hC : mo_C m F y) (hI : mo_I y c) {t w : Int} : am_E ac_X5_sum (0, [vR y, vI t, vI w], [], aq_h m s F c) (aq_Z m s F (fun a => y ≤ a ∧ a < y + 24) c (fun r d => aq_vi r ∧ mo_I y d)) := by
  obtain ⟨⟨hm, hFo, hG5, hG6, hG7, hG8, hG9, hG10, hG11, hG12, hG13, hG14, hG15, hG16, hG17, hG18, hG19, hG20, hG21, hG22, hG23⟩, ⟨tbl, hT1, hTt⟩, ⟨tA, tB, tD, hL1, hL2, hL3, hLt⟩⟩ := hC
  refine am_E.go (t2 := (1, [vR y, vI t, vI w], [vI t], aq_h m s F c)) rfl rfl ?_
  refine am_E.call rfl rfl rfl (Nat.le_of_ble_eq_true rfl) (qm_isSum) ?_
  rintro r5 h5 ⟨rfl, v_1, rfl, hv_1⟩
  show am_E _ (4, [vR y, vI t, vI w], [vI v_1], aq_h m s F c) _
  refine ae_if0 rfl (fun (q_2 : v_1 = 0) => ?_) (fun (q_2 : v_1 ≠ 0) => ?_)
  · refine am_E.go (t2 := (18, [vR y, vI t, vI w], [vI (-1)], aq_h m s F c)) rfl rfl ?_
    refine am_E.go (t2 := (40, [vR y, vI t, vI w], [vI (-1)], aq_h m s F c)) rfl rfl ?_
    refine am_E.ret rfl rfl ?_
    exact ⟨_, rfl, (aq_sm0 (c := c) (S := fun a => y ≤ a ∧ a < y + 24)), ⟨_, rfl⟩, hI⟩
  · refine am_E.go (t2 := (8, [vR y, vI t, vI w], [vI w], aq_h m s F c)) rfl rfl ?_
    refine am_E.go (t2 := (9, [vR y, vI t, vI w], [vL w], aq_h m s F c)) rfl rfl ?_
    refine am_E.go (t2 := (10, [vR y, vI t, vI w], [vL 0, vL w], aq_h m s F c)) rfl rfl ?_
    refine am_E.go (t2 := (11, [vR y, vI t, vI w], [vL 1, vL 0, vL w], aq_h m s F c)) rfl rfl ?_
    refine am_E.call rfl rfl rfl (Nat.le_of_ble_eq_true rfl) (qm_in) ?_
    rintro r5 h5 ⟨rfl, v_3, rfl, hv_3⟩
    show am_E _ (14, [vR y, vI t, vI w], [vI v_3], aq_h m s F c) _
    refine ae_if0 rfl (fun (q_4 : v_3 ≠ 0) => ?_) (fun (q_4 : v_3 = 0) => ?_)
    · refine am_E.go (t2 := (22, [vR y, vI t, vI w], [vI w], aq_h m s F c)) rfl rfl ?_
      refine ae_if0 rfl (fun (q_5 : w ≠ 0) => ?_) (fun (q_5 : w = 0) => ?_)
      · refine am_E.go (t2 := (35, [vR y, vI t, vI w], [vR y], aq_h m s F c)) rfl rfl ?_
        refine aq_gf (v := vR (y + 6)) rfl (by omega) hFo (by decide) rfl ?_
        show am_E _ (38, [vR y, vI t, vI w], [vR (y + 6)], aq_h m s F c) _
        refine am_E.go (t2 := (39, [vR y, vI t, vI w], [vI t, vR (y + 6)], aq_h m s F c)) rfl rfl ?_
        refine aq_al (ok := fun k => k == 0) (v := vI (c (y + 6) t)) rfl rfl (by omega) hG6 rfl (by omega) (by omega) rfl ?_
        show am_E _ (40, [vR y, vI t, vI w], [vI (c (y + 6) t)], aq_h m s F c) _
        obtain ⟨hu1t, hu2t, hu3t, hu4t, hu5t⟩ := hI.2 t (by omega) (by omega)
        refine am_E.ret rfl rfl ?_
        exact ⟨_, rfl, (aq_sm0 (c := c) (S := fun a => y ≤ a ∧ a < y + 24)), ⟨_, rfl⟩, hI⟩
      · refine am_E.go (t2 := (26, [vR y, vI t, vI w], [vR y], aq_h m s F c)) rfl rfl ?_
        refine aq_gf (v := vR (y + 5)) rfl (by omega) hFo (by decide) rfl ?_
        show am_E _ (29, [vR y, vI t, vI w], [vR (y + 5)], aq_h m s F c) _
        refine am_E.go (t2 := (30, [vR y, vI t, vI w], [vI t, vR (y + 5)], aq_h m s F c)) rfl rfl ?_
        refine aq_al (ok := fun k => k == 0) (v := vI (c (y + 5) t)) rfl rfl (by omega) hG5 rfl (by omega) (by omega) rfl ?_
        show am_E _ (31, [vR y, vI t, vI w], [vI (c (y + 5) t)], aq_h m s F c) _
        refine am_E.go (t2 := (40, [vR y, vI t, vI w], [vI (c (y + 5) t)], aq_h m s F c)) rfl rfl ?_
        refine am_E.ret rfl rfl ?_
        exact ⟨_, rfl, (aq_sm0 (c := c) (S := fun a => y ≤ a ∧ a < y + 24)), ⟨_, rfl⟩, hI⟩
    · refine am_E.go (t2 := (18, [vR y, vI t, vI w], [vI (-1)], aq_h m s F c)) rfl rfl ?_
      refine am_E.go (t2 := (40, [vR y, vI t, vI w], [vI (-1)], aq_h m s F c)) rfl rfl ?_
      refine am_E.ret rfl rfl ?_
      exact ⟨_, rfl, (aq_sm0 (c := c) (S := fun a => y ≤ a ∧ a < y + 24)), ⟨_, rfl⟩, hI⟩

theorem qm_X5_term {m s : Nat} {F : aq_F} {c : aq_C} {y : Nat} (hC : mo_C m F y) (hI : mo_I y c) {t i w : Int} : am_E ac_X5_term (0, [vR y, vI t, vI i, vI w, vU], [], aq_h m s F c) (aq_Z m s F (fun a => y ≤ a ∧ a < y + 24) c (fun r d => aq_vl r ∧ mo_I y d)) := by
  obtain ⟨⟨hm, hFo, hG5, hG6, hG7, hG8, hG9, hG10, hG11, hG12, hG13, hG14, hG15, hG16, hG17, hG18, hG19, hG20, hG21, hG22, hG23⟩, ⟨tbl, hT1, hTt⟩, ⟨tA, tB, tD, hL1, hL2, hL3, hLt⟩⟩ := hC
  refine am_E.go (t2 := (1, [vR y, vI t, vI i, vI w, vU], [vI t], aq_h m s F c)) rfl rfl ?_
  refine am_E.call rfl rfl rfl (Nat.le_of_ble_eq_true rfl) (qm_isSum) ?_
  rintro r5 h5 ⟨rfl, v_1, rfl, hv_1⟩
  show am_E _ (4, [vR y, vI t, vI i, vI w, vU], [vI v_1], aq_h m s F c) _
  refine ae_if0 rfl (fun (q_2 : v_1 = 0) => ?_) (fun (q_2 : v_1 ≠ 0) => ?_)
  · refine am_E.go (t2 := (26, [vR y, vI t, vI i, vI w, vU], [vL (-1000000000000001)], aq_h m s F c)) rfl rfl ?_
    refine am_E.ret rfl rfl ?_
    exact ⟨_, rfl, (aq_sm0 (c := c) (S := fun a => y ≤ a ∧ a < y + 24)), ⟨_, rfl⟩, hI⟩
  · refine am_E.go (t2 := (8, [vR y, vI t, vI i, vI w, vU], [vI i], aq_h m s F c)) rfl rfl ?_
    refine ae_if0 rfl (fun (q_3 : i < 0) => ?_) (fun (q_3 : 0 ≤ i) => ?_)
    · refine am_E.go (t2 := (26, [vR y, vI t, vI i, vI w, vU], [vL (-1000000000000001)], aq_h m s F c)) rfl rfl ?_
      refine am_E.ret rfl rfl ?_
      exact ⟨_, rfl, (aq_sm0 (c := c) (S := fun a => y ≤ a ∧ a < y + 24)), ⟨_, rfl⟩, hI⟩
    · refine am_E.go (t2 := (12, [vR y, vI t, vI i, vI w, vU], [vI w], aq_h m s F c)) rfl rfl ?_
      refine am_E.go (t2 := (13, [vR y, vI t, vI i, vI w, vU], [vL w], aq_h m s F c)) rfl rfl ?_
      refine am_E.go (t2 := (14, [vR y, vI t, vI i, vI w, vU], [vL 0, vL w], aq_h m s F c)) rfl rfl ?_
      refine am_E.go (t2 := (17, [vR y, vI t, vI i, vI w, vU], [vL 2, vL 0, vL w], aq_h m s F c)) rfl rfl ?_
      refine am_E.call rfl rfl rfl (Nat.le_of_ble_eq_true rfl) (qm_in) ?_
      rintro r5 h5 ⟨rfl, v_4, rfl, hv_4⟩
      show am_E _ (20, [vR y, vI t, vI i, vI w, vU], [vI v_4], aq_h m s F c) _
      refine ae_if0 rfl (fun (q_5 : v_4 ≠ 0) => ?_) (fun (q_5 : v_4 = 0) => ?_)
      · refine am_E.go (t2 := (29, [vR y, vI t, vI i, vI w, vU], [vI 40], aq_h m s F c)) rfl rfl ?_
        refine am_E.go (t2 := (30, [vR y, vI t, vI i, vI w, vU], [vI t, vI 40], aq_h m s F c)) rfl rfl ?_
        refine ae_mul rfl (am_ri (by omega) (by omega)) ?_
        show am_E _ (31, [vR y, vI t, vI i, vI w, vU], [vI (40 * t)], aq_h m s F c) _
        refine am_E.go (t2 := (32, [vR y, vI t, vI i, vI w, vU], [vI i, vI (40 * t)], aq_h m s F c)) rfl rfl ?_
        refine am_E.go (t2 := (33, [vR y, vI t, vI i, vI w, vU], [vI (am_w ((40 * t) + i))], aq_h m s F c)) rfl rfl ?_
        refine am_E.go (t2 := (35, [vR y, vI t, vI i, vI w, vI (am_w ((40 * t) + i))], [], aq_h m s F c)) rfl rfl ?_
        refine am_E.go (t2 := (36, [vR y, vI t, vI i, vI w, vI (am_w ((40 * t) + i))], [vI i], aq_h m s F c)) rfl rfl ?_
        refine am_E.go (t2 := (37, [vR y, vI t, vI i, vI w, vI (am_w ((40 * t) + i))], [vR y, vI i], aq_h m s F c)) rfl rfl ?_
        refine aq_gf (v := vR (y + 6)) rfl (by omega) hFo (by decide) rfl ?_
        show am_E _ (40, [vR y, vI t, vI i, vI w, vI (am_w ((40 * t) + i))], [vR (y + 6), vI i], aq_h m s F c) _
        refine am_E.go (t2 := (41, [vR y, vI t, vI i, vI w, vI (am_w ((40 * t) + i))], [vI t, vR (y + 6), vI i], aq_h m s F c)) rfl rfl ?_
        refine aq_al (ok := fun k => k == 0) (v := vI (c (y + 6) t)) rfl rfl (by omega) hG6 rfl (by omega) (by omega) rfl ?_
        show am_E _ (42, [vR y, vI t, vI i, vI w, vI (am_w ((40 * t) + i))], [vI (c (y + 6) t), vI i], aq_h m s F c) _
        obtain ⟨hu1t, hu2t, hu3t, hu4t, hu5t⟩ := hI.2 t (by omega) (by omega)
        refine ae_icmp rfl (fun (q_7 : i < (c (y + 6) t)) => ?_) (fun (q_7 : (c (y + 6) t) ≤ i) => ?_)
        · have e_w : am_w (40 * t + i) = 40 * t + i := am_w_id (am_ri (by omega) (by omega))
          refine am_E.go (t2 := (52, [vR y, vI t, vI i, vI w, vI (am_w ((40 * t) + i))], [vI w], aq_h m s F c)) rfl rfl ?_
          refine ae_if0 rfl (fun (q_8 : w ≠ 0) => ?_) (fun (q_8 : w = 0) => ?_)
          · refine am_E.go (t2 := (67, [vR y, vI t, vI i, vI w, vI (am_w ((40 * t) + i))], [vI w], aq_h m s F c)) rfl rfl ?_
            refine am_E.go (t2 := (68, [vR y, vI t, vI i, vI w, vI (am_w ((40 * t) + i))], [vI 1, vI w], aq_h m s F c)) rfl rfl ?_
            refine ae_icmp rfl (fun (q_9 : w ≠ 1) => ?_) (fun (q_9 : w = 1) => ?_)
            · refine am_E.go (t2 := (83, [vR y, vI t, vI i, vI w, vI (am_w ((40 * t) + i))], [vR y], aq_h m s F c)) rfl rfl ?_
              refine aq_gf (v := vR (y + 9)) rfl (by omega) hFo (by decide) rfl ?_
              show am_E _ (86, [vR y, vI t, vI i, vI w, vI (am_w ((40 * t) + i))], [vR (y + 9)], aq_h m s F c) _
              refine am_E.go (t2 := (88, [vR y, vI t, vI i, vI w, vI (am_w ((40 * t) + i))], [vI (am_w ((40 * t) + i)), vR (y + 9)], aq_h m s F c)) rfl rfl ?_
              refine aq_al (ok := fun k => k == 2) (v := vL (c (y + 9) (am_w ((40 * t) + i)))) rfl rfl (by omega) hG9 rfl (by omega) (by omega) rfl ?_
              show am_E _ (89, [vR y, vI t, vI i, vI w, vI (am_w ((40 * t) + i))], [vL (c (y + 9) (am_w ((40 * t) + i)))], aq_h m s F c) _
              refine am_E.ret rfl rfl ?_
              exact ⟨_, rfl, (aq_sm0 (c := c) (S := fun a => y ≤ a ∧ a < y + 24)), ⟨_, rfl⟩, hI⟩
            · refine am_E.go (t2 := (72, [vR y, vI t, vI i, vI w, vI (am_w ((40 * t) + i))], [vR y], aq_h m s F c)) rfl rfl ?_
              refine aq_gf (v := vR (y + 8)) rfl (by omega) hFo (by decide) rfl ?_
              show am_E _ (75, [vR y, vI t, vI i, vI w, vI (am_w ((40 * t) + i))], [vR (y + 8)], aq_h m s F c) _
              refine am_E.go (t2 := (77, [vR y, vI t, vI i, vI w, vI (am_w ((40 * t) + i))], [vI (am_w ((40 * t) + i)), vR (y + 8)], aq_h m s F c)) rfl rfl ?_
              refine aq_al (ok := fun k => k == 0) (v := vI (c (y + 8) (am_w ((40 * t) + i)))) rfl rfl (by omega) hG8 rfl (by omega) (by omega) rfl ?_
              show am_E _ (78, [vR y, vI t, vI i, vI w, vI (am_w ((40 * t) + i))], [vI (c (y + 8) (am_w ((40 * t) + i)))], aq_h m s F c) _
              refine am_E.go (t2 := (79, [vR y, vI t, vI i, vI w, vI (am_w ((40 * t) + i))], [vL (c (y + 8) (am_w ((40 * t) + i)))], aq_h m s F c)) rfl rfl ?_
              refine am_E.go (t2 := (89, [vR y, vI t, vI i, vI w, vI (am_w ((40 * t) + i))], [vL (c (y + 8) (am_w ((40 * t) + i)))], aq_h m s F c)) rfl rfl ?_
              refine am_E.ret rfl rfl ?_
              exact ⟨_, rfl, (aq_sm0 (c := c) (S := fun a => y ≤ a ∧ a < y + 24)), ⟨_, rfl⟩, hI⟩
          · refine am_E.go (t2 := (56, [vR y, vI t, vI i, vI w, vI (am_w ((40 * t) + i))], [vR y], aq_h m s F c)) rfl rfl ?_
            refine aq_gf (v := vR (y + 7)) rfl (by omega) hFo (by decide) rfl ?_
            show am_E _ (59, [vR y, vI t, vI i, vI w, vI (am_w ((40 * t) + i))], [vR (y + 7)], aq_h m s F c) _
            refine am_E.go (t2 := (61, [vR y, vI t, vI i, vI w, vI (am_w ((40 * t) + i))], [vI (am_w ((40 * t) + i)), vR (y + 7)], aq_h m s F c)) rfl rfl ?_
            refine aq_al (ok := fun k => k == 0) (v := vI (c (y + 7) (am_w ((40 * t) + i)))) rfl rfl (by omega) hG7 rfl (by omega) (by omega) rfl ?_
            show am_E _ (62, [vR y, vI t, vI i, vI w, vI (am_w ((40 * t) + i))], [vI (c (y + 7) (am_w ((40 * t) + i)))], aq_h m s F c) _
            refine am_E.go (t2 := (63, [vR y, vI t, vI i, vI w, vI (am_w ((40 * t) + i))], [vL (c (y + 7) (am_w ((40 * t) + i)))], aq_h m s F c)) rfl rfl ?_
            refine am_E.go (t2 := (89, [vR y, vI t, vI i, vI w, vI (am_w ((40 * t) + i))], [vL (c (y + 7) (am_w ((40 * t) + i)))], aq_h m s F c)) rfl rfl ?_
            refine am_E.ret rfl rfl ?_
            exact ⟨_, rfl, (aq_sm0 (c := c) (S := fun a => y ≤ a ∧ a < y + 24)), ⟨_, rfl⟩, hI⟩
        · refine am_E.go (t2 := (48, [vR y, vI t, vI i, vI w, vI (am_w ((40 * t) + i))], [vL (-1000000000000004)], aq_h m s F c)) rfl rfl ?_
          refine am_E.go (t2 := (89, [vR y, vI t, vI i, vI w, vI (am_w ((40 * t) + i))], [vL (-1000000000000004)], aq_h m s F c)) rfl rfl ?_
          refine am_E.ret rfl rfl ?_
          exact ⟨_, rfl, (aq_sm0 (c := c) (S := fun a => y ≤ a ∧ a < y + 24)), ⟨_, rfl⟩, hI⟩
      · refine am_E.go (t2 := (26, [vR y, vI t, vI i, vI w, vU], [vL (-1000000000000001)], aq_h m s F c)) rfl rfl ?_
        refine am_E.ret rfl rfl ?_
        exact ⟨_, rfl, (aq_sm0 (c := c) (S := fun a => y ≤ a ∧ a < y + 24)), ⟨_, rfl⟩, hI⟩

theorem qm_same_l {m s : Nat} {F : aq_F} {c : aq_C} {y : Nat} (hO : mo_0 m F y) (hI : mo_I y c) {t u : Int} (ht0 : 0 ≤ t) (ht1 : t < 8) (hu0 : 0 ≤ u) (hu1 : u < 8) : ∀ (d : Nat) (x : Int) (k : Int) (h0 : 0 ≤ k) (h1 : k ≤ 40) (hd : 40 - k < (d : Int)), am_E ac_X5_same (55, [vR y, vI t, vI u, vI x, vI k], [], aq_h m s F c) (aq_Z m s F (fun a => y ≤ a ∧ a < y + 24) c (fun r d => aq_vi r ∧ mo_I y d))
  | 0, x, k, h0, h1, hd => by exfalso; omega
  | d + 1, x, k, h0, h1, hd => by
    obtain ⟨hm, hFo, hG5, hG6, hG7, hG8, hG9, hG10, hG11, hG12, hG13, hG14, hG15, hG16, hG17, hG18, hG19, hG20, hG21, hG22, hG23⟩ := hO
    refine am_E.go (t2 := (57, [vR y, vI t, vI u, vI x, vI k], [vI k], aq_h m s F c)) rfl rfl ?_
    refine am_E.go (t2 := (58, [vR y, vI t, vI u, vI x, vI k], [vR y, vI k], aq_h m s F c)) rfl rfl ?_
    refine aq_gf (v := vR (y + 6)) rfl (by omega) hFo (by decide) rfl ?_
    show am_E _ (61, [vR y, vI t, vI u, vI x, vI k], [vR (y + 6), vI k], aq_h m s F c) _
    refine am_E.go (t2 := (62, [vR y, vI t, vI u, vI x, vI k], [vI t, vR (y + 6), vI k], aq_h m s F c)) rfl rfl ?_
    refine aq_al (ok := fun k => k == 0) (v := vI (c (y + 6) t)) rfl rfl (by omega) hG6 rfl (by omega) (by omega) rfl ?_
    show am_E _ (63, [vR y, vI t, vI u, vI x, vI k], [vI (c (y + 6) t), vI k], aq_h m s F c) _
    obtain ⟨hu1t, hu2t, hu3t, hu4t, hu5t⟩ := hI.2 t (by omega) (by omega)
    refine ae_icmp rfl (fun (q_2 : (c (y + 6) t) ≤ k) => ?_) (fun (q_2 : k < (c (y + 6) t)) => ?_)
    · refine am_E.go (t2 := (165, [vR y, vI t, vI u, vI x, vI k], [vI x], aq_h m s F c)) rfl rfl ?_
      refine ae_if0 rfl (fun (q_3 : x = 0) => ?_) (fun (q_3 : x ≠ 0) => ?_)
      · refine am_E.go (t2 := (173, [vR y, vI t, vI u, vI x, vI k], [vI 0], aq_h m s F c)) rfl rfl ?_
        refine am_E.ret rfl rfl ?_
        exact ⟨_, rfl, aq_sm0, ⟨_, rfl⟩, hI⟩
      · refine am_E.go (t2 := (169, [vR y, vI t, vI u, vI x, vI k], [vI 1], aq_h m s F c)) rfl rfl ?_
        refine am_E.go (t2 := (173, [vR y, vI t, vI u, vI x, vI k], [vI 1], aq_h m s F c)) rfl rfl ?_
        refine am_E.ret rfl rfl ?_
        exact ⟨_, rfl, aq_sm0, ⟨_, rfl⟩, hI⟩
    · refine am_E.go (t2 := (67, [vR y, vI t, vI u, vI x, vI k], [vI x], aq_h m s F c)) rfl rfl ?_
      refine ae_if0 rfl (fun (q_4 : x = 0) => ?_) (fun (q_4 : x ≠ 0) => ?_)
      · refine am_E.go (t2 := (165, [vR y, vI t, vI u, vI x, vI k], [vI x], aq_h m s F c)) rfl rfl ?_
        refine ae_if0 rfl (fun (q_5 : x = 0) => ?_) (fun (q_5 : x ≠ 0) => ?_)
        · refine am_E.go (t2 := (173, [vR y, vI t, vI u, vI x, vI k], [vI 0], aq_h m s F c)) rfl rfl ?_
          refine am_E.ret rfl rfl ?_
          exact ⟨_, rfl, aq_sm0, ⟨_, rfl⟩, hI⟩
        · refine am_E.go (t2 := (169, [vR y, vI t, vI u, vI x, vI k], [vI 1], aq_h m s F c)) rfl rfl ?_
          refine am_E.go (t2 := (173, [vR y, vI t, vI u, vI x, vI k], [vI 1], aq_h m s F c)) rfl rfl ?_
          refine am_E.ret rfl rfl ?_
          exact ⟨_, rfl, aq_sm0, ⟨_, rfl⟩, hI⟩
      · refine am_E.go (t2 := (71, [vR y, vI t, vI u, vI x, vI k], [vR y], aq_h m s F c)) rfl rfl ?_
        refine aq_gf (v := vR (y + 7)) rfl (by omega) hFo (by decide) rfl ?_
        show am_E _ (74, [vR y, vI t, vI u, vI x, vI k], [vR (y + 7)], aq_h m s F c) _
        refine am_E.go (t2 := (76, [vR y, vI t, vI u, vI x, vI k], [vI 40, vR (y + 7)], aq_h m s F c)) rfl rfl ?_
        refine am_E.go (t2 := (77, [vR y, vI t, vI u, vI x, vI k], [vI t, vI 40, vR (y + 7)], aq_h m s F c)) rfl rfl ?_
        refine ae_mul rfl (am_ri (by omega) (by omega)) ?_
        show am_E _ (78, [vR y, vI t, vI u, vI x, vI k], [vI (40 * t), vR (y + 7)], aq_h m s F c) _
        refine am_E.go (t2 := (80, [vR y, vI t, vI u, vI x, vI k], [vI k, vI (40 * t), vR (y + 7)], aq_h m s F c)) rfl rfl ?_
        refine ae_add rfl (am_ri (by omega) (by omega)) ?_
        show am_E _ (81, [vR y, vI t, vI u, vI x, vI k], [vI ((40 * t) + k), vR (y + 7)], aq_h m s F c) _
        refine aq_al (ok := fun k => k == 0) (v := vI (c (y + 7) ((40 * t) + k))) rfl rfl (by omega) hG7 rfl (by omega) (by omega) rfl ?_
        show am_E _ (82, [vR y, vI t, vI u, vI x, vI k], [vI (c (y + 7) ((40 * t) + k))], aq_h m s F c) _
        refine am_E.go (t2 := (83, [vR y, vI t, vI u, vI x, vI k], [vR y, vI (c (y + 7) ((40 * t) + k))], aq_h m s F c)) rfl rfl ?_
        refine aq_gf (v := vR (y + 7)) rfl (by omega) hFo (by decide) rfl ?_
        show am_E _ (86, [vR y, vI t, vI u, vI x, vI k], [vR (y + 7), vI (c (y + 7) ((40 * t) + k))], aq_h m s F c) _
        refine am_E.go (t2 := (88, [vR y, vI t, vI u, vI x, vI k], [vI 40, vR (y + 7), vI (c (y + 7) ((40 * t) + k))], aq_h m s F c)) rfl rfl ?_
        refine am_E.go (t2 := (89, [vR y, vI t, vI u, vI x, vI k], [vI u, vI 40, vR (y + 7), vI (c (y + 7) ((40 * t) + k))], aq_h m s F c)) rfl rfl ?_
        refine ae_mul rfl (am_ri (by omega) (by omega)) ?_
        show am_E _ (90, [vR y, vI t, vI u, vI x, vI k], [vI (40 * u), vR (y + 7), vI (c (y + 7) ((40 * t) + k))], aq_h m s F c) _
        refine am_E.go (t2 := (92, [vR y, vI t, vI u, vI x, vI k], [vI k, vI (40 * u), vR (y + 7), vI (c (y + 7) ((40 * t) + k))], aq_h m s F c)) rfl rfl ?_
        refine ae_add rfl (am_ri (by omega) (by omega)) ?_
        show am_E _ (93, [vR y, vI t, vI u, vI x, vI k], [vI ((40 * u) + k), vR (y + 7), vI (c (y + 7) ((40 * t) + k))], aq_h m s F c) _
        refine aq_al (ok := fun k => k == 0) (v := vI (c (y + 7) ((40 * u) + k))) rfl rfl (by omega) hG7 rfl (by omega) (by omega) rfl ?_
        show am_E _ (94, [vR y, vI t, vI u, vI x, vI k], [vI (c (y + 7) ((40 * u) + k)), vI (c (y + 7) ((40 * t) + k))], aq_h m s F c) _
        refine ae_icmp rfl (fun (q_6 : (c (y + 7) ((40 * t) + k)) ≠ (c (y + 7) ((40 * u) + k))) => ?_) (fun (q_6 : (c (y + 7) ((40 * t) + k)) = (c (y + 7) ((40 * u) + k))) => ?_)
        · refine am_E.go (t2 := (157, [vR y, vI t, vI u, vI x, vI k], [vI 0], aq_h m s F c)) rfl rfl ?_
          refine am_E.go (t2 := (158, [vR y, vI t, vI u, vI 0, vI k], [], aq_h m s F c)) rfl rfl ?_
          refine ae_iinc rfl rfl (am_ri (by omega) (by omega)) ?_
          show am_E _ (161, [vR y, vI t, vI u, vI 0, vI (k + 1)], [], aq_h m s F c) _
          refine am_E.go (t2 := (55, [vR y, vI t, vI u, vI 0, vI (k + 1)], [], aq_h m s F c)) rfl rfl ?_
          exact qm_same_l ⟨hm, hFo, hG5, hG6, hG7, hG8, hG9, hG10, hG11, hG12, hG13, hG14, hG15, hG16, hG17, hG18, hG19, hG20, hG21, hG22, hG23⟩ hI (by omega) (by omega) (by omega) (by omega) d 0 (k + 1) (by omega) (by omega) (by omega)
        · refine am_E.go (t2 := (98, [vR y, vI t, vI u, vI x, vI k], [vR y], aq_h m s F c)) rfl rfl ?_
          refine aq_gf (v := vR (y + 8)) rfl (by omega) hFo (by decide) rfl ?_
          show am_E _ (101, [vR y, vI t, vI u, vI x, vI k], [vR (y + 8)], aq_h m s F c) _
          refine am_E.go (t2 := (103, [vR y, vI t, vI u, vI x, vI k], [vI 40, vR (y + 8)], aq_h m s F c)) rfl rfl ?_
          refine am_E.go (t2 := (104, [vR y, vI t, vI u, vI x, vI k], [vI t, vI 40, vR (y + 8)], aq_h m s F c)) rfl rfl ?_
          refine ae_mul rfl (am_ri (by omega) (by omega)) ?_
          show am_E _ (105, [vR y, vI t, vI u, vI x, vI k], [vI (40 * t), vR (y + 8)], aq_h m s F c) _
          refine am_E.go (t2 := (107, [vR y, vI t, vI u, vI x, vI k], [vI k, vI (40 * t), vR (y + 8)], aq_h m s F c)) rfl rfl ?_
          refine ae_add rfl (am_ri (by omega) (by omega)) ?_
          show am_E _ (108, [vR y, vI t, vI u, vI x, vI k], [vI ((40 * t) + k), vR (y + 8)], aq_h m s F c) _
          refine aq_al (ok := fun k => k == 0) (v := vI (c (y + 8) ((40 * t) + k))) rfl rfl (by omega) hG8 rfl (by omega) (by omega) rfl ?_
          show am_E _ (109, [vR y, vI t, vI u, vI x, vI k], [vI (c (y + 8) ((40 * t) + k))], aq_h m s F c) _
          refine am_E.go (t2 := (110, [vR y, vI t, vI u, vI x, vI k], [vR y, vI (c (y + 8) ((40 * t) + k))], aq_h m s F c)) rfl rfl ?_
          refine aq_gf (v := vR (y + 8)) rfl (by omega) hFo (by decide) rfl ?_
          show am_E _ (113, [vR y, vI t, vI u, vI x, vI k], [vR (y + 8), vI (c (y + 8) ((40 * t) + k))], aq_h m s F c) _
          refine am_E.go (t2 := (115, [vR y, vI t, vI u, vI x, vI k], [vI 40, vR (y + 8), vI (c (y + 8) ((40 * t) + k))], aq_h m s F c)) rfl rfl ?_
          refine am_E.go (t2 := (116, [vR y, vI t, vI u, vI x, vI k], [vI u, vI 40, vR (y + 8), vI (c (y + 8) ((40 * t) + k))], aq_h m s F c)) rfl rfl ?_
          refine ae_mul rfl (am_ri (by omega) (by omega)) ?_
          show am_E _ (117, [vR y, vI t, vI u, vI x, vI k], [vI (40 * u), vR (y + 8), vI (c (y + 8) ((40 * t) + k))], aq_h m s F c) _
          refine am_E.go (t2 := (119, [vR y, vI t, vI u, vI x, vI k], [vI k, vI (40 * u), vR (y + 8), vI (c (y + 8) ((40 * t) + k))], aq_h m s F c)) rfl rfl ?_
          refine ae_add rfl (am_ri (by omega) (by omega)) ?_
          show am_E _ (120, [vR y, vI t, vI u, vI x, vI k], [vI ((40 * u) + k), vR (y + 8), vI (c (y + 8) ((40 * t) + k))], aq_h m s F c) _
          refine aq_al (ok := fun k => k == 0) (v := vI (c (y + 8) ((40 * u) + k))) rfl rfl (by omega) hG8 rfl (by omega) (by omega) rfl ?_
          show am_E _ (121, [vR y, vI t, vI u, vI x, vI k], [vI (c (y + 8) ((40 * u) + k)), vI (c (y + 8) ((40 * t) + k))], aq_h m s F c) _
          refine ae_icmp rfl (fun (q_7 : (c (y + 8) ((40 * t) + k)) ≠ (c (y + 8) ((40 * u) + k))) => ?_) (fun (q_7 : (c (y + 8) ((40 * t) + k)) = (c (y + 8) ((40 * u) + k))) => ?_)
          · refine am_E.go (t2 := (157, [vR y, vI t, vI u, vI x, vI k], [vI 0], aq_h m s F c)) rfl rfl ?_
            refine am_E.go (t2 := (158, [vR y, vI t, vI u, vI 0, vI k], [], aq_h m s F c)) rfl rfl ?_
            refine ae_iinc rfl rfl (am_ri (by omega) (by omega)) ?_
            show am_E _ (161, [vR y, vI t, vI u, vI 0, vI (k + 1)], [], aq_h m s F c) _
            refine am_E.go (t2 := (55, [vR y, vI t, vI u, vI 0, vI (k + 1)], [], aq_h m s F c)) rfl rfl ?_
            exact qm_same_l ⟨hm, hFo, hG5, hG6, hG7, hG8, hG9, hG10, hG11, hG12, hG13, hG14, hG15, hG16, hG17, hG18, hG19, hG20, hG21, hG22, hG23⟩ hI (by omega) (by omega) (by omega) (by omega) d 0 (k + 1) (by omega) (by omega) (by omega)
          · refine am_E.go (t2 := (125, [vR y, vI t, vI u, vI x, vI k], [vR y], aq_h m s F c)) rfl rfl ?_
            refine aq_gf (v := vR (y + 9)) rfl (by omega) hFo (by decide) rfl ?_
            show am_E _ (128, [vR y, vI t, vI u, vI x, vI k], [vR (y + 9)], aq_h m s F c) _
            refine am_E.go (t2 := (130, [vR y, vI t, vI u, vI x, vI k], [vI 40, vR (y + 9)], aq_h m s F c)) rfl rfl ?_
            refine am_E.go (t2 := (131, [vR y, vI t, vI u, vI x, vI k], [vI t, vI 40, vR (y + 9)], aq_h m s F c)) rfl rfl ?_
            refine ae_mul rfl (am_ri (by omega) (by omega)) ?_
            show am_E _ (132, [vR y, vI t, vI u, vI x, vI k], [vI (40 * t), vR (y + 9)], aq_h m s F c) _
            refine am_E.go (t2 := (134, [vR y, vI t, vI u, vI x, vI k], [vI k, vI (40 * t), vR (y + 9)], aq_h m s F c)) rfl rfl ?_
            refine ae_add rfl (am_ri (by omega) (by omega)) ?_
            show am_E _ (135, [vR y, vI t, vI u, vI x, vI k], [vI ((40 * t) + k), vR (y + 9)], aq_h m s F c) _
            refine aq_al (ok := fun k => k == 2) (v := vL (c (y + 9) ((40 * t) + k))) rfl rfl (by omega) hG9 rfl (by omega) (by omega) rfl ?_
            show am_E _ (136, [vR y, vI t, vI u, vI x, vI k], [vL (c (y + 9) ((40 * t) + k))], aq_h m s F c) _
            refine am_E.go (t2 := (137, [vR y, vI t, vI u, vI x, vI k], [vR y, vL (c (y + 9) ((40 * t) + k))], aq_h m s F c)) rfl rfl ?_
            refine aq_gf (v := vR (y + 9)) rfl (by omega) hFo (by decide) rfl ?_
            show am_E _ (140, [vR y, vI t, vI u, vI x, vI k], [vR (y + 9), vL (c (y + 9) ((40 * t) + k))], aq_h m s F c) _
            refine am_E.go (t2 := (142, [vR y, vI t, vI u, vI x, vI k], [vI 40, vR (y + 9), vL (c (y + 9) ((40 * t) + k))], aq_h m s F c)) rfl rfl ?_
            refine am_E.go (t2 := (143, [vR y, vI t, vI u, vI x, vI k], [vI u, vI 40, vR (y + 9), vL (c (y + 9) ((40 * t) + k))], aq_h m s F c)) rfl rfl ?_
            refine ae_mul rfl (am_ri (by omega) (by omega)) ?_
            show am_E _ (144, [vR y, vI t, vI u, vI x, vI k], [vI (40 * u), vR (y + 9), vL (c (y + 9) ((40 * t) + k))], aq_h m s F c) _
            refine am_E.go (t2 := (146, [vR y, vI t, vI u, vI x, vI k], [vI k, vI (40 * u), vR (y + 9), vL (c (y + 9) ((40 * t) + k))], aq_h m s F c)) rfl rfl ?_
            refine ae_add rfl (am_ri (by omega) (by omega)) ?_
            show am_E _ (147, [vR y, vI t, vI u, vI x, vI k], [vI ((40 * u) + k), vR (y + 9), vL (c (y + 9) ((40 * t) + k))], aq_h m s F c) _
            refine aq_al (ok := fun k => k == 2) (v := vL (c (y + 9) ((40 * u) + k))) rfl rfl (by omega) hG9 rfl (by omega) (by omega) rfl ?_
            show am_E _ (148, [vR y, vI t, vI u, vI x, vI k], [vL (c (y + 9) ((40 * u) + k)), vL (c (y + 9) ((40 * t) + k))], aq_h m s F c) _
            have ez_8 := am_lcf (c (y + 9) ((40 * t) + k)) (c (y + 9) ((40 * u) + k))
            refine am_E.go (t2 := (149, [vR y, vI t, vI u, vI x, vI k], [vI (if (c (y + 9) ((40 * t) + k)) < (c (y + 9) ((40 * u) + k)) then -1 else if (c (y + 9) ((40 * t) + k)) = (c (y + 9) ((40 * u) + k)) then 0 else 1)], aq_h m s F c)) rfl rfl ?_
            generalize (if (c (y + 9) ((40 * t) + k)) < (c (y + 9) ((40 * u) + k)) then -1 else if (c (y + 9) ((40 * t) + k)) = (c (y + 9) ((40 * u) + k)) then 0 else 1) = z_8 at ez_8 ⊢
            refine ae_if0 rfl (fun (q_9 : z_8 ≠ 0) => ?_) (fun (q_9 : z_8 = 0) => ?_)
            · refine am_E.go (t2 := (157, [vR y, vI t, vI u, vI x, vI k], [vI 0], aq_h m s F c)) rfl rfl ?_
              refine am_E.go (t2 := (158, [vR y, vI t, vI u, vI 0, vI k], [], aq_h m s F c)) rfl rfl ?_
              refine ae_iinc rfl rfl (am_ri (by omega) (by omega)) ?_
              show am_E _ (161, [vR y, vI t, vI u, vI 0, vI (k + 1)], [], aq_h m s F c) _
              refine am_E.go (t2 := (55, [vR y, vI t, vI u, vI 0, vI (k + 1)], [], aq_h m s F c)) rfl rfl ?_
              exact qm_same_l ⟨hm, hFo, hG5, hG6, hG7, hG8, hG9, hG10, hG11, hG12, hG13, hG14, hG15, hG16, hG17, hG18, hG19, hG20, hG21, hG22, hG23⟩ hI (by omega) (by omega) (by omega) (by omega) d 0 (k + 1) (by omega) (by omega) (by omega)
            · refine am_E.go (t2 := (153, [vR y, vI t, vI u, vI x, vI k], [vI 1], aq_h m s F c)) rfl rfl ?_
              refine am_E.go (t2 := (157, [vR y, vI t, vI u, vI x, vI k], [vI 1], aq_h m s F c)) rfl rfl ?_
              refine am_E.go (t2 := (158, [vR y, vI t, vI u, vI 1, vI k], [], aq_h m s F c)) rfl rfl ?_
              refine ae_iinc rfl rfl (am_ri (by omega) (by omega)) ?_
              show am_E _ (161, [vR y, vI t, vI u, vI 1, vI (k + 1)], [], aq_h m s F c) _
              refine am_E.go (t2 := (55, [vR y, vI t, vI u, vI 1, vI (k + 1)], [], aq_h m s F c)) rfl rfl ?_
              exact qm_same_l ⟨hm, hFo, hG5, hG6, hG7, hG8, hG9, hG10, hG11, hG12, hG13, hG14, hG15, hG16, hG17, hG18, hG19, hG20, hG21, hG22, hG23⟩ hI (by omega) (by omega) (by omega) (by omega) d 1 (k + 1) (by omega) (by omega) (by omega)

theorem qm_X5_same {m s : Nat} {F : aq_F} {c : aq_C} {y : Nat} (hC : mo_C m F y) (hI : mo_I y c) {t u : Int} : am_E ac_X5_same (0, [vR y, vI t, vI u, vU, vU], [], aq_h m s F c) (aq_Z m s F (fun a => y ≤ a ∧ a < y + 24) c (fun r d => aq_vi r ∧ mo_I y d)) := by
  obtain ⟨⟨hm, hFo, hG5, hG6, hG7, hG8, hG9, hG10, hG11, hG12, hG13, hG14, hG15, hG16, hG17, hG18, hG19, hG20, hG21, hG22, hG23⟩, ⟨tbl, hT1, hTt⟩, ⟨tA, tB, tD, hL1, hL2, hL3, hLt⟩⟩ := hC
  refine am_E.go (t2 := (1, [vR y, vI t, vI u, vU, vU], [vI t], aq_h m s F c)) rfl rfl ?_
  refine am_E.call rfl rfl rfl (Nat.le_of_ble_eq_true rfl) (qm_isSum) ?_
  rintro r5 h5 ⟨rfl, v_1, rfl, hv_1⟩
  show am_E _ (4, [vR y, vI t, vI u, vU, vU], [vI v_1], aq_h m s F c) _
  refine ae_if0 rfl (fun (q_2 : v_1 = 0) => ?_) (fun (q_2 : v_1 ≠ 0) => ?_)
  · refine am_E.go (t2 := (15, [vR y, vI t, vI u, vU, vU], [vI (-1)], aq_h m s F c)) rfl rfl ?_
    refine am_E.ret rfl rfl ?_
    exact ⟨_, rfl, (aq_sm0 (c := c) (S := fun a => y ≤ a ∧ a < y + 24)), ⟨_, rfl⟩, hI⟩
  · refine am_E.go (t2 := (8, [vR y, vI t, vI u, vU, vU], [vI u], aq_h m s F c)) rfl rfl ?_
    refine am_E.call rfl rfl rfl (Nat.le_of_ble_eq_true rfl) (qm_isSum) ?_
    rintro r5 h5 ⟨rfl, v_3, rfl, hv_3⟩
    show am_E _ (11, [vR y, vI t, vI u, vU, vU], [vI v_3], aq_h m s F c) _
    refine ae_if0 rfl (fun (q_4 : v_3 ≠ 0) => ?_) (fun (q_4 : v_3 = 0) => ?_)
    · refine am_E.go (t2 := (17, [vR y, vI t, vI u, vU, vU], [vR y], aq_h m s F c)) rfl rfl ?_
      refine aq_gf (v := vR (y + 5)) rfl (by omega) hFo (by decide) rfl ?_
      show am_E _ (20, [vR y, vI t, vI u, vU, vU], [vR (y + 5)], aq_h m s F c) _
      refine am_E.go (t2 := (21, [vR y, vI t, vI u, vU, vU], [vI t, vR (y + 5)], aq_h m s F c)) rfl rfl ?_
      refine aq_al (ok := fun k => k == 0) (v := vI (c (y + 5) t)) rfl rfl (by omega) hG5 rfl (by omega) (by omega) rfl ?_
      show am_E _ (22, [vR y, vI t, vI u, vU, vU], [vI (c (y + 5) t)], aq_h m s F c) _
      refine am_E.go (t2 := (23, [vR y, vI t, vI u, vU, vU], [vR y, vI (c (y + 5) t)], aq_h m s F c)) rfl rfl ?_
      refine aq_gf (v := vR (y + 5)) rfl (by omega) hFo (by decide) rfl ?_
      show am_E _ (26, [vR y, vI t, vI u, vU, vU], [vR (y + 5), vI (c (y + 5) t)], aq_h m s F c) _
      refine am_E.go (t2 := (27, [vR y, vI t, vI u, vU, vU], [vI u, vR (y + 5), vI (c (y + 5) t)], aq_h m s F c)) rfl rfl ?_
      refine aq_al (ok := fun k => k == 0) (v := vI (c (y + 5) u)) rfl rfl (by omega) hG5 rfl (by omega) (by omega) rfl ?_
      show am_E _ (28, [vR y, vI t, vI u, vU, vU], [vI (c (y + 5) u), vI (c (y + 5) t)], aq_h m s F c) _
      refine ae_icmp rfl (fun (q_5 : (c (y + 5) t) ≠ (c (y + 5) u)) => ?_) (fun (q_5 : (c (y + 5) t) = (c (y + 5) u)) => ?_)
      · refine am_E.go (t2 := (51, [vR y, vI t, vI u, vU, vU], [vI 0], aq_h m s F c)) rfl rfl ?_
        refine am_E.go (t2 := (52, [vR y, vI t, vI u, vI 0, vU], [], aq_h m s F c)) rfl rfl ?_
        refine am_E.go (t2 := (53, [vR y, vI t, vI u, vI 0, vU], [vI 0], aq_h m s F c)) rfl rfl ?_
        refine am_E.go (t2 := (55, [vR y, vI t, vI u, vI 0, vI 0], [], aq_h m s F c)) rfl rfl ?_
        exact qm_same_l ⟨hm, hFo, hG5, hG6, hG7, hG8, hG9, hG10, hG11, hG12, hG13, hG14, hG15, hG16, hG17, hG18, hG19, hG20, hG21, hG22, hG23⟩ hI (by omega) (by omega) (by omega) (by omega) 42 0 0 (by omega) (by omega) (by omega)
      · refine am_E.go (t2 := (32, [vR y, vI t, vI u, vU, vU], [vR y], aq_h m s F c)) rfl rfl ?_
        refine aq_gf (v := vR (y + 6)) rfl (by omega) hFo (by decide) rfl ?_
        show am_E _ (35, [vR y, vI t, vI u, vU, vU], [vR (y + 6)], aq_h m s F c) _
        refine am_E.go (t2 := (36, [vR y, vI t, vI u, vU, vU], [vI t, vR (y + 6)], aq_h m s F c)) rfl rfl ?_
        refine aq_al (ok := fun k => k == 0) (v := vI (c (y + 6) t)) rfl rfl (by omega) hG6 rfl (by omega) (by omega) rfl ?_
        show am_E _ (37, [vR y, vI t, vI u, vU, vU], [vI (c (y + 6) t)], aq_h m s F c) _
        obtain ⟨hu1t, hu2t, hu3t, hu4t, hu5t⟩ := hI.2 t (by omega) (by omega)
        refine am_E.go (t2 := (38, [vR y, vI t, vI u, vU, vU], [vR y, vI (c (y + 6) t)], aq_h m s F c)) rfl rfl ?_
        refine aq_gf (v := vR (y + 6)) rfl (by omega) hFo (by decide) rfl ?_
        show am_E _ (41, [vR y, vI t, vI u, vU, vU], [vR (y + 6), vI (c (y + 6) t)], aq_h m s F c) _
        refine am_E.go (t2 := (42, [vR y, vI t, vI u, vU, vU], [vI u, vR (y + 6), vI (c (y + 6) t)], aq_h m s F c)) rfl rfl ?_
        refine aq_al (ok := fun k => k == 0) (v := vI (c (y + 6) u)) rfl rfl (by omega) hG6 rfl (by omega) (by omega) rfl ?_
        show am_E _ (43, [vR y, vI t, vI u, vU, vU], [vI (c (y + 6) u), vI (c (y + 6) t)], aq_h m s F c) _
        obtain ⟨hu1u, hu2u, hu3u, hu4u, hu5u⟩ := hI.2 u (by omega) (by omega)
        refine ae_icmp rfl (fun (q_8 : (c (y + 6) t) ≠ (c (y + 6) u)) => ?_) (fun (q_8 : (c (y + 6) t) = (c (y + 6) u)) => ?_)
        · refine am_E.go (t2 := (51, [vR y, vI t, vI u, vU, vU], [vI 0], aq_h m s F c)) rfl rfl ?_
          refine am_E.go (t2 := (52, [vR y, vI t, vI u, vI 0, vU], [], aq_h m s F c)) rfl rfl ?_
          refine am_E.go (t2 := (53, [vR y, vI t, vI u, vI 0, vU], [vI 0], aq_h m s F c)) rfl rfl ?_
          refine am_E.go (t2 := (55, [vR y, vI t, vI u, vI 0, vI 0], [], aq_h m s F c)) rfl rfl ?_
          exact qm_same_l ⟨hm, hFo, hG5, hG6, hG7, hG8, hG9, hG10, hG11, hG12, hG13, hG14, hG15, hG16, hG17, hG18, hG19, hG20, hG21, hG22, hG23⟩ hI (by omega) (by omega) (by omega) (by omega) 42 0 0 (by omega) (by omega) (by omega)
        · refine am_E.go (t2 := (47, [vR y, vI t, vI u, vU, vU], [vI 1], aq_h m s F c)) rfl rfl ?_
          refine am_E.go (t2 := (51, [vR y, vI t, vI u, vU, vU], [vI 1], aq_h m s F c)) rfl rfl ?_
          refine am_E.go (t2 := (52, [vR y, vI t, vI u, vI 1, vU], [], aq_h m s F c)) rfl rfl ?_
          refine am_E.go (t2 := (53, [vR y, vI t, vI u, vI 1, vU], [vI 0], aq_h m s F c)) rfl rfl ?_
          refine am_E.go (t2 := (55, [vR y, vI t, vI u, vI 1, vI 0], [], aq_h m s F c)) rfl rfl ?_
          exact qm_same_l ⟨hm, hFo, hG5, hG6, hG7, hG8, hG9, hG10, hG11, hG12, hG13, hG14, hG15, hG16, hG17, hG18, hG19, hG20, hG21, hG22, hG23⟩ hI (by omega) (by omega) (by omega) (by omega) 42 1 0 (by omega) (by omega) (by omega)
    · refine am_E.go (t2 := (15, [vR y, vI t, vI u, vU, vU], [vI (-1)], aq_h m s F c)) rfl rfl ?_
      refine am_E.ret rfl rfl ?_
      exact ⟨_, rfl, (aq_sm0 (c := c) (S := fun a => y ≤ a ∧ a < y + 24)), ⟨_, rfl⟩, hI⟩

theorem qm_closed_l {m s : Nat} {F : aq_F} {c0 : aq_C} {y : Nat} (hO : mo_0 m F y) {tbl : Int → Int} (hT : mo_T F y tbl) (hI : mo_I y c0) {t p : Int} (ht0 : 0 ≤ t) (ht1 : t < 8) : ∀ (d : Nat) (x : Int) (k : Int) (v6 : am_V) (c : aq_C) (hs : aq_sm (fun a => a = y + 13) c0 c) (h0 : 0 ≤ k) (h1 : k ≤ c0 (y + 6) t) (hd : c0 (y + 6) t - k < (d : Int)), am_E ac_X5_closed (26, [vR y, vI t, vI p, vL x, vU, vI k, v6], [], aq_h m s F c) (aq_Z m s F (fun a => y ≤ a ∧ a < y + 24) c0 (fun r d => aq_vl r ∧ mo_I y d))
  | 0, x, k, v6, c, hs, h0, h1, hd => by exfalso; omega
  | d + 1, x, k, v6, c, hs, h0, h1, hd => by
    obtain ⟨hm, hFo, hG5, hG6, hG7, hG8, hG9, hG10, hG11, hG12, hG13, hG14, hG15, hG16, hG17, hG18, hG19, hG20, hG21, hG22, hG23⟩ := hO
    obtain ⟨hT1, hTt⟩ := hT
    obtain ⟨hu1t, hu2t, hu3t, hu4t, hu5t⟩ := hI.2 t (by omega) (by omega)
    refine am_E.go (t2 := (28, [vR y, vI t, vI p, vL x, vU, vI k, v6], [vI k], aq_h m s F c)) rfl rfl ?_
    refine am_E.go (t2 := (29, [vR y, vI t, vI p, vL x, vU, vI k, v6], [vR y, vI k], aq_h m s F c)) rfl rfl ?_
    refine aq_gf (v := vR (y + 6)) rfl (by omega) hFo (by decide) rfl ?_
    show am_E _ (32, [vR y, vI t, vI p, vL x, vU, vI k, v6], [vR (y + 6), vI k], aq_h m s F c) _
    refine am_E.go (t2 := (33, [vR y, vI t, vI p, vL x, vU, vI k, v6], [vI t, vR (y + 6), vI k], aq_h m s F c)) rfl rfl ?_
    refine aq_al (ok := fun k => k == 0) (v := vI (c (y + 6) t)) rfl rfl (by omega) hG6 rfl (by omega) (by omega) rfl ?_
    show am_E _ (34, [vR y, vI t, vI p, vL x, vU, vI k, v6], [vI (c (y + 6) t), vI k], aq_h m s F c) _
    have f_1 := hs (y + 6) (by omega) t
    refine ae_icmp rfl (fun (q_2 : (c (y + 6) t) ≤ k) => ?_) (fun (q_2 : k < (c (y + 6) t)) => ?_)
    · refine am_E.go (t2 := (106, [vR y, vI t, vI p, vL x, vU, vI k, v6], [vL x], aq_h m s F c)) rfl rfl ?_
      refine am_E.ret rfl rfl ?_
      exact ⟨_, rfl, aq_smi hs (fun a h => by omega), ⟨_, rfl⟩, mo_Is hI hs (mo_ks mo_k0 hs (by omega)) (by omega) (by omega) (by omega) (by omega) (by omega)⟩
    · refine am_E.go (t2 := (38, [vR y, vI t, vI p, vL x, vU, vI k, v6], [vR y], aq_h m s F c)) rfl rfl ?_
      refine aq_gf (v := vR (y + 8)) rfl (by omega) hFo (by decide) rfl ?_
      show am_E _ (41, [vR y, vI t, vI p, vL x, vU, vI k, v6], [vR (y + 8)], aq_h m s F c) _
      refine am_E.go (t2 := (43, [vR y, vI t, vI p, vL x, vU, vI k, v6], [vI 40, vR (y + 8)], aq_h m s F c)) rfl rfl ?_
      refine am_E.go (t2 := (44, [vR y, vI t, vI p, vL x, vU, vI k, v6], [vI t, vI 40, vR (y + 8)], aq_h m s F c)) rfl rfl ?_
      refine ae_mul rfl (am_ri (by omega) (by omega)) ?_
      show am_E _ (45, [vR y, vI t, vI p, vL x, vU, vI k, v6], [vI (40 * t), vR (y + 8)], aq_h m s F c) _
      refine am_E.go (t2 := (47, [vR y, vI t, vI p, vL x, vU, vI k, v6], [vI k, vI (40 * t), vR (y + 8)], aq_h m s F c)) rfl rfl ?_
      refine ae_add rfl (am_ri (by omega) (by omega)) ?_
      show am_E _ (48, [vR y, vI t, vI p, vL x, vU, vI k, v6], [vI ((40 * t) + k), vR (y + 8)], aq_h m s F c) _
      refine aq_al (ok := fun k => k == 0) (v := vI (c (y + 8) ((40 * t) + k))) rfl rfl (by omega) hG8 rfl (by omega) (by omega) rfl ?_
      show am_E _ (49, [vR y, vI t, vI p, vL x, vU, vI k, v6], [vI (c (y + 8) ((40 * t) + k))], aq_h m s F c) _
      refine am_E.go (t2 := (50, [vR y, vI t, vI p, vL x, vU, vI k, v6], [vR y, vI (c (y + 8) ((40 * t) + k))], aq_h m s F c)) rfl rfl ?_
      refine am_E.go (t2 := (51, [vR y, vI t, vI p, vL x, vU, vI k, v6], [vR y, vR y, vI (c (y + 8) ((40 * t) + k))], aq_h m s F c)) rfl rfl ?_
      refine aq_gf (v := vR (y + 5)) rfl (by omega) hFo (by decide) rfl ?_
      show am_E _ (54, [vR y, vI t, vI p, vL x, vU, vI k, v6], [vR (y + 5), vR y, vI (c (y + 8) ((40 * t) + k))], aq_h m s F c) _
      refine am_E.go (t2 := (55, [vR y, vI t, vI p, vL x, vU, vI k, v6], [vI t, vR (y + 5), vR y, vI (c (y + 8) ((40 * t) + k))], aq_h m s F c)) rfl rfl ?_
      refine aq_al (ok := fun k => k == 0) (v := vI (c (y + 5) t)) rfl rfl (by omega) hG5 rfl (by omega) (by omega) rfl ?_
      show am_E _ (56, [vR y, vI t, vI p, vL x, vU, vI k, v6], [vI (c (y + 5) t), vR y, vI (c (y + 8) ((40 * t) + k))], aq_h m s F c) _
      have f_3 := hs (y + 5) (by omega) t
      refine am_E.go (t2 := (57, [vR y, vI t, vI p, vL x, vU, vI k, v6], [vR y, vI (c (y + 5) t), vR y, vI (c (y + 8) ((40 * t) + k))], aq_h m s F c)) rfl rfl ?_
      refine aq_gf (v := vR (y + 7)) rfl (by omega) hFo (by decide) rfl ?_
      show am_E _ (60, [vR y, vI t, vI p, vL x, vU, vI k, v6], [vR (y + 7), vI (c (y + 5) t), vR y, vI (c (y + 8) ((40 * t) + k))], aq_h m s F c) _
      refine am_E.go (t2 := (62, [vR y, vI t, vI p, vL x, vU, vI k, v6], [vI 40, vR (y + 7), vI (c (y + 5) t), vR y, vI (c (y + 8) ((40 * t) + k))], aq_h m s F c)) rfl rfl ?_
      refine am_E.go (t2 := (63, [vR y, vI t, vI p, vL x, vU, vI k, v6], [vI t, vI 40, vR (y + 7), vI (c (y + 5) t), vR y, vI (c (y + 8) ((40 * t) + k))], aq_h m s F c)) rfl rfl ?_
      refine ae_mul rfl (am_ri (by omega) (by omega)) ?_
      show am_E _ (64, [vR y, vI t, vI p, vL x, vU, vI k, v6], [vI (40 * t), vR (y + 7), vI (c (y + 5) t), vR y, vI (c (y + 8) ((40 * t) + k))], aq_h m s F c) _
      refine am_E.go (t2 := (66, [vR y, vI t, vI p, vL x, vU, vI k, v6], [vI k, vI (40 * t), vR (y + 7), vI (c (y + 5) t), vR y, vI (c (y + 8) ((40 * t) + k))], aq_h m s F c)) rfl rfl ?_
      refine ae_add rfl (am_ri (by omega) (by omega)) ?_
      show am_E _ (67, [vR y, vI t, vI p, vL x, vU, vI k, v6], [vI ((40 * t) + k), vR (y + 7), vI (c (y + 5) t), vR y, vI (c (y + 8) ((40 * t) + k))], aq_h m s F c) _
      refine aq_al (ok := fun k => k == 0) (v := vI (c (y + 7) ((40 * t) + k))) rfl rfl (by omega) hG7 rfl (by omega) (by omega) rfl ?_
      show am_E _ (68, [vR y, vI t, vI p, vL x, vU, vI k, v6], [vI (c (y + 7) ((40 * t) + k)), vI (c (y + 5) t), vR y, vI (c (y + 8) ((40 * t) + k))], aq_h m s F c) _
      have f_4 := hs (y + 7) (by omega) ((40 * t) + k)
      have f_4b := hu5t k (by omega) (by omega)
      refine aq_callv (y := 3) (as2 := [vI (c (y + 5) t), vI (c (y + 7) ((40 * t) + k))]) (rest := [vI (c (y + 8) ((40 * t) + k))]) rfl rfl (by decide) (Nat.le_of_ble_eq_true rfl) rfl rfl (Nat.le_of_ble_eq_true rfl) (by omega) hFo rfl (Nat.le_of_ble_eq_true rfl) (qm_rings (S := (fun a => a = y + 13)) ⟨hm, hFo, hG5, hG6, hG7, hG8, hG9, hG10, hG11, hG12, hG13, hG14, hG15, hG16, hG17, hG18, hG19, hG20, hG21, hG22, hG23⟩ rfl ⟨hT1, hTt⟩ (by omega) (by omega) (by omega) (by rw [hs (y + 5) (by omega)]; omega)) ?_
      rintro r5 h5 ⟨c_b, rfl, s_b, v_b, rfl, hv_b⟩
      show am_E _ (71, [vR y, vI t, vI p, vL x, vU, vI k, v6], [vI v_b, vI (c (y + 8) ((40 * t) + k))], aq_h m s F c_b) _
      refine am_E.go (t2 := (72, [vR y, vI t, vI p, vL x, vU, vI k, v6], [vI (am_w ((c (y + 8) ((40 * t) + k)) + v_b))], aq_h m s F c_b)) rfl rfl ?_
      refine am_E.go (t2 := (74, [vR y, vI t, vI p, vL x, vU, vI k, vI (am_w ((c (y + 8) ((40 * t) + k)) + v_b))], [], aq_h m s F c_b)) rfl rfl ?_
      refine am_E.go (t2 := (75, [vR y, vI t, vI p, vL x, vU, vI k, vI (am_w ((c (y + 8) ((40 * t) + k)) + v_b))], [vL x], aq_h m s F c_b)) rfl rfl ?_
      refine am_E.go (t2 := (77, [vR y, vI t, vI p, vL x, vU, vI k, vI (am_w ((c (y + 8) ((40 * t) + k)) + v_b))], [vI (am_w ((c (y + 8) ((40 * t) + k)) + v_b)), vL x], aq_h m s F c_b)) rfl rfl ?_
      refine am_E.go (t2 := (78, [vR y, vI t, vI p, vL x, vU, vI k, vI (am_w ((c (y + 8) ((40 * t) + k)) + v_b))], [vI p, vI (am_w ((c (y + 8) ((40 * t) + k)) + v_b)), vL x], aq_h m s F c_b)) rfl rfl ?_
      refine ae_icmp rfl (fun (q_5 : (am_w ((c (y + 8) ((40 * t) + k)) + v_b)) ≠ p) => ?_) (fun (q_5 : (am_w ((c (y + 8) ((40 * t) + k)) + v_b)) = p) => ?_)
      · refine am_E.go (t2 := (97, [vR y, vI t, vI p, vL x, vU, vI k, vI (am_w ((c (y + 8) ((40 * t) + k)) + v_b))], [vL 0, vL x], aq_h m s F c_b)) rfl rfl ?_
        refine am_E.go (t2 := (98, [vR y, vI t, vI p, vL x, vU, vI k, vI (am_w ((c (y + 8) ((40 * t) + k)) + v_b))], [vL (am_wl (x + 0))], aq_h m s F c_b)) rfl rfl ?_
        refine am_E.go (t2 := (99, [vR y, vI t, vI p, vL (am_wl (x + 0)), vU, vI k, vI (am_w ((c (y + 8) ((40 * t) + k)) + v_b))], [], aq_h m s F c_b)) rfl rfl ?_
        refine ae_iinc rfl rfl (am_ri (by omega) (by omega)) ?_
        show am_E _ (102, [vR y, vI t, vI p, vL (am_wl (x + 0)), vU, vI (k + 1), vI (am_w ((c (y + 8) ((40 * t) + k)) + v_b))], [], aq_h m s F c_b) _
        refine am_E.go (t2 := (26, [vR y, vI t, vI p, vL (am_wl (x + 0)), vU, vI (k + 1), vI (am_w ((c (y + 8) ((40 * t) + k)) + v_b))], [], aq_h m s F c_b)) rfl rfl ?_
        exact qm_closed_l ⟨hm, hFo, hG5, hG6, hG7, hG8, hG9, hG10, hG11, hG12, hG13, hG14, hG15, hG16, hG17, hG18, hG19, hG20, hG21, hG22, hG23⟩ ⟨hT1, hTt⟩ hI ht0 ht1 d (am_wl (x + 0)) (k + 1) (vI (am_w ((c (y + 8) ((40 * t) + k)) + v_b))) c_b (aq_smt hs s_b) (by omega) (by omega) (by omega)
      · refine am_E.go (t2 := (82, [vR y, vI t, vI p, vL x, vU, vI k, vI (am_w ((c (y + 8) ((40 * t) + k)) + v_b))], [vR y, vL x], aq_h m s F c_b)) rfl rfl ?_
        refine aq_gf (v := vR (y + 9)) rfl (by omega) hFo (by decide) rfl ?_
        show am_E _ (85, [vR y, vI t, vI p, vL x, vU, vI k, vI (am_w ((c (y + 8) ((40 * t) + k)) + v_b))], [vR (y + 9), vL x], aq_h m s F c_b) _
        refine am_E.go (t2 := (87, [vR y, vI t, vI p, vL x, vU, vI k, vI (am_w ((c (y + 8) ((40 * t) + k)) + v_b))], [vI 40, vR (y + 9), vL x], aq_h m s F c_b)) rfl rfl ?_
        refine am_E.go (t2 := (88, [vR y, vI t, vI p, vL x, vU, vI k, vI (am_w ((c (y + 8) ((40 * t) + k)) + v_b))], [vI t, vI 40, vR (y + 9), vL x], aq_h m s F c_b)) rfl rfl ?_
        refine ae_mul rfl (am_ri (by omega) (by omega)) ?_
        show am_E _ (89, [vR y, vI t, vI p, vL x, vU, vI k, vI (am_w ((c (y + 8) ((40 * t) + k)) + v_b))], [vI (40 * t), vR (y + 9), vL x], aq_h m s F c_b) _
        refine am_E.go (t2 := (91, [vR y, vI t, vI p, vL x, vU, vI k, vI (am_w ((c (y + 8) ((40 * t) + k)) + v_b))], [vI k, vI (40 * t), vR (y + 9), vL x], aq_h m s F c_b)) rfl rfl ?_
        refine ae_add rfl (am_ri (by omega) (by omega)) ?_
        show am_E _ (92, [vR y, vI t, vI p, vL x, vU, vI k, vI (am_w ((c (y + 8) ((40 * t) + k)) + v_b))], [vI ((40 * t) + k), vR (y + 9), vL x], aq_h m s F c_b) _
        refine aq_al (ok := fun k => k == 2) (v := vL (c_b (y + 9) ((40 * t) + k))) rfl rfl (by omega) hG9 rfl (by omega) (by omega) rfl ?_
        show am_E _ (93, [vR y, vI t, vI p, vL x, vU, vI k, vI (am_w ((c (y + 8) ((40 * t) + k)) + v_b))], [vL (c_b (y + 9) ((40 * t) + k)), vL x], aq_h m s F c_b) _
        refine am_E.go (t2 := (97, [vR y, vI t, vI p, vL x, vU, vI k, vI (am_w ((c (y + 8) ((40 * t) + k)) + v_b))], [vL (c_b (y + 9) ((40 * t) + k)), vL x], aq_h m s F c_b)) rfl rfl ?_
        refine am_E.go (t2 := (98, [vR y, vI t, vI p, vL x, vU, vI k, vI (am_w ((c (y + 8) ((40 * t) + k)) + v_b))], [vL (am_wl (x + (c_b (y + 9) ((40 * t) + k))))], aq_h m s F c_b)) rfl rfl ?_
        refine am_E.go (t2 := (99, [vR y, vI t, vI p, vL (am_wl (x + (c_b (y + 9) ((40 * t) + k)))), vU, vI k, vI (am_w ((c (y + 8) ((40 * t) + k)) + v_b))], [], aq_h m s F c_b)) rfl rfl ?_
        refine ae_iinc rfl rfl (am_ri (by omega) (by omega)) ?_
        show am_E _ (102, [vR y, vI t, vI p, vL (am_wl (x + (c_b (y + 9) ((40 * t) + k)))), vU, vI (k + 1), vI (am_w ((c (y + 8) ((40 * t) + k)) + v_b))], [], aq_h m s F c_b) _
        refine am_E.go (t2 := (26, [vR y, vI t, vI p, vL (am_wl (x + (c_b (y + 9) ((40 * t) + k)))), vU, vI (k + 1), vI (am_w ((c (y + 8) ((40 * t) + k)) + v_b))], [], aq_h m s F c_b)) rfl rfl ?_
        exact qm_closed_l ⟨hm, hFo, hG5, hG6, hG7, hG8, hG9, hG10, hG11, hG12, hG13, hG14, hG15, hG16, hG17, hG18, hG19, hG20, hG21, hG22, hG23⟩ ⟨hT1, hTt⟩ hI ht0 ht1 d (am_wl (x + (c_b (y + 9) ((40 * t) + k)))) (k + 1) (vI (am_w ((c (y + 8) ((40 * t) + k)) + v_b))) c_b (aq_smt hs s_b) (by omega) (by omega) (by omega)

theorem qm_X5_closed {m s : Nat} {F : aq_F} {c : aq_C} {y : Nat} (hC : mo_C m F y) (hI : mo_I y c) {t p : Int} : am_E ac_X5_closed (0, [vR y, vI t, vI p, vU, vU, vU, vU], [], aq_h m s F c) (aq_Z m s F (fun a => y ≤ a ∧ a < y + 24) c (fun r d => aq_vl r ∧ mo_I y d)) := by
  obtain ⟨⟨hm, hFo, hG5, hG6, hG7, hG8, hG9, hG10, hG11, hG12, hG13, hG14, hG15, hG16, hG17, hG18, hG19, hG20, hG21, hG22, hG23⟩, ⟨tbl, hT1, hTt⟩, ⟨tA, tB, tD, hL1, hL2, hL3, hLt⟩⟩ := hC
  refine am_E.go (t2 := (1, [vR y, vI t, vI p, vU, vU, vU, vU], [vI t], aq_h m s F c)) rfl rfl ?_
  refine am_E.call rfl rfl rfl (Nat.le_of_ble_eq_true rfl) (qm_isSum) ?_
  rintro r5 h5 ⟨rfl, v_1, rfl, hv_1⟩
  show am_E _ (4, [vR y, vI t, vI p, vU, vU, vU, vU], [vI v_1], aq_h m s F c) _
  refine ae_if0 rfl (fun (q_2 : v_1 = 0) => ?_) (fun (q_2 : v_1 ≠ 0) => ?_)
  · refine am_E.go (t2 := (20, [vR y, vI t, vI p, vU, vU, vU, vU], [vL 0], aq_h m s F c)) rfl rfl ?_
    refine am_E.ret rfl rfl ?_
    exact ⟨_, rfl, aq_smi (aq_sm0 (c := c) (S := (fun a => a = y + 13))) (fun a h => by omega), ⟨_, rfl⟩, mo_Is hI (aq_sm0 (c := c) (S := (fun a => a = y + 13))) (mo_ks mo_k0 (aq_sm0 (c := c) (S := (fun a => a = y + 13))) (by omega)) (by omega) (by omega) (by omega) (by omega) (by omega)⟩
  · refine am_E.go (t2 := (8, [vR y, vI t, vI p, vU, vU, vU, vU], [vI p], aq_h m s F c)) rfl rfl ?_
    refine am_E.go (t2 := (9, [vR y, vI t, vI p, vU, vU, vU, vU], [vL p], aq_h m s F c)) rfl rfl ?_
    refine am_E.go (t2 := (10, [vR y, vI t, vI p, vU, vU, vU, vU], [vL 0, vL p], aq_h m s F c)) rfl rfl ?_
    refine am_E.go (t2 := (13, [vR y, vI t, vI p, vU, vU, vU, vU], [vL 24, vL 0, vL p], aq_h m s F c)) rfl rfl ?_
    refine am_E.call rfl rfl rfl (Nat.le_of_ble_eq_true rfl) (qm_in) ?_
    rintro r5 h5 ⟨rfl, v_3, rfl, hv_3⟩
    show am_E _ (16, [vR y, vI t, vI p, vU, vU, vU, vU], [vI v_3], aq_h m s F c) _
    refine ae_if0 rfl (fun (q_4 : v_3 ≠ 0) => ?_) (fun (q_4 : v_3 = 0) => ?_)
    · have hu3t := (hI.2 t (by omega) (by omega)).2.2.1
      have hu4t := (hI.2 t (by omega) (by omega)).2.2.2.1
      refine am_E.go (t2 := (22, [vR y, vI t, vI p, vU, vU, vU, vU], [vL 0], aq_h m s F c)) rfl rfl ?_
      refine am_E.go (t2 := (23, [vR y, vI t, vI p, vL 0, vU, vU, vU], [], aq_h m s F c)) rfl rfl ?_
      refine am_E.go (t2 := (24, [vR y, vI t, vI p, vL 0, vU, vU, vU], [vI 0], aq_h m s F c)) rfl rfl ?_
      refine am_E.go (t2 := (26, [vR y, vI t, vI p, vL 0, vU, vI 0, vU], [], aq_h m s F c)) rfl rfl ?_
      exact qm_closed_l ⟨hm, hFo, hG5, hG6, hG7, hG8, hG9, hG10, hG11, hG12, hG13, hG14, hG15, hG16, hG17, hG18, hG19, hG20, hG21, hG22, hG23⟩ ⟨hT1, hTt⟩ hI (by omega) (by omega) 41 0 0 (vU) c (aq_sm0 (c := c) (S := (fun a => a = y + 13))) (by omega) (by have := (hI.2 t (by omega) (by omega)).2.2.1; omega) (by omega)
    · refine am_E.go (t2 := (20, [vR y, vI t, vI p, vU, vU, vU, vU], [vL 0], aq_h m s F c)) rfl rfl ?_
      refine am_E.ret rfl rfl ?_
      exact ⟨_, rfl, aq_smi (aq_sm0 (c := c) (S := (fun a => a = y + 13))) (fun a h => by omega), ⟨_, rfl⟩, mo_Is hI (aq_sm0 (c := c) (S := (fun a => a = y + 13))) (mo_ks mo_k0 (aq_sm0 (c := c) (S := (fun a => a = y + 13))) (by omega)) (by omega) (by omega) (by omega) (by omega) (by omega)⟩
