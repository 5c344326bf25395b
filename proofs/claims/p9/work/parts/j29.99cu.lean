
/-- the sum t, as the reference keeps it -/
def rf_v (y : Nat) (t : Int) (c : aq_C) : sm_ := (c (y + 6) t, fun i => c (y + 7) (40 * t + i), fun i => c (y + 8) (40 * t + i), fun i => c (y + 9) (40 * t + i))

theorem qx_load_l {m s : Nat} {F : aq_F} {c0 : aq_C} {y : Nat} (hO : mo_0 m F y) {t : Int} (ht0 : 0 ≤ t) (ht1 : t < 8) (hu3 : 0 ≤ c0 (y + 6) t) (hu4 : c0 (y + 6) t ≤ 40) : ∀ (d : Nat) (k : Int) (c : aq_C) (hs : aq_sm (fun a => a = y ∨ a = y + 15 ∨ a = y + 16 ∨ a = y + 17) c0 c) (hz : c y 17 = c0 (y + 6) t) (hq : mo_q y c0 c) (h0 : 0 ≤ k) (h1 : k ≤ c0 (y + 6) t) (hv : ∀ j, 0 ≤ j → j < k → c (y + 15) j = c0 (y + 7) (40 * t + j) ∧ c (y + 16) j = c0 (y + 8) (40 * t + j) ∧ c (y + 17) j = c0 (y + 9) (40 * t + j)) (hd : c0 (y + 6) t - k < (d : Int)), am_E ac_X5_load (12, [vR y, vI t, vI k], [], aq_h m s F c) (aq_Z m s F (fun a => a = y ∨ a = y + 15 ∨ a = y + 16 ∨ a = y + 17) c0 (fun r d => r = none ∧ mo_q y c0 d ∧ sm_e (rf_v y t c0) (mr_v y d)))
  | 0, k, c, hs, hz, hq, h0, h1, hv, hd => by exfalso; omega
  | d + 1, k, c, hs, hz, hq, h0, h1, hv, hd => by
    obtain ⟨hm, hFo, hG5, hG6, hG7, hG8, hG9, hG10, hG11, hG12, hG13, hG14, hG15, hG16, hG17, hG18, hG19, hG20, hG21, hG22, hG23⟩ := hO
    refine am_E.go (t2 := (13, [vR y, vI t, vI k], [vI k], aq_h m s F c)) rfl rfl ?_
    refine am_E.go (t2 := (14, [vR y, vI t, vI k], [vR y, vI k], aq_h m s F c)) rfl rfl ?_
    refine aq_gf (v := vI (c y 17)) rfl (by omega) hFo (by decide) rfl ?_
    show am_E _ (17, [vR y, vI t, vI k], [vI (c y 17), vI k], aq_h m s F c) _
    have f_1 := hz
    refine ae_icmp rfl (fun (q_2 : (c y 17) ≤ k) => ?_) (fun (q_2 : k < (c y 17)) => ?_)
    · refine am_E.ret rfl rfl ?_
      refine ⟨_, rfl, hs, rfl, hq, hz.symm, fun j h5 h6 => ?_⟩
      have h7 : j < c0 (y + 6) t := h6
      have a1 := hv j h5 (by omega)
      exact ⟨a1.1.symm, a1.2.1.symm, a1.2.2.symm⟩
    · refine am_E.go (t2 := (21, [vR y, vI t, vI k], [vR y], aq_h m s F c)) rfl rfl ?_
      refine aq_gf (v := vR (y + 15)) rfl (by omega) hFo (by decide) rfl ?_
      show am_E _ (24, [vR y, vI t, vI k], [vR (y + 15)], aq_h m s F c) _
      refine am_E.go (t2 := (25, [vR y, vI t, vI k], [vI k, vR (y + 15)], aq_h m s F c)) rfl rfl ?_
      refine am_E.go (t2 := (26, [vR y, vI t, vI k], [vR y, vI k, vR (y + 15)], aq_h m s F c)) rfl rfl ?_
      refine aq_gf (v := vR (y + 7)) rfl (by omega) hFo (by decide) rfl ?_
      show am_E _ (29, [vR y, vI t, vI k], [vR (y + 7), vI k, vR (y + 15)], aq_h m s F c) _
      refine am_E.go (t2 := (31, [vR y, vI t, vI k], [vI 40, vR (y + 7), vI k, vR (y + 15)], aq_h m s F c)) rfl rfl ?_
      refine am_E.go (t2 := (32, [vR y, vI t, vI k], [vI t, vI 40, vR (y + 7), vI k, vR (y + 15)], aq_h m s F c)) rfl rfl ?_
      refine ae_mul rfl (am_ri (by omega) (by omega)) ?_
      show am_E _ (33, [vR y, vI t, vI k], [vI (40 * t), vR (y + 7), vI k, vR (y + 15)], aq_h m s F c) _
      refine am_E.go (t2 := (34, [vR y, vI t, vI k], [vI k, vI (40 * t), vR (y + 7), vI k, vR (y + 15)], aq_h m s F c)) rfl rfl ?_
      refine ae_add rfl (am_ri (by omega) (by omega)) ?_
      show am_E _ (35, [vR y, vI t, vI k], [vI ((40 * t) + k), vR (y + 7), vI k, vR (y + 15)], aq_h m s F c) _
      refine aq_al (ok := fun k => k == 0) (v := vI (c (y + 7) ((40 * t) + k))) rfl rfl (by omega) hG7 rfl (by omega) (by omega) rfl ?_
      show am_E _ (36, [vR y, vI t, vI k], [vI (c (y + 7) ((40 * t) + k)), vI k, vR (y + 15)], aq_h m s F c) _
      refine aq_as (kd := 0) rfl rfl (by omega) hG15 (by omega) (by omega) rfl rfl ?_
      show am_E _ (37, [vR y, vI t, vI k], [], aq_h m s F (aq_u c (y + 15) k (c (y + 7) ((40 * t) + k)))) _
      generalize hdc_3 : aq_u c (y + 15) k (c (y + 7) ((40 * t) + k)) = c_3
      have sc_3 := aq_smu hs hdc_3 (Or.inr (Or.inl rfl))
      refine am_E.go (t2 := (38, [vR y, vI t, vI k], [vR y], aq_h m s F c_3)) rfl rfl ?_
      refine aq_gf (v := vR (y + 16)) rfl (by omega) hFo (by decide) rfl ?_
      show am_E _ (41, [vR y, vI t, vI k], [vR (y + 16)], aq_h m s F c_3) _
      refine am_E.go (t2 := (42, [vR y, vI t, vI k], [vI k, vR (y + 16)], aq_h m s F c_3)) rfl rfl ?_
      refine am_E.go (t2 := (43, [vR y, vI t, vI k], [vR y, vI k, vR (y + 16)], aq_h m s F c_3)) rfl rfl ?_
      refine aq_gf (v := vR (y + 8)) rfl (by omega) hFo (by decide) rfl ?_
      show am_E _ (46, [vR y, vI t, vI k], [vR (y + 8), vI k, vR (y + 16)], aq_h m s F c_3) _
      refine am_E.go (t2 := (48, [vR y, vI t, vI k], [vI 40, vR (y + 8), vI k, vR (y + 16)], aq_h m s F c_3)) rfl rfl ?_
      refine am_E.go (t2 := (49, [vR y, vI t, vI k], [vI t, vI 40, vR (y + 8), vI k, vR (y + 16)], aq_h m s F c_3)) rfl rfl ?_
      refine ae_mul rfl (am_ri (by omega) (by omega)) ?_
      show am_E _ (50, [vR y, vI t, vI k], [vI (40 * t), vR (y + 8), vI k, vR (y + 16)], aq_h m s F c_3) _
      refine am_E.go (t2 := (51, [vR y, vI t, vI k], [vI k, vI (40 * t), vR (y + 8), vI k, vR (y + 16)], aq_h m s F c_3)) rfl rfl ?_
      refine ae_add rfl (am_ri (by omega) (by omega)) ?_
      show am_E _ (52, [vR y, vI t, vI k], [vI ((40 * t) + k), vR (y + 8), vI k, vR (y + 16)], aq_h m s F c_3) _
      refine aq_al (ok := fun k => k == 0) (v := vI (c_3 (y + 8) ((40 * t) + k))) rfl rfl (by omega) hG8 rfl (by omega) (by omega) rfl ?_
      show am_E _ (53, [vR y, vI t, vI k], [vI (c_3 (y + 8) ((40 * t) + k)), vI k, vR (y + 16)], aq_h m s F c_3) _
      refine aq_as (kd := 0) rfl rfl (by omega) hG16 (by omega) (by omega) rfl rfl ?_
      show am_E _ (54, [vR y, vI t, vI k], [], aq_h m s F (aq_u c_3 (y + 16) k (c_3 (y + 8) ((40 * t) + k)))) _
      generalize hdc_4 : aq_u c_3 (y + 16) k (c_3 (y + 8) ((40 * t) + k)) = c_4
      have sc_4 := aq_smu sc_3 hdc_4 (Or.inr (Or.inr (Or.inl rfl)))
      refine am_E.go (t2 := (55, [vR y, vI t, vI k], [vR y], aq_h m s F c_4)) rfl rfl ?_
      refine aq_gf (v := vR (y + 17)) rfl (by omega) hFo (by decide) rfl ?_
      show am_E _ (58, [vR y, vI t, vI k], [vR (y + 17)], aq_h m s F c_4) _
      refine am_E.go (t2 := (59, [vR y, vI t, vI k], [vI k, vR (y + 17)], aq_h m s F c_4)) rfl rfl ?_
      refine am_E.go (t2 := (60, [vR y, vI t, vI k], [vR y, vI k, vR (y + 17)], aq_h m s F c_4)) rfl rfl ?_
      refine aq_gf (v := vR (y + 9)) rfl (by omega) hFo (by decide) rfl ?_
      show am_E _ (63, [vR y, vI t, vI k], [vR (y + 9), vI k, vR (y + 17)], aq_h m s F c_4) _
      refine am_E.go (t2 := (65, [vR y, vI t, vI k], [vI 40, vR (y + 9), vI k, vR (y + 17)], aq_h m s F c_4)) rfl rfl ?_
      refine am_E.go (t2 := (66, [vR y, vI t, vI k], [vI t, vI 40, vR (y + 9), vI k, vR (y + 17)], aq_h m s F c_4)) rfl rfl ?_
      refine ae_mul rfl (am_ri (by omega) (by omega)) ?_
      show am_E _ (67, [vR y, vI t, vI k], [vI (40 * t), vR (y + 9), vI k, vR (y + 17)], aq_h m s F c_4) _
      refine am_E.go (t2 := (68, [vR y, vI t, vI k], [vI k, vI (40 * t), vR (y + 9), vI k, vR (y + 17)], aq_h m s F c_4)) rfl rfl ?_
      refine ae_add rfl (am_ri (by omega) (by omega)) ?_
      show am_E _ (69, [vR y, vI t, vI k], [vI ((40 * t) + k), vR (y + 9), vI k, vR (y + 17)], aq_h m s F c_4) _
      refine aq_al (ok := fun k => k == 2) (v := vL (c_4 (y + 9) ((40 * t) + k))) rfl rfl (by omega) hG9 rfl (by omega) (by omega) rfl ?_
      show am_E _ (70, [vR y, vI t, vI k], [vL (c_4 (y + 9) ((40 * t) + k)), vI k, vR (y + 17)], aq_h m s F c_4) _
      refine aq_asl rfl rfl (by omega) hG17 (by omega) (by omega) rfl ?_
      show am_E _ (71, [vR y, vI t, vI k], [], aq_h m s F (aq_u c_4 (y + 17) k (c_4 (y + 9) ((40 * t) + k)))) _
      generalize hdc_5 : aq_u c_4 (y + 17) k (c_4 (y + 9) ((40 * t) + k)) = c_5
      have sc_5 := aq_smu sc_4 hdc_5 (Or.inr (Or.inr (Or.inr rfl)))
      refine ae_iinc rfl rfl (am_ri (by omega) (by omega)) ?_
      show am_E _ (74, [vR y, vI t, vI (k + 1)], [], aq_h m s F c_5) _
      refine am_E.go (t2 := (12, [vR y, vI t, vI (k + 1)], [], aq_h m s F c_5)) rfl rfl ?_
      exact qx_load_l ⟨hm, hFo, hG5, hG6, hG7, hG8, hG9, hG10, hG11, hG12, hG13, hG14, hG15, hG16, hG17, hG18, hG19, hG20, hG21, hG22, hG23⟩ ht0 ht1 hu3 hu4 d (k + 1) c_5 sc_5 (by rw [← hdc_5, aq_un (Or.inl (by omega)), ← hdc_4, aq_un (Or.inl (by omega)), ← hdc_3, aq_un (Or.inl (by omega))]; exact hz) (mo_qu (mo_qu (mo_qu hq hdc_3 (Or.inl (by omega))) hdc_4 (Or.inl (by omega))) hdc_5 (Or.inl (by omega))) (by omega) (by omega) (fun j h5 h6 => by
      by_cases e : j = k
      · rw [e]
        refine ⟨?_, ?_, ?_⟩
        · rw [← hdc_5, aq_un (Or.inl (by omega)), ← hdc_4, aq_un (Or.inl (by omega)), ← hdc_3, aq_us, hs _ (by omega)]
        · rw [← hdc_5, aq_un (Or.inl (by omega)), ← hdc_4, aq_us, ← hdc_3, aq_un (Or.inl (by omega)), hs _ (by omega)]
        · rw [← hdc_5, aq_us, ← hdc_4, aq_un (Or.inl (by omega)), ← hdc_3, aq_un (Or.inl (by omega)), hs _ (by omega)]
      · have a1 := hv j h5 (by omega)
        refine ⟨?_, ?_, ?_⟩
        · rw [← hdc_5, aq_un (Or.inl (by omega)), ← hdc_4, aq_un (Or.inl (by omega)), ← hdc_3, aq_un (Or.inr e)]
          exact a1.1
        · rw [← hdc_5, aq_un (Or.inl (by omega)), ← hdc_4, aq_un (Or.inr e), ← hdc_3, aq_un (Or.inl (by omega))]
          exact a1.2.1
        · rw [← hdc_5, aq_un (Or.inr e), ← hdc_4, aq_un (Or.inl (by omega)), ← hdc_3, aq_un (Or.inl (by omega))]
          exact a1.2.2) (by omega)

theorem qx_load {m s : Nat} {F : aq_F} {c : aq_C} {y : Nat} (hO : mo_0 m F y) {t : Int} (ht0 : 0 ≤ t) (ht1 : t < 8) (hu3 : 0 ≤ c (y + 6) t) (hu4 : c (y + 6) t ≤ 40) : am_E ac_X5_load (0, [vR y, vI t, vU], [], aq_h m s F c) (aq_Z m s F (fun a => a = y ∨ a = y + 15 ∨ a = y + 16 ∨ a = y + 17) c (fun r d => r = none ∧ mo_q y c d ∧ sm_e (rf_v y t c) (mr_v y d))) := by
  obtain ⟨hm, hFo, hG5, hG6, hG7, hG8, hG9, hG10, hG11, hG12, hG13, hG14, hG15, hG16, hG17, hG18, hG19, hG20, hG21, hG22, hG23⟩ := hO
  refine am_E.go (t2 := (1, [vR y, vI t, vU], [vR y], aq_h m s F c)) rfl rfl ?_
  refine am_E.go (t2 := (2, [vR y, vI t, vU], [vR y, vR y], aq_h m s F c)) rfl rfl ?_
  refine aq_gf (v := vR (y + 6)) rfl (by omega) hFo (by decide) rfl ?_
  show am_E _ (5, [vR y, vI t, vU], [vR (y + 6), vR y], aq_h m s F c) _
  refine am_E.go (t2 := (6, [vR y, vI t, vU], [vI t, vR (y + 6), vR y], aq_h m s F c)) rfl rfl ?_
  refine aq_al (ok := fun k => k == 0) (v := vI (c (y + 6) t)) rfl rfl (by omega) hG6 rfl (by omega) (by omega) rfl ?_
  show am_E _ (7, [vR y, vI t, vU], [vI (c (y + 6) t), vR y], aq_h m s F c) _
  refine aq_pf rfl (by omega) hFo (by decide) rfl rfl ?_
  show am_E _ (10, [vR y, vI t, vU], [], aq_h m s F (aq_u c y 17 (c (y + 6) t))) _
  generalize hdc_1 : aq_u c y 17 (c (y + 6) t) = c_1
  have sc_1 := aq_smu (aq_sm0 (c := c) (S := (fun a => a = y ∨ a = y + 15 ∨ a = y + 16 ∨ a = y + 17))) hdc_1 (Or.inl rfl)
  refine am_E.go (t2 := (11, [vR y, vI t, vU], [vI 0], aq_h m s F c_1)) rfl rfl ?_
  refine am_E.go (t2 := (12, [vR y, vI t, vI 0], [], aq_h m s F c_1)) rfl rfl ?_
  exact qx_load_l ⟨hm, hFo, hG5, hG6, hG7, hG8, hG9, hG10, hG11, hG12, hG13, hG14, hG15, hG16, hG17, hG18, hG19, hG20, hG21, hG22, hG23⟩ ht0 ht1 hu3 hu4 41 0 c_1 sc_1 (by rw [← hdc_1, aq_us]) (mo_qu mo_q0 hdc_1 (Or.inr (by decide))) (by omega) (by omega) (fun j h5 h6 => absurd h6 (by omega)) (by omega)

theorem qx_store_l {m s : Nat} {F : aq_F} {c0 : aq_C} {y : Nat} (hO : mo_0 m F y) {t n : Int} (ht0 : 0 ≤ t) (ht1 : t < 8) (hn1 : 1 ≤ n) (hn4 : n ≤ 4) (hI : mo_I y c0) (hR : mo_R y (bx_K n) c0) : ∀ (d : Nat) (k : Int) (c : aq_C) (hs : aq_sm (fun a => y + 5 ≤ a ∧ a ≤ y + 9) c0 c) (h0 : 0 ≤ k) (h1 : k ≤ c0 y 17) (h5 : ∀ i, c (y + 5) i = if i = t then n else c0 (y + 5) i) (h6 : ∀ i, c (y + 6) i = if i = t then c0 y 17 else c0 (y + 6) i) (h7 : ∀ i, (∀ j, 0 ≤ j → j < 40 → i ≠ 40 * t + j) → c (y + 7) i = c0 (y + 7) i) (h8 : ∀ i, (∀ j, 0 ≤ j → j < 40 → i ≠ 40 * t + j) → c (y + 8) i = c0 (y + 8) i) (h9 : ∀ i, (∀ j, 0 ≤ j → j < 40 → i ≠ 40 * t + j) → c (y + 9) i = c0 (y + 9) i) (h7k : ∀ j, 0 ≤ j → j < k → c (y + 7) (40 * t + j) = c0 (y + 15) j) (h8k : ∀ j, 0 ≤ j → j < k → c (y + 8) (40 * t + j) = c0 (y + 16) j) (h9k : ∀ j, 0 ≤ j → j < k → c (y + 9) (40 * t + j) = c0 (y + 17) j) (hd : c0 y 17 - k < (d : Int)), am_E ac_X5_store (19, [vR y, vI t, vI n, vI k], [], aq_h m s F c) (aq_Z m s F (fun a => y + 5 ≤ a ∧ a ≤ y + 9) c0 (fun r d => r = some (vI (c0 y 17)) ∧ mo_I y d ∧ (∀ i, d (y + 5) i = if i = t then n else c0 (y + 5) i) ∧ (∀ i, i ≠ t → d (y + 6) i = c0 (y + 6) i) ∧ sm_e (mr_v y c0) (rf_v y t d) ∧ ∀ i, (∀ j, 0 ≤ j → j < 40 → i ≠ 40 * t + j) → d (y + 7) i = c0 (y + 7) i ∧ d (y + 8) i = c0 (y + 8) i ∧ d (y + 9) i = c0 (y + 9) i))
  | 0, k, c, hs, h0, h1, h5, h6, h7, h8, h9, h7k, h8k, h9k, hd => by exfalso; omega
  | d + 1, k, c, hs, h0, h1, h5, h6, h7, h8, h9, h7k, h8k, h9k, hd => by
    obtain ⟨hm, hFo, hG5, hG6, hG7, hG8, hG9, hG10, hG11, hG12, hG13, hG14, hG15, hG16, hG17, hG18, hG19, hG20, hG21, hG22, hG23⟩ := hO
    have hR1 := hR.1
    have hR2 := hR.2.1
    refine am_E.go (t2 := (20, [vR y, vI t, vI n, vI k], [vI k], aq_h m s F c)) rfl rfl ?_
    refine am_E.go (t2 := (21, [vR y, vI t, vI n, vI k], [vR y, vI k], aq_h m s F c)) rfl rfl ?_
    refine aq_gf (v := vI (c y 17)) rfl (by omega) hFo (by decide) rfl ?_
    show am_E _ (24, [vR y, vI t, vI n, vI k], [vI (c y 17), vI k], aq_h m s F c) _
    have f_1 := hs y (by omega) 17
    refine ae_icmp rfl (fun (q_2 : (c y 17) ≤ k) => ?_) (fun (q_2 : k < (c y 17)) => ?_)
    · refine am_E.go (t2 := (85, [vR y, vI t, vI n, vI k], [vR y], aq_h m s F c)) rfl rfl ?_
      refine aq_gf (v := vI (c y 17)) rfl (by omega) hFo (by decide) rfl ?_
      show am_E _ (88, [vR y, vI t, vI n, vI k], [vI (c y 17)], aq_h m s F c) _
      have f_3 := hs y (by omega) 17
      refine am_E.ret rfl rfl ?_
      refine ⟨_, rfl, hs, by rw [hs y (by omega) 17], mo_Ist hI hR hn1 hn4 hs h5 h6 h7 h9 (fun j h8 h10 => h7k j h8 (by omega)) (fun j h8 h10 => h9k j h8 (by omega)), h5, fun i hi => by rw [h6 i, if_neg hi], ⟨by show c0 y 17 = c (y + 6) t; rw [h6 t, if_pos rfl], fun j j0 j1 => ?_⟩, fun i hi => ⟨h7 i hi, h8 i hi, h9 i hi⟩⟩
      have j2 : j < c0 y 17 := j1
      exact ⟨(h7k j j0 (by omega)).symm, (h8k j j0 (by omega)).symm, (h9k j j0 (by omega)).symm⟩
    · refine am_E.go (t2 := (28, [vR y, vI t, vI n, vI k], [vR y], aq_h m s F c)) rfl rfl ?_
      refine aq_gf (v := vR (y + 7)) rfl (by omega) hFo (by decide) rfl ?_
      show am_E _ (31, [vR y, vI t, vI n, vI k], [vR (y + 7)], aq_h m s F c) _
      refine am_E.go (t2 := (33, [vR y, vI t, vI n, vI k], [vI 40, vR (y + 7)], aq_h m s F c)) rfl rfl ?_
      refine am_E.go (t2 := (34, [vR y, vI t, vI n, vI k], [vI t, vI 40, vR (y + 7)], aq_h m s F c)) rfl rfl ?_
      refine ae_mul rfl (am_ri (by omega) (by omega)) ?_
      show am_E _ (35, [vR y, vI t, vI n, vI k], [vI (40 * t), vR (y + 7)], aq_h m s F c) _
      refine am_E.go (t2 := (36, [vR y, vI t, vI n, vI k], [vI k, vI (40 * t), vR (y + 7)], aq_h m s F c)) rfl rfl ?_
      refine ae_add rfl (am_ri (by omega) (by omega)) ?_
      show am_E _ (37, [vR y, vI t, vI n, vI k], [vI ((40 * t) + k), vR (y + 7)], aq_h m s F c) _
      refine am_E.go (t2 := (38, [vR y, vI t, vI n, vI k], [vR y, vI ((40 * t) + k), vR (y + 7)], aq_h m s F c)) rfl rfl ?_
      refine aq_gf (v := vR (y + 15)) rfl (by omega) hFo (by decide) rfl ?_
      show am_E _ (41, [vR y, vI t, vI n, vI k], [vR (y + 15), vI ((40 * t) + k), vR (y + 7)], aq_h m s F c) _
      refine am_E.go (t2 := (42, [vR y, vI t, vI n, vI k], [vI k, vR (y + 15), vI ((40 * t) + k), vR (y + 7)], aq_h m s F c)) rfl rfl ?_
      refine aq_al (ok := fun k => k == 0) (v := vI (c (y + 15) k)) rfl rfl (by omega) hG15 rfl (by omega) (by omega) rfl ?_
      show am_E _ (43, [vR y, vI t, vI n, vI k], [vI (c (y + 15) k), vI ((40 * t) + k), vR (y + 7)], aq_h m s F c) _
      refine aq_as (kd := 0) rfl rfl (by omega) hG7 (by omega) (by omega) rfl rfl ?_
      show am_E _ (44, [vR y, vI t, vI n, vI k], [], aq_h m s F (aq_u c (y + 7) ((40 * t) + k) (c (y + 15) k))) _
      generalize hdc_4 : aq_u c (y + 7) ((40 * t) + k) (c (y + 15) k) = c_4
      have sc_4 := aq_smu hs hdc_4 (by omega)
      refine am_E.go (t2 := (45, [vR y, vI t, vI n, vI k], [vR y], aq_h m s F c_4)) rfl rfl ?_
      refine aq_gf (v := vR (y + 8)) rfl (by omega) hFo (by decide) rfl ?_
      show am_E _ (48, [vR y, vI t, vI n, vI k], [vR (y + 8)], aq_h m s F c_4) _
      refine am_E.go (t2 := (50, [vR y, vI t, vI n, vI k], [vI 40, vR (y + 8)], aq_h m s F c_4)) rfl rfl ?_
      refine am_E.go (t2 := (51, [vR y, vI t, vI n, vI k], [vI t, vI 40, vR (y + 8)], aq_h m s F c_4)) rfl rfl ?_
      refine ae_mul rfl (am_ri (by omega) (by omega)) ?_
      show am_E _ (52, [vR y, vI t, vI n, vI k], [vI (40 * t), vR (y + 8)], aq_h m s F c_4) _
      refine am_E.go (t2 := (53, [vR y, vI t, vI n, vI k], [vI k, vI (40 * t), vR (y + 8)], aq_h m s F c_4)) rfl rfl ?_
      refine ae_add rfl (am_ri (by omega) (by omega)) ?_
      show am_E _ (54, [vR y, vI t, vI n, vI k], [vI ((40 * t) + k), vR (y + 8)], aq_h m s F c_4) _
      refine am_E.go (t2 := (55, [vR y, vI t, vI n, vI k], [vR y, vI ((40 * t) + k), vR (y + 8)], aq_h m s F c_4)) rfl rfl ?_
      refine aq_gf (v := vR (y + 16)) rfl (by omega) hFo (by decide) rfl ?_
      show am_E _ (58, [vR y, vI t, vI n, vI k], [vR (y + 16), vI ((40 * t) + k), vR (y + 8)], aq_h m s F c_4) _
      refine am_E.go (t2 := (59, [vR y, vI t, vI n, vI k], [vI k, vR (y + 16), vI ((40 * t) + k), vR (y + 8)], aq_h m s F c_4)) rfl rfl ?_
      refine aq_al (ok := fun k => k == 0) (v := vI (c_4 (y + 16) k)) rfl rfl (by omega) hG16 rfl (by omega) (by omega) rfl ?_
      show am_E _ (60, [vR y, vI t, vI n, vI k], [vI (c_4 (y + 16) k), vI ((40 * t) + k), vR (y + 8)], aq_h m s F c_4) _
      refine aq_as (kd := 0) rfl rfl (by omega) hG8 (by omega) (by omega) rfl rfl ?_
      show am_E _ (61, [vR y, vI t, vI n, vI k], [], aq_h m s F (aq_u c_4 (y + 8) ((40 * t) + k) (c_4 (y + 16) k))) _
      generalize hdc_5 : aq_u c_4 (y + 8) ((40 * t) + k) (c_4 (y + 16) k) = c_5
      have sc_5 := aq_smu sc_4 hdc_5 (by omega)
      refine am_E.go (t2 := (62, [vR y, vI t, vI n, vI k], [vR y], aq_h m s F c_5)) rfl rfl ?_
      refine aq_gf (v := vR (y + 9)) rfl (by omega) hFo (by decide) rfl ?_
      show am_E _ (65, [vR y, vI t, vI n, vI k], [vR (y + 9)], aq_h m s F c_5) _
      refine am_E.go (t2 := (67, [vR y, vI t, vI n, vI k], [vI 40, vR (y + 9)], aq_h m s F c_5)) rfl rfl ?_
      refine am_E.go (t2 := (68, [vR y, vI t, vI n, vI k], [vI t, vI 40, vR (y + 9)], aq_h m s F c_5)) rfl rfl ?_
      refine ae_mul rfl (am_ri (by omega) (by omega)) ?_
      show am_E _ (69, [vR y, vI t, vI n, vI k], [vI (40 * t), vR (y + 9)], aq_h m s F c_5) _
      refine am_E.go (t2 := (70, [vR y, vI t, vI n, vI k], [vI k, vI (40 * t), vR (y + 9)], aq_h m s F c_5)) rfl rfl ?_
      refine ae_add rfl (am_ri (by omega) (by omega)) ?_
      show am_E _ (71, [vR y, vI t, vI n, vI k], [vI ((40 * t) + k), vR (y + 9)], aq_h m s F c_5) _
      refine am_E.go (t2 := (72, [vR y, vI t, vI n, vI k], [vR y, vI ((40 * t) + k), vR (y + 9)], aq_h m s F c_5)) rfl rfl ?_
      refine aq_gf (v := vR (y + 17)) rfl (by omega) hFo (by decide) rfl ?_
      show am_E _ (75, [vR y, vI t, vI n, vI k], [vR (y + 17), vI ((40 * t) + k), vR (y + 9)], aq_h m s F c_5) _
      refine am_E.go (t2 := (76, [vR y, vI t, vI n, vI k], [vI k, vR (y + 17), vI ((40 * t) + k), vR (y + 9)], aq_h m s F c_5)) rfl rfl ?_
      refine aq_al (ok := fun k => k == 2) (v := vL (c_5 (y + 17) k)) rfl rfl (by omega) hG17 rfl (by omega) (by omega) rfl ?_
      show am_E _ (77, [vR y, vI t, vI n, vI k], [vL (c_5 (y + 17) k), vI ((40 * t) + k), vR (y + 9)], aq_h m s F c_5) _
      refine aq_asl rfl rfl (by omega) hG9 (by omega) (by omega) rfl ?_
      show am_E _ (78, [vR y, vI t, vI n, vI k], [], aq_h m s F (aq_u c_5 (y + 9) ((40 * t) + k) (c_5 (y + 17) k))) _
      generalize hdc_6 : aq_u c_5 (y + 9) ((40 * t) + k) (c_5 (y + 17) k) = c_6
      have sc_6 := aq_smu sc_5 hdc_6 (by omega)
      refine ae_iinc rfl rfl (am_ri (by omega) (by omega)) ?_
      show am_E _ (81, [vR y, vI t, vI n, vI (k + 1)], [], aq_h m s F c_6) _
      refine am_E.go (t2 := (19, [vR y, vI t, vI n, vI (k + 1)], [], aq_h m s F c_6)) rfl rfl ?_
      exact qx_store_l ⟨hm, hFo, hG5, hG6, hG7, hG8, hG9, hG10, hG11, hG12, hG13, hG14, hG15, hG16, hG17, hG18, hG19, hG20, hG21, hG22, hG23⟩ ht0 ht1 hn1 hn4 hI hR d (k + 1) c_6 sc_6 (by omega) (by omega) (fun i => by rw [← hdc_6, aq_un (Or.inl (by omega)), ← hdc_5, aq_un (Or.inl (by omega)), ← hdc_4, aq_un (Or.inl (by omega))]; exact h5 i) (fun i => by rw [← hdc_6, aq_un (Or.inl (by omega)), ← hdc_5, aq_un (Or.inl (by omega)), ← hdc_4, aq_un (Or.inl (by omega))]; exact h6 i) (fun i hi => by rw [← hdc_6, aq_un (Or.inl (by omega)), ← hdc_5, aq_un (Or.inl (by omega)), ← hdc_4, aq_un (Or.inr (by have := hi k (by omega) (by omega); omega))]; exact h7 i hi) (fun i hi => by rw [← hdc_6, aq_un (Or.inl (by omega)), ← hdc_5, aq_un (Or.inr (by have := hi k (by omega) (by omega); omega)), ← hdc_4, aq_un (Or.inl (by omega))]; exact h8 i hi) (fun i hi => by rw [← hdc_6, aq_un (Or.inr (by have := hi k (by omega) (by omega); omega)), ← hdc_5, aq_un (Or.inl (by omega)), ← hdc_4, aq_un (Or.inl (by omega))]; exact h9 i hi) (fun j h5 h6 => by by_cases e : j = k; (rw [e, ← hdc_6, aq_un (Or.inl (by omega)), ← hdc_5, aq_un (Or.inl (by omega)), ← hdc_4, aq_us, hs _ (by omega)]); rw [← hdc_6, aq_un (Or.inl (by omega)), ← hdc_5, aq_un (Or.inl (by omega)), ← hdc_4, aq_un (Or.inr (by omega))]; exact h7k j h5 (by omega)) (fun j h5 h6 => by by_cases e : j = k; (rw [e, ← hdc_6, aq_un (Or.inl (by omega)), ← hdc_5, aq_us, ← hdc_4, aq_un (Or.inl (by omega)), hs _ (by omega)]); rw [← hdc_6, aq_un (Or.inl (by omega)), ← hdc_5, aq_un (Or.inr (by omega)), ← hdc_4, aq_un (Or.inl (by omega))]; exact h8k j h5 (by omega)) (fun j h5 h6 => by by_cases e : j = k; (rw [e, ← hdc_6, aq_us, ← hdc_5, aq_un (Or.inl (by omega)), ← hdc_4, aq_un (Or.inl (by omega)), hs _ (by omega)]); rw [← hdc_6, aq_un (Or.inr (by omega)), ← hdc_5, aq_un (Or.inl (by omega)), ← hdc_4, aq_un (Or.inl (by omega))]; exact h9k j h5 (by omega)) (by omega)

theorem qx_store {m s : Nat} {F : aq_F} {c : aq_C} {y : Nat} (hO : mo_0 m F y) {t n : Int} (ht0 : 0 ≤ t) (ht1 : t < 8) (hn1 : 1 ≤ n) (hn4 : n ≤ 4) (hI : mo_I y c) (hR : mo_R y (bx_K n) c) : am_E ac_X5_store (0, [vR y, vI t, vI n, vU], [], aq_h m s F c) (aq_Z m s F (fun a => y + 5 ≤ a ∧ a ≤ y + 9) c (fun r d => r = some (vI (c y 17)) ∧ mo_I y d ∧ (∀ i, d (y + 5) i = if i = t then n else c (y + 5) i) ∧ (∀ i, i ≠ t → d (y + 6) i = c (y + 6) i) ∧ sm_e (mr_v y c) (rf_v y t d) ∧ ∀ i, (∀ j, 0 ≤ j → j < 40 → i ≠ 40 * t + j) → d (y + 7) i = c (y + 7) i ∧ d (y + 8) i = c (y + 8) i ∧ d (y + 9) i = c (y + 9) i)) := by
  obtain ⟨hm, hFo, hG5, hG6, hG7, hG8, hG9, hG10, hG11, hG12, hG13, hG14, hG15, hG16, hG17, hG18, hG19, hG20, hG21, hG22, hG23⟩ := hO
  have hR1 := hR.1
  have hR2 := hR.2.1
  refine am_E.go (t2 := (1, [vR y, vI t, vI n, vU], [vR y], aq_h m s F c)) rfl rfl ?_
  refine aq_gf (v := vR (y + 5)) rfl (by omega) hFo (by decide) rfl ?_
  show am_E _ (4, [vR y, vI t, vI n, vU], [vR (y + 5)], aq_h m s F c) _
  refine am_E.go (t2 := (5, [vR y, vI t, vI n, vU], [vI t, vR (y + 5)], aq_h m s F c)) rfl rfl ?_
  refine am_E.go (t2 := (6, [vR y, vI t, vI n, vU], [vI n, vI t, vR (y + 5)], aq_h m s F c)) rfl rfl ?_
  refine aq_as (kd := 0) rfl rfl (by omega) hG5 (by omega) (by omega) rfl rfl ?_
  show am_E _ (7, [vR y, vI t, vI n, vU], [], aq_h m s F (aq_u c (y + 5) t n)) _
  generalize hdc_1 : aq_u c (y + 5) t n = c_1
  have sc_1 := aq_smu (aq_sm0 (c := c) (S := (fun a => y + 5 ≤ a ∧ a ≤ y + 9))) hdc_1 (by omega)
  refine am_E.go (t2 := (8, [vR y, vI t, vI n, vU], [vR y], aq_h m s F c_1)) rfl rfl ?_
  refine aq_gf (v := vR (y + 6)) rfl (by omega) hFo (by decide) rfl ?_
  show am_E _ (11, [vR y, vI t, vI n, vU], [vR (y + 6)], aq_h m s F c_1) _
  refine am_E.go (t2 := (12, [vR y, vI t, vI n, vU], [vI t, vR (y + 6)], aq_h m s F c_1)) rfl rfl ?_
  refine am_E.go (t2 := (13, [vR y, vI t, vI n, vU], [vR y, vI t, vR (y + 6)], aq_h m s F c_1)) rfl rfl ?_
  refine aq_gf (v := vI (c_1 y 17)) rfl (by omega) hFo (by decide) rfl ?_
  show am_E _ (16, [vR y, vI t, vI n, vU], [vI (c_1 y 17), vI t, vR (y + 6)], aq_h m s F c_1) _
  have f_2 := sc_1 y (by omega) 17
  refine aq_as (kd := 0) rfl rfl (by omega) hG6 (by omega) (by omega) rfl rfl ?_
  show am_E _ (17, [vR y, vI t, vI n, vU], [], aq_h m s F (aq_u c_1 (y + 6) t (c_1 y 17))) _
  generalize hdc_3 : aq_u c_1 (y + 6) t (c_1 y 17) = c_3
  have sc_3 := aq_smu sc_1 hdc_3 (by omega)
  refine am_E.go (t2 := (18, [vR y, vI t, vI n, vU], [vI 0], aq_h m s F c_3)) rfl rfl ?_
  refine am_E.go (t2 := (19, [vR y, vI t, vI n, vI 0], [], aq_h m s F c_3)) rfl rfl ?_
  exact qx_store_l ⟨hm, hFo, hG5, hG6, hG7, hG8, hG9, hG10, hG11, hG12, hG13, hG14, hG15, hG16, hG17, hG18, hG19, hG20, hG21, hG22, hG23⟩ ht0 ht1 hn1 hn4 hI hR 41 0 c_3 sc_3 (by omega) (by omega) (fun i => by rw [← hdc_3, aq_un (Or.inl (by omega)), ← hdc_1]; unfold aq_u; by_cases e : i = t; (rw [if_pos ⟨rfl, e⟩, if_pos e]); rw [if_neg (fun h => e h.2), if_neg e]) (fun i => by rw [← hdc_3]; unfold aq_u; by_cases e : i = t; (rw [if_pos ⟨rfl, e⟩, if_pos e, ← hdc_1, aq_un (Or.inl (by omega))]); rw [if_neg (fun h => e h.2), if_neg e, ← hdc_1, aq_un (Or.inl (by omega))]) (fun i _ => by rw [← hdc_3, aq_un (Or.inl (by omega)), ← hdc_1, aq_un (Or.inl (by omega))]) (fun i _ => by rw [← hdc_3, aq_un (Or.inl (by omega)), ← hdc_1, aq_un (Or.inl (by omega))]) (fun i _ => by rw [← hdc_3, aq_un (Or.inl (by omega)), ← hdc_1, aq_un (Or.inl (by omega))]) (fun j _ h6 => absurd h6 (by omega)) (fun j _ h6 => absurd h6 (by omega)) (fun j _ h6 => absurd h6 (by omega)) (by omega)

/-- clear's answer -/
def ca_a (z s n : Int) : Int := if (0 ≤ s ∧ s < 8) ∧ 1 ≤ n ∧ n ≤ 4 then z else -1
/-- add's answer, and the sum behind it -/
def ad_a (n : Int) (t : sm_) (s b p f : Int) : Int × sm_ := if ((0 ≤ s ∧ s < 8) ∧ (1 ≤ n ∧ n ≤ 4 ∧ 0 ≤ b ∧ b < bx_K n)) ∧ (0 ≤ p ∧ p ≤ 20) ∧ -1000000 ≤ f ∧ f ≤ 1000000 then (match sm_j t b p f with | none => (-5, t) | some t2 => (t2.1, t2)) else (-1, t)
theorem sm_k {K : Int} {t : sm_} {a : Nat} {d : aq_C} (hw : sm_w K t) (he : sm_e t (su_v a d)) : su_k a K d := by
  obtain ⟨z, B, P, Q⟩ := t
  obtain ⟨e1, e2⟩ := he
  obtain ⟨w1, w2, w3, -⟩ := hw
  simp only at e1 e2 w1 w2 w3
  have e3 : z = d a 1 := e1
  refine ⟨by omega, by omega, fun i i0 i1 => ?_⟩
  have k := w3 i i0 (by omega)
  have q := e2 i i0 (by omega)
  have q1 : B i = d (a + 1) i := q.1
  have q3 : Q i = d (a + 3) i := q.2.2
  unfold sm_ok at k
  omega

theorem qx_X4_add {m s : Nat} {F : aq_F} {c : aq_C} (hC : sb_C m F) (hI : cl_I c) {sa b p f : Int} {aa : Nat} (haa : aa = 495 + 4 * sa.toNat) (hW : 0 ≤ sa → sa < 8 → sm_w (bx_K (c aa 0)) (su_v aa c)) : am_E ac_X4_add (0, [vR 0, vI sa, vI b, vI p, vL f, vU], [], aq_h m s F c) (aq_Z m s F (fun a => a < 527) c (fun r d => r = some (vI (ad_a (c aa 0) (su_v aa c) sa b p f).1) ∧ cl_I d ∧ aq_sm (fun x => x = aa ∨ x = aa + 1 ∨ x = aa + 2 ∨ x = aa + 3) c d ∧ d aa 0 = c aa 0 ∧ sm_e (ad_a (c aa 0) (su_v aa c) sa b p f).2 (su_v aa d))) := by
  obtain ⟨hCm, hC0, hC1, hC2, hC3, ⟨hma4, hFa4, hFn4, hFp4, hFf4⟩, ⟨hmx, hFx, hFl, hFw⟩, hCs, hCb, hCh⟩ := id hC
  refine am_E.go (t2 := (1, [vR 0, vI sa, vI b, vI p, vL f, vU], [vI sa], aq_h m s F c)) rfl rfl ?_
  refine am_E.call rfl rfl rfl (Nat.le_of_ble_eq_true rfl) (qn_X4_isSum) ?_
  rintro r5 h5 ⟨rfl, v_1, rfl, hv_1⟩
  show am_E _ (4, [vR 0, vI sa, vI b, vI p, vL f, vU], [vI v_1], aq_h m s F c) _
  refine ae_if0 rfl (fun (q_2 : v_1 = 0) => ?_) (fun (q_2 : v_1 ≠ 0) => ?_)
  · refine am_E.go (t2 := (35, [vR 0, vI sa, vI b, vI p, vL f, vU], [vI (-1)], aq_h m s F c)) rfl rfl ?_
    refine am_E.ret rfl rfl ?_
    have ead : ad_a (c aa 0) (su_v aa c) sa b p f = (-1, su_v aa c) := by
      unfold ad_a
      rw [if_neg (by omega)]
    refine ⟨_, rfl, (aq_sm0 (S := fun a => a < 527)), by rw [ead], hI, fun _ _ _ => rfl, rfl, ?_⟩
    rw [ead]
    exact ⟨rfl, fun _ _ _ => ⟨rfl, rfl, rfl⟩⟩
  · refine am_E.go (t2 := (8, [vR 0, vI sa, vI b, vI p, vL f, vU], [vR 0], aq_h m s F c)) rfl rfl ?_
    refine am_E.go (t2 := (9, [vR 0, vI sa, vI b, vI p, vL f, vU], [vR 0, vR 0], aq_h m s F c)) rfl rfl ?_
    refine aq_gf (v := vR 3) rfl (by omega) hC0 (by decide) rfl ?_
    show am_E _ (12, [vR 0, vI sa, vI b, vI p, vL f, vU], [vR 3, vR 0], aq_h m s F c) _
    refine am_E.go (t2 := (13, [vR 0, vI sa, vI b, vI p, vL f, vU], [vI sa, vR 3, vR 0], aq_h m s F c)) rfl rfl ?_
    obtain ⟨a, e_a⟩ : ∃ x, x = 495 + 4 * (sa).toNat := ⟨_, rfl⟩
    obtain ⟨hmaa, hFaa, hFna, hFpa, hFfa⟩ : su_0 m F a := by rw [e_a]; exact hCs _ (by omega)
    obtain ⟨hu0a, hu4a, hka⟩ : sb_u a c := by rw [e_a]; exact hI.2.2 _ (by omega)
    have hk1a := hka.1
    have hk2a := hka.2.1
    have hWa : sm_w (bx_K (c a 0)) (su_v a c) := by have h9 := hW (by omega) (by omega); rw [show aa = a by rw [haa, e_a]] at h9; exact h9
    refine aq_al (ok := fun k => decide (3 ≤ k) && decide (k < 7)) (v := vR a) rfl rfl (by omega) hC3 rfl (by omega) (by omega) (aq_gi2 (by omega) e_a.symm) ?_
    show am_E _ (14, [vR 0, vI sa, vI b, vI p, vL f, vU], [vR a, vR 0], aq_h m s F c) _
    refine aq_gf (v := vI (c a 0)) rfl (by omega) hFaa (by decide) rfl ?_
    show am_E _ (17, [vR 0, vI sa, vI b, vI p, vL f, vU], [vI (c a 0), vR 0], aq_h m s F c) _
    refine am_E.go (t2 := (18, [vR 0, vI sa, vI b, vI p, vL f, vU], [vI b, vI (c a 0), vR 0], aq_h m s F c)) rfl rfl ?_
    refine aq_callv (y := 3) (as2 := [vI (c a 0), vI b]) (rest := []) rfl rfl (by decide) (Nat.le_of_ble_eq_true rfl) rfl rfl (Nat.le_of_ble_eq_true rfl) (by omega) hC0 rfl (Nat.le_of_ble_eq_true rfl) (qn_X4_isBox hC) ?_
    rintro r5 h5 ⟨rfl, v_3, rfl, hv_3⟩
    show am_E _ (21, [vR 0, vI sa, vI b, vI p, vL f, vU], [vI v_3], aq_h m s F c) _
    refine ae_if0 rfl (fun (q_4 : v_3 = 0) => ?_) (fun (q_4 : v_3 ≠ 0) => ?_)
    · refine am_E.go (t2 := (35, [vR 0, vI sa, vI b, vI p, vL f, vU], [vI (-1)], aq_h m s F c)) rfl rfl ?_
      refine am_E.ret rfl rfl ?_
      have ead : ad_a (c aa 0) (su_v aa c) sa b p f = (-1, su_v aa c) := by
        have e9 : aa = a := by rw [haa, e_a]
        rw [e9]
        unfold ad_a
        rw [if_neg (by omega)]
      refine ⟨_, rfl, (aq_sm0 (S := fun a => a < 527)), by rw [ead], hI, fun _ _ _ => rfl, rfl, ?_⟩
      rw [ead]
      exact ⟨rfl, fun _ _ _ => ⟨rfl, rfl, rfl⟩⟩
    · refine am_E.go (t2 := (25, [vR 0, vI sa, vI b, vI p, vL f, vU], [vI p], aq_h m s F c)) rfl rfl ?_
      refine ae_if0 rfl (fun (q_5 : p < 0) => ?_) (fun (q_5 : 0 ≤ p) => ?_)
      · refine am_E.go (t2 := (35, [vR 0, vI sa, vI b, vI p, vL f, vU], [vI (-1)], aq_h m s F c)) rfl rfl ?_
        refine am_E.ret rfl rfl ?_
        have ead : ad_a (c aa 0) (su_v aa c) sa b p f = (-1, su_v aa c) := by
          have e9 : aa = a := by rw [haa, e_a]
          rw [e9]
          unfold ad_a
          rw [if_neg (by omega)]
        refine ⟨_, rfl, (aq_sm0 (S := fun a => a < 527)), by rw [ead], hI, fun _ _ _ => rfl, rfl, ?_⟩
        rw [ead]
        exact ⟨rfl, fun _ _ _ => ⟨rfl, rfl, rfl⟩⟩
      · refine am_E.go (t2 := (29, [vR 0, vI sa, vI b, vI p, vL f, vU], [vI p], aq_h m s F c)) rfl rfl ?_
        refine am_E.go (t2 := (31, [vR 0, vI sa, vI b, vI p, vL f, vU], [vI 20, vI p], aq_h m s F c)) rfl rfl ?_
        refine ae_icmp rfl (fun (q_6 : p ≤ 20) => ?_) (fun (q_6 : 20 < p) => ?_)
        · refine am_E.go (t2 := (38, [vR 0, vI sa, vI b, vI p, vL f, vU], [vL f], aq_h m s F c)) rfl rfl ?_
          refine am_E.go (t2 := (41, [vR 0, vI sa, vI b, vI p, vL f, vU], [vL (-1000000), vL f], aq_h m s F c)) rfl rfl ?_
          have ez_7 := am_lcf f (-1000000)
          refine am_E.go (t2 := (42, [vR 0, vI sa, vI b, vI p, vL f, vU], [vI (if f < (-1000000) then -1 else if f = (-1000000) then 0 else 1)], aq_h m s F c)) rfl rfl ?_
          generalize (if f < (-1000000) then -1 else if f = (-1000000) then 0 else 1) = z_7 at ez_7 ⊢
          refine ae_if0 rfl (fun (q_8 : z_7 < 0) => ?_) (fun (q_8 : 0 ≤ z_7) => ?_)
          · refine am_E.go (t2 := (55, [vR 0, vI sa, vI b, vI p, vL f, vU], [vI (-1)], aq_h m s F c)) rfl rfl ?_
            refine am_E.ret rfl rfl ?_
            have ead : ad_a (c aa 0) (su_v aa c) sa b p f = (-1, su_v aa c) := by
              have e9 : aa = a := by rw [haa, e_a]
              rw [e9]
              unfold ad_a
              rw [if_neg (by omega)]
            refine ⟨_, rfl, (aq_sm0 (S := fun a => a < 527)), by rw [ead], hI, fun _ _ _ => rfl, rfl, ?_⟩
            rw [ead]
            exact ⟨rfl, fun _ _ _ => ⟨rfl, rfl, rfl⟩⟩
          · refine am_E.go (t2 := (47, [vR 0, vI sa, vI b, vI p, vL f, vU], [vL f], aq_h m s F c)) rfl rfl ?_
            refine am_E.go (t2 := (50, [vR 0, vI sa, vI b, vI p, vL f, vU], [vL 1000000, vL f], aq_h m s F c)) rfl rfl ?_
            have ez_9 := am_lcf f 1000000
            refine am_E.go (t2 := (51, [vR 0, vI sa, vI b, vI p, vL f, vU], [vI (if f < 1000000 then -1 else if f = 1000000 then 0 else 1)], aq_h m s F c)) rfl rfl ?_
            generalize (if f < 1000000 then -1 else if f = 1000000 then 0 else 1) = z_9 at ez_9 ⊢
            refine ae_if0 rfl (fun (q_10 : z_9 ≤ 0) => ?_) (fun (q_10 : 0 < z_9) => ?_)
            · refine am_E.go (t2 := (57, [vR 0, vI sa, vI b, vI p, vL f, vU], [vR 0], aq_h m s F c)) rfl rfl ?_
              refine aq_gf (v := vR 3) rfl (by omega) hC0 (by decide) rfl ?_
              show am_E _ (60, [vR 0, vI sa, vI b, vI p, vL f, vU], [vR 3], aq_h m s F c) _
              refine am_E.go (t2 := (61, [vR 0, vI sa, vI b, vI p, vL f, vU], [vI sa, vR 3], aq_h m s F c)) rfl rfl ?_
              refine aq_al (ok := fun k => decide (3 ≤ k) && decide (k < 7)) (v := vR a) rfl rfl (by omega) hC3 rfl (by omega) (by omega) (aq_gi2 (by omega) e_a.symm) ?_
              show am_E _ (62, [vR 0, vI sa, vI b, vI p, vL f, vU], [vR a], aq_h m s F c) _
              refine am_E.go (t2 := (63, [vR 0, vI sa, vI b, vI p, vL f, vU], [vI b, vR a], aq_h m s F c)) rfl rfl ?_
              refine am_E.go (t2 := (64, [vR 0, vI sa, vI b, vI p, vL f, vU], [vI p, vI b, vR a], aq_h m s F c)) rfl rfl ?_
              refine am_E.go (t2 := (66, [vR 0, vI sa, vI b, vI p, vL f, vU], [vL f, vI p, vI b, vR a], aq_h m s F c)) rfl rfl ?_
              refine aq_callv (y := 4) (as2 := [vI b, vI p, vL f]) (rest := []) rfl rfl (by decide) (Nat.le_of_ble_eq_true rfl) rfl rfl (Nat.le_of_ble_eq_true rfl) (by omega) hFaa rfl (Nat.le_of_ble_eq_true rfl) (qx_join (a := a) ⟨hmaa, hFaa, hFna, hFpa, hFfa⟩ (by omega) (by omega) (fun i i0 i1 => (hWa.2.2.1 i i0 i1).2.2.1) (by unfold sm_ok; omega) (by omega)) ?_
              rintro r5 h5 ⟨c_b, rfl, s_b, v_b, rfl, e_b, q_b⟩
              show am_E _ (69, [vR 0, vI sa, vI b, vI p, vL f, vU], [vI v_b], aq_h m s F c_b) _
              refine ae_if0 rfl (fun (q_11 : v_b = 0) => ?_) (fun (q_11 : v_b ≠ 0) => ?_)
              · refine am_E.go (t2 := (86, [vR 0, vI sa, vI b, vI p, vL f, vU], [vI (-5)], aq_h m s F c_b)) rfl rfl ?_
                refine am_E.ret rfl rfl ?_
                have e9 : aa = a := by rw [haa, e_a]
                rw [e9]
                have ead : ad_a (c a 0) (su_v a c) sa b p f = (match sm_j (su_v a c) b p f with | none => (-5, su_v a c) | some t2 => (t2.1, t2)) := by
                  unfold ad_a
                  rw [if_pos (by omega)]
                obtain ⟨k1, k2, k3⟩ | ⟨k1, k2⟩ := q_b
                · rw [k2] at ead
                  have hcl : cl_I c_b := cl_u hI (j := sa.toNat) (by omega) (by rw [← e_a]; exact s_b) (by rw [← e_a]; exact ⟨by omega, by omega, by rw [e_b]; exact sm_k hWa k3⟩)
                  refine ⟨_, rfl, (aq_smt (aq_sm0 (S := fun a => a < 527)) (aq_smi s_b (fun b h => by omega))), by rw [ead], hcl, s_b, e_b, ?_⟩
                  rw [ead]
                  exact k3
                · exfalso
                  omega
              · refine am_E.go (t2 := (73, [vR 0, vI sa, vI b, vI p, vL f, vU], [vR 0], aq_h m s F c_b)) rfl rfl ?_
                refine aq_gf (v := vR 3) rfl (by omega) hC0 (by decide) rfl ?_
                show am_E _ (76, [vR 0, vI sa, vI b, vI p, vL f, vU], [vR 3], aq_h m s F c_b) _
                refine am_E.go (t2 := (77, [vR 0, vI sa, vI b, vI p, vL f, vU], [vI sa, vR 3], aq_h m s F c_b)) rfl rfl ?_
                refine aq_al (ok := fun k => decide (3 ≤ k) && decide (k < 7)) (v := vR a) rfl rfl (by omega) hC3 rfl (by omega) (by omega) (aq_gi2 (by omega) e_a.symm) ?_
                show am_E _ (78, [vR 0, vI sa, vI b, vI p, vL f, vU], [vR a], aq_h m s F c_b) _
                refine aq_gf (v := vI (c_b a 1)) rfl (by omega) hFaa (by decide) rfl ?_
                show am_E _ (81, [vR 0, vI sa, vI b, vI p, vL f, vU], [vI (c_b a 1)], aq_h m s F c_b) _
                refine am_E.go (t2 := (86, [vR 0, vI sa, vI b, vI p, vL f, vU], [vI (c_b a 1)], aq_h m s F c_b)) rfl rfl ?_
                refine am_E.ret rfl rfl ?_
                have e9 : aa = a := by rw [haa, e_a]
                rw [e9]
                have ead : ad_a (c a 0) (su_v a c) sa b p f = (match sm_j (su_v a c) b p f with | none => (-5, su_v a c) | some t2 => (t2.1, t2)) := by
                  unfold ad_a
                  rw [if_pos (by omega)]
                obtain ⟨k1, k2, k3⟩ | ⟨k1, t2, k2, k3⟩ := q_b
                · exfalso
                  omega
                · rw [k2] at ead
                  have hw2 := sm_jw hWa (by omega) (by omega) (by omega) (by omega) (by unfold sm_ok; omega) k2
                  have hcl : cl_I c_b := cl_u hI (j := sa.toNat) (by omega) (by rw [← e_a]; exact s_b) (by rw [← e_a]; exact ⟨by omega, by omega, by rw [e_b]; exact sm_k hw2 k3⟩)
                  refine ⟨_, rfl, (aq_smt (aq_sm0 (S := fun a => a < 527)) (aq_smi s_b (fun b h => by omega))), ?_, hcl, s_b, e_b, ?_⟩
                  · rw [ead]
                    exact congrArg (fun z => some (vI z)) k3.1.symm
                  · rw [ead]
                    exact k3
            · refine am_E.go (t2 := (55, [vR 0, vI sa, vI b, vI p, vL f, vU], [vI (-1)], aq_h m s F c)) rfl rfl ?_
              refine am_E.ret rfl rfl ?_
              have ead : ad_a (c aa 0) (su_v aa c) sa b p f = (-1, su_v aa c) := by
                have e9 : aa = a := by rw [haa, e_a]
                rw [e9]
                unfold ad_a
                rw [if_neg (by omega)]
              refine ⟨_, rfl, (aq_sm0 (S := fun a => a < 527)), by rw [ead], hI, fun _ _ _ => rfl, rfl, ?_⟩
              rw [ead]
              exact ⟨rfl, fun _ _ _ => ⟨rfl, rfl, rfl⟩⟩
        · refine am_E.go (t2 := (35, [vR 0, vI sa, vI b, vI p, vL f, vU], [vI (-1)], aq_h m s F c)) rfl rfl ?_
          refine am_E.ret rfl rfl ?_
          have ead : ad_a (c aa 0) (su_v aa c) sa b p f = (-1, su_v aa c) := by
            have e9 : aa = a := by rw [haa, e_a]
            rw [e9]
            unfold ad_a
            rw [if_neg (by omega)]
          refine ⟨_, rfl, (aq_sm0 (S := fun a => a < 527)), by rw [ead], hI, fun _ _ _ => rfl, rfl, ?_⟩
          rw [ead]
          exact ⟨rfl, fun _ _ _ => ⟨rfl, rfl, rfl⟩⟩

theorem sm_es {t u : sm_} (h : sm_e t u) : sm_e u t := ⟨h.1.symm, fun i i0 i1 => by have k := h.2 i i0 (by rw [h.1]; exact i1); exact ⟨k.1.symm, k.2.1.symm, k.2.2.symm⟩⟩
theorem sm_et {t u v : sm_} (h : sm_e t u) (h2 : sm_e u v) : sm_e t v := ⟨h.1.trans h2.1, fun i i0 i1 => by
  have k := h.2 i i0 i1
  have k2 := h2.2 i i0 (by rw [← h.1]; exact i1)
  exact ⟨k.1.trans k2.1, k.2.1.trans k2.2.1, k.2.2.trans k2.2.2⟩⟩
theorem sm_j0 {K b p : Int} {t : sm_} (hw : sm_w K t) : ∃ t2, sm_j t b p 0 = some t2 ∧ sm_e t t2 := by
  obtain ⟨z, B, P, Q⟩ := t
  have kb := sm_pb (B := B) (P := P) (z := z) (b := b) (p := p) 41 0 hw.1
  obtain ⟨w1, w2, w3, -⟩ := hw
  simp only at w1 w2 w3
  unfold sm_j
  simp only
  generalize sm_p B P z b p 41 0 = k at kb ⊢
  by_cases c1 : k < z ∧ B k = b ∧ P k = p
  · have q := w3 k kb.1 c1.1
    rw [if_pos c1, if_pos (by rw [Int.add_zero]; exact q.2.2.1), if_neg (by rw [Int.add_zero]; exact q.2.2.2)]
    refine ⟨_, rfl, rfl, fun i i0 i1 => ⟨rfl, rfl, ?_⟩⟩
    simp only
    unfold sm_s
    by_cases e : i = k
    · rw [if_pos e, e, Int.add_zero]
    · rw [if_neg e]
  · rw [if_neg c1, if_pos trivial]
    exact ⟨_, rfl, rfl, fun i i0 i1 => ⟨rfl, rfl, rfl⟩⟩
/-- what comes tells of the row, told of the sum that was loaded -/
theorem sm_cm {K b p f v : Int} {t u w : sm_} (hw : sm_w K t) (hL : sm_e t u) (q : (f = 0 ∧ v = 1 ∧ sm_e u w) ∨ (f ≠ 0 ∧ v = 0 ∧ sm_j u b p f = none) ∨ (f ≠ 0 ∧ v = 1 ∧ ∃ t2, sm_j u b p f = some t2 ∧ sm_e t2 w)) : (v = 0 ∧ sm_j t b p f = none) ∨ (v = 1 ∧ ∃ t2, sm_j t b p f = some t2 ∧ sm_e t2 w) := by
  have j := sm_jc (b := b) (p := p) (f := f) hL hw.1
  rcases q with ⟨k1, k2, k3⟩ | ⟨k1, k2, k3⟩ | ⟨k1, k2, t2, k3, k4⟩
  · obtain ⟨t3, e1, e2⟩ := sm_j0 (b := b) (p := p) hw
    rw [k1]
    exact Or.inr ⟨k2, t3, e1, sm_et (sm_es e2) (sm_et hL k3)⟩
  · exact Or.inl ⟨k2, j.1.mpr k3⟩
  · cases h : sm_j t b p f with
    | none =>
      have := j.1.mp h
      rw [k3] at this
      exact absurd this (by simp)
    | some t3 => exact Or.inr ⟨k2, t3, rfl, sm_et (j.2 t3 t2 h k3) k4⟩
theorem sm_mr {K : Int} {t : sm_} {y : Nat} {d : aq_C} (hw : sm_w K t) (he : sm_e t (mr_v y d)) : mo_R y K d := by
  obtain ⟨z, B, P, Q⟩ := t
  obtain ⟨e1, e2⟩ := he
  obtain ⟨w1, w2, w3, -⟩ := hw
  simp only at e1 e2 w1 w2 w3
  have e3 : z = d y 17 := e1
  refine ⟨by omega, by omega, fun i i0 i1 => ?_⟩
  have k := w3 i i0 (by omega)
  have q := e2 i i0 (by omega)
  have q1 : B i = d (y + 15) i := q.1
  have q3 : Q i = d (y + 17) i := q.2.2
  unfold sm_ok at k
  unfold mo_v
  omega

theorem qx_X5_add {m s : Nat} {F : aq_F} {c : aq_C} {y : Nat} (hC : mo_C m F y) (hI : mo_I y c) {t b p f : Int} (hW : 0 ≤ t → t < 8 → sm_w (bx_K (c (y + 5) t)) (rf_v y t c)) : am_E ac_X5_add (0, [vR y, vI t, vI b, vI p, vL f, vU], [], aq_h m s F c) (aq_Z m s F (fun a => y ≤ a ∧ a < y + 24) c (fun r d => r = some (vI (ad_a (c (y + 5) t) (rf_v y t c) t b p f).1) ∧ mo_I y d ∧ (∀ i, i ≠ t → d (y + 5) i = c (y + 5) i ∧ d (y + 6) i = c (y + 6) i) ∧ (∀ i, (∀ j, 0 ≤ j → j < 40 → i ≠ 40 * t + j) → d (y + 7) i = c (y + 7) i ∧ d (y + 8) i = c (y + 8) i ∧ d (y + 9) i = c (y + 9) i) ∧ d (y + 5) t = c (y + 5) t ∧ sm_e (ad_a (c (y + 5) t) (rf_v y t c) t b p f).2 (rf_v y t d))) := by
  obtain ⟨⟨hm, hFo, hG5, hG6, hG7, hG8, hG9, hG10, hG11, hG12, hG13, hG14, hG15, hG16, hG17, hG18, hG19, hG20, hG21, hG22, hG23⟩, ⟨tbl, hT1, hTt⟩, ⟨tA, tB, tD, hL1, hL2, hL3, hLt⟩⟩ := hC
  refine am_E.go (t2 := (1, [vR y, vI t, vI b, vI p, vL f, vU], [vI t], aq_h m s F c)) rfl rfl ?_
  refine am_E.call rfl rfl rfl (Nat.le_of_ble_eq_true rfl) (qm_isSum) ?_
  rintro r5 h5 ⟨rfl, v_1, rfl, hv_1⟩
  show am_E _ (4, [vR y, vI t, vI b, vI p, vL f, vU], [vI v_1], aq_h m s F c) _
  refine ae_if0 rfl (fun (q_2 : v_1 = 0) => ?_) (fun (q_2 : v_1 ≠ 0) => ?_)
  · refine am_E.go (t2 := (47, [vR y, vI t, vI b, vI p, vL f, vU], [vI (-1)], aq_h m s F c)) rfl rfl ?_
    refine am_E.ret rfl rfl ?_
    have ead : ad_a (c (y + 5) t) (rf_v y t c) t b p f = (-1, rf_v y t c) := by
      unfold ad_a
      rw [if_neg (by omega)]
    refine ⟨_, rfl, (aq_sm0 (c := c) (S := fun a => y ≤ a ∧ a < y + 24)), by rw [ead], hI, fun _ _ => ⟨rfl, rfl⟩, fun _ _ => ⟨rfl, rfl, rfl⟩, rfl, ?_⟩
    rw [ead]
    exact ⟨rfl, fun _ _ _ => ⟨rfl, rfl, rfl⟩⟩
  · refine am_E.go (t2 := (8, [vR y, vI t, vI b, vI p, vL f, vU], [vR y], aq_h m s F c)) rfl rfl ?_
    refine aq_gf (v := vR (y + 5)) rfl (by omega) hFo (by decide) rfl ?_
    show am_E _ (11, [vR y, vI t, vI b, vI p, vL f, vU], [vR (y + 5)], aq_h m s F c) _
    refine am_E.go (t2 := (12, [vR y, vI t, vI b, vI p, vL f, vU], [vI t, vR (y + 5)], aq_h m s F c)) rfl rfl ?_
    refine aq_al (ok := fun k => k == 0) (v := vI (c (y + 5) t)) rfl rfl (by omega) hG5 rfl (by omega) (by omega) rfl ?_
    show am_E _ (13, [vR y, vI t, vI b, vI p, vL f, vU], [vI (c (y + 5) t)], aq_h m s F c) _
    obtain ⟨hu1t, hu2t, hu3t, hu4t, hu5t⟩ := hI.2 t (by omega) (by omega)
    refine am_E.go (t2 := (14, [vR y, vI t, vI b, vI p, vL f, vU], [vI b, vI (c (y + 5) t)], aq_h m s F c)) rfl rfl ?_
    refine am_E.call rfl rfl rfl (Nat.le_of_ble_eq_true rfl) (qm_isBox) ?_
    rintro r5 h5 ⟨rfl, v_4, rfl, hv_4⟩
    show am_E _ (17, [vR y, vI t, vI b, vI p, vL f, vU], [vI v_4], aq_h m s F c) _
    refine ae_if0 rfl (fun (q_5 : v_4 = 0) => ?_) (fun (q_5 : v_4 ≠ 0) => ?_)
    · refine am_E.go (t2 := (47, [vR y, vI t, vI b, vI p, vL f, vU], [vI (-1)], aq_h m s F c)) rfl rfl ?_
      refine am_E.ret rfl rfl ?_
      have ead : ad_a (c (y + 5) t) (rf_v y t c) t b p f = (-1, rf_v y t c) := by
        unfold ad_a
        rw [if_neg (by omega)]
      refine ⟨_, rfl, (aq_sm0 (c := c) (S := fun a => y ≤ a ∧ a < y + 24)), by rw [ead], hI, fun _ _ => ⟨rfl, rfl⟩, fun _ _ => ⟨rfl, rfl, rfl⟩, rfl, ?_⟩
      rw [ead]
      exact ⟨rfl, fun _ _ _ => ⟨rfl, rfl, rfl⟩⟩
    · refine am_E.go (t2 := (21, [vR y, vI t, vI b, vI p, vL f, vU], [vI p], aq_h m s F c)) rfl rfl ?_
      refine am_E.go (t2 := (22, [vR y, vI t, vI b, vI p, vL f, vU], [vL p], aq_h m s F c)) rfl rfl ?_
      refine am_E.go (t2 := (23, [vR y, vI t, vI b, vI p, vL f, vU], [vL 0, vL p], aq_h m s F c)) rfl rfl ?_
      refine am_E.go (t2 := (26, [vR y, vI t, vI b, vI p, vL f, vU], [vL 20, vL 0, vL p], aq_h m s F c)) rfl rfl ?_
      refine am_E.call rfl rfl rfl (Nat.le_of_ble_eq_true rfl) (qm_in) ?_
      rintro r5 h5 ⟨rfl, v_6, rfl, hv_6⟩
      show am_E _ (29, [vR y, vI t, vI b, vI p, vL f, vU], [vI v_6], aq_h m s F c) _
      refine ae_if0 rfl (fun (q_7 : v_6 = 0) => ?_) (fun (q_7 : v_6 ≠ 0) => ?_)
      · refine am_E.go (t2 := (47, [vR y, vI t, vI b, vI p, vL f, vU], [vI (-1)], aq_h m s F c)) rfl rfl ?_
        refine am_E.ret rfl rfl ?_
        have ead : ad_a (c (y + 5) t) (rf_v y t c) t b p f = (-1, rf_v y t c) := by
          unfold ad_a
          rw [if_neg (by omega)]
        refine ⟨_, rfl, (aq_sm0 (c := c) (S := fun a => y ≤ a ∧ a < y + 24)), by rw [ead], hI, fun _ _ => ⟨rfl, rfl⟩, fun _ _ => ⟨rfl, rfl, rfl⟩, rfl, ?_⟩
        rw [ead]
        exact ⟨rfl, fun _ _ _ => ⟨rfl, rfl, rfl⟩⟩
      · refine am_E.go (t2 := (34, [vR y, vI t, vI b, vI p, vL f, vU], [vL f], aq_h m s F c)) rfl rfl ?_
        refine am_E.go (t2 := (37, [vR y, vI t, vI b, vI p, vL f, vU], [vL (-1000000), vL f], aq_h m s F c)) rfl rfl ?_
        refine am_E.go (t2 := (40, [vR y, vI t, vI b, vI p, vL f, vU], [vL 1000000, vL (-1000000), vL f], aq_h m s F c)) rfl rfl ?_
        refine am_E.call rfl rfl rfl (Nat.le_of_ble_eq_true rfl) (qm_in) ?_
        rintro r5 h5 ⟨rfl, v_8, rfl, hv_8⟩
        show am_E _ (43, [vR y, vI t, vI b, vI p, vL f, vU], [vI v_8], aq_h m s F c) _
        refine ae_if0 rfl (fun (q_9 : v_8 ≠ 0) => ?_) (fun (q_9 : v_8 = 0) => ?_)
        · refine am_E.go (t2 := (49, [vR y, vI t, vI b, vI p, vL f, vU], [vR y], aq_h m s F c)) rfl rfl ?_
          refine am_E.go (t2 := (50, [vR y, vI t, vI b, vI p, vL f, vU], [vI t, vR y], aq_h m s F c)) rfl rfl ?_
          refine aq_callv (y := 2) (as2 := [vI t]) (rest := []) rfl rfl (by decide) (Nat.le_of_ble_eq_true rfl) rfl rfl (Nat.le_of_ble_eq_true rfl) (by omega) hFo rfl (Nat.le_of_ble_eq_true rfl) (qx_load ⟨hm, hFo, hG5, hG6, hG7, hG8, hG9, hG10, hG11, hG12, hG13, hG14, hG15, hG16, hG17, hG18, hG19, hG20, hG21, hG22, hG23⟩ (by omega) (by omega) (by omega) (by omega)) ?_
          rintro r5 h5 ⟨c_l, rfl, s_l, rfl, q_l, L_l⟩
          show am_E _ (53, [vR y, vI t, vI b, vI p, vL f, vU], [], aq_h m s F c_l) _
          have z_l : c (y + 6) t = c_l y 17 := L_l.1
          have hWt := hW (by omega) (by omega)
          refine am_E.go (t2 := (54, [vR y, vI t, vI b, vI p, vL f, vU], [vR y], aq_h m s F c_l)) rfl rfl ?_
          refine am_E.go (t2 := (55, [vR y, vI t, vI b, vI p, vL f, vU], [vI b, vR y], aq_h m s F c_l)) rfl rfl ?_
          refine am_E.go (t2 := (56, [vR y, vI t, vI b, vI p, vL f, vU], [vI p, vI b, vR y], aq_h m s F c_l)) rfl rfl ?_
          refine am_E.go (t2 := (58, [vR y, vI t, vI b, vI p, vL f, vU], [vL f, vI p, vI b, vR y], aq_h m s F c_l)) rfl rfl ?_
          refine aq_callv (y := 4) (as2 := [vI b, vI p, vL f]) (rest := []) rfl rfl (by decide) (Nat.le_of_ble_eq_true rfl) rfl rfl (Nat.le_of_ble_eq_true rfl) (by omega) hFo rfl (Nat.le_of_ble_eq_true rfl) (qx_comes ⟨hm, hFo, hG5, hG6, hG7, hG8, hG9, hG10, hG11, hG12, hG13, hG14, hG15, hG16, hG17, hG18, hG19, hG20, hG21, hG22, hG23⟩ (by omega) (by omega) (fun i i0 i1 => by have k9 := (hWt.2.2.1 i i0 (by show i < c (y + 6) t; omega)).2.2.1; have k8 := (L_l.2 i i0 (by show i < c (y + 6) t; omega)).2.2; rw [k8] at k9; exact k9) (by unfold sm_ok; omega) (by omega)) ?_
          rintro r5 h5 ⟨c_k, rfl, s_k, v_k, rfl, q_k, R_k⟩
          show am_E _ (61, [vR y, vI t, vI b, vI p, vL f, vU], [vI v_k], aq_h m s F c_k) _
          have hI_k := mo_Iw hI (aq_smt (aq_smi s_l (fun a h => mo_S3 h)) (aq_smi s_k (fun a h => mo_S3 h))) (mo_qt q_l q_k)
          have cm := sm_cm hWt L_l R_k
          refine ae_if0 rfl (fun (q_10 : v_k = 0) => ?_) (fun (q_10 : v_k ≠ 0) => ?_)
          · refine am_E.go (t2 := (80, [vR y, vI t, vI b, vI p, vL f, vU], [vI (-5)], aq_h m s F c_k)) rfl rfl ?_
            refine am_E.ret rfl rfl ?_
            have ead : ad_a (c (y + 5) t) (rf_v y t c) t b p f = (match sm_j (rf_v y t c) b p f with | none => (-5, rf_v y t c) | some t2 => (t2.1, t2)) := by
              unfold ad_a
              rw [if_pos (by omega)]
              try (cases sm_j (rf_v y t c) b p f <;> rfl)
            have k2 : sm_j (rf_v y t c) b p f = none := by
              rcases cm with ⟨k1, k2⟩ | ⟨k1, k2⟩
              · exact k2
              · exfalso; omega
            rw [k2] at ead
            refine ⟨_, rfl, (aq_smt (aq_smt (aq_sm0 (c := c) (S := fun a => y ≤ a ∧ a < y + 24)) (aq_smi s_l (fun a h => by omega))) (aq_smi s_k (fun a h => by omega))), by rw [ead], hI_k, fun i _ => ⟨by rw [s_k _ (by omega), s_l _ (by omega)], by rw [s_k _ (by omega), s_l _ (by omega)]⟩, fun i _ => ⟨by rw [s_k _ (by omega), s_l _ (by omega)], by rw [s_k _ (by omega), s_l _ (by omega)], by rw [s_k _ (by omega), s_l _ (by omega)]⟩, by rw [s_k _ (by omega), s_l _ (by omega)], ?_⟩
            rw [ead]
            refine ⟨?_, fun i i0 i1 => ⟨?_, ?_, ?_⟩⟩
            · show c (y + 6) t = c_k (y + 6) t
              rw [s_k _ (by omega), s_l _ (by omega)]
            · show c (y + 7) _ = c_k (y + 7) _
              rw [s_k _ (by omega), s_l _ (by omega)]
            · show c (y + 8) _ = c_k (y + 8) _
              rw [s_k _ (by omega), s_l _ (by omega)]
            · show c (y + 9) _ = c_k (y + 9) _
              rw [s_k _ (by omega), s_l _ (by omega)]
          · refine am_E.go (t2 := (65, [vR y, vI t, vI b, vI p, vL f, vU], [vR y], aq_h m s F c_k)) rfl rfl ?_
            refine am_E.go (t2 := (66, [vR y, vI t, vI b, vI p, vL f, vU], [vI t, vR y], aq_h m s F c_k)) rfl rfl ?_
            refine am_E.go (t2 := (67, [vR y, vI t, vI b, vI p, vL f, vU], [vR y, vI t, vR y], aq_h m s F c_k)) rfl rfl ?_
            refine aq_gf (v := vR (y + 5)) rfl (by omega) hFo (by decide) rfl ?_
            show am_E _ (70, [vR y, vI t, vI b, vI p, vL f, vU], [vR (y + 5), vI t, vR y], aq_h m s F c_k) _
            refine am_E.go (t2 := (71, [vR y, vI t, vI b, vI p, vL f, vU], [vI t, vR (y + 5), vI t, vR y], aq_h m s F c_k)) rfl rfl ?_
            refine aq_al (ok := fun k => k == 0) (v := vI (c_k (y + 5) t)) rfl rfl (by omega) hG5 rfl (by omega) (by omega) rfl ?_
            show am_E _ (72, [vR y, vI t, vI b, vI p, vL f, vU], [vI (c_k (y + 5) t), vI t, vR y], aq_h m s F c_k) _
            have e_5 : c_k (y + 5) t = c (y + 5) t := by rw [s_k _ (by omega), s_l _ (by omega)]
            obtain ⟨t2, e_j, e_w⟩ : ∃ t2, sm_j (rf_v y t c) b p f = some t2 ∧ sm_e t2 (mr_v y c_k) := by
              rcases cm with ⟨k1, k2⟩ | ⟨k1, k2⟩
              · exfalso; omega
              · exact k2
            have hw2 := sm_jw hWt (by omega) (by omega) (by omega) (by omega) (by unfold sm_ok; omega) e_j
            refine aq_callv (y := 3) (as2 := [vI t, vI (c_k (y + 5) t)]) (rest := []) rfl rfl (by decide) (Nat.le_of_ble_eq_true rfl) rfl rfl (Nat.le_of_ble_eq_true rfl) (by omega) hFo rfl (Nat.le_of_ble_eq_true rfl) (qx_store ⟨hm, hFo, hG5, hG6, hG7, hG8, hG9, hG10, hG11, hG12, hG13, hG14, hG15, hG16, hG17, hG18, hG19, hG20, hG21, hG22, hG23⟩ (by omega) (by omega) (by omega) (by omega) hI_k (by rw [e_5]; exact sm_mr hw2 e_w)) ?_
            rintro r5 h5 ⟨c_b, rfl, s_b, rfl, hI_b, b5, b6, b7, b8⟩
            show am_E _ (75, [vR y, vI t, vI b, vI p, vL f, vU], [vI (c_k y 17)], aq_h m s F c_b) _
            refine am_E.go (t2 := (80, [vR y, vI t, vI b, vI p, vL f, vU], [vI (c_k y 17)], aq_h m s F c_b)) rfl rfl ?_
            refine am_E.ret rfl rfl ?_
            have ead : ad_a (c (y + 5) t) (rf_v y t c) t b p f = (match sm_j (rf_v y t c) b p f with | none => (-5, rf_v y t c) | some t2 => (t2.1, t2)) := by
              unfold ad_a
              rw [if_pos (by omega)]
              try (cases sm_j (rf_v y t c) b p f <;> rfl)
            rw [e_j] at ead
            refine ⟨_, rfl, (aq_smt (aq_smt (aq_smt (aq_sm0 (c := c) (S := fun a => y ≤ a ∧ a < y + 24)) (aq_smi s_l (fun a h => by omega))) (aq_smi s_k (fun a h => by omega))) (aq_smi s_b (fun a h => by omega))), ?_, hI_b, fun i hi => ⟨by rw [b5 i, if_neg hi, s_k _ (by omega), s_l _ (by omega)], by rw [b6 i hi, s_k _ (by omega), s_l _ (by omega)]⟩, fun i hi => ⟨by rw [(b8 i hi).1, s_k _ (by omega), s_l _ (by omega)], by rw [(b8 i hi).2.1, s_k _ (by omega), s_l _ (by omega)], by rw [(b8 i hi).2.2, s_k _ (by omega), s_l _ (by omega)]⟩, by rw [b5 t, if_pos rfl, e_5], ?_⟩
            · rw [ead]
              exact congrArg (fun z => some (vI z)) e_w.1.symm
            · rw [ead]
              exact sm_et e_w b7
        · refine am_E.go (t2 := (47, [vR y, vI t, vI b, vI p, vL f, vU], [vI (-1)], aq_h m s F c)) rfl rfl ?_
          refine am_E.ret rfl rfl ?_
          have ead : ad_a (c (y + 5) t) (rf_v y t c) t b p f = (-1, rf_v y t c) := by
            unfold ad_a
            rw [if_neg (by omega)]
          refine ⟨_, rfl, (aq_sm0 (c := c) (S := fun a => y ≤ a ∧ a < y + 24)), by rw [ead], hI, fun _ _ => ⟨rfl, rfl⟩, fun _ _ => ⟨rfl, rfl, rfl⟩, rfl, ?_⟩
          rw [ead]
          exact ⟨rfl, fun _ _ _ => ⟨rfl, rfl, rfl⟩⟩

theorem qx_X4_clear {m s : Nat} {F : aq_F} {c : aq_C} (hC : sb_C m F) (hI : cl_I c) {sa nn : Int} {aa : Nat} (haa : aa = 495 + 4 * sa.toNat) : am_E ac_X4_clear (0, [vR 0, vI sa, vI nn, vU], [], aq_h m s F c) (aq_Z m s F (fun a => a < 527) c (fun r d => r = some (vI (ca_a (c aa 1) sa nn)) ∧ cl_I d ∧ aq_sm (fun x => x = aa ∨ x = aa + 1 ∨ x = aa + 2 ∨ x = aa + 3) c d ∧ (((0 ≤ sa ∧ sa < 8) ∧ 1 ≤ nn ∧ nn ≤ 4) → d aa 0 = nn ∧ d aa 1 = 0) ∧ (¬ ((0 ≤ sa ∧ sa < 8) ∧ 1 ≤ nn ∧ nn ≤ 4) → ∀ x i, d x i = c x i))) := by
  obtain ⟨hCm, hC0, hC1, hC2, hC3, ⟨hma4, hFa4, hFn4, hFp4, hFf4⟩, ⟨hmx, hFx, hFl, hFw⟩, hCs, hCb, hCh⟩ := id hC
  refine am_E.go (t2 := (1, [vR 0, vI sa, vI nn, vU], [vI sa], aq_h m s F c)) rfl rfl ?_
  refine am_E.call rfl rfl rfl (Nat.le_of_ble_eq_true rfl) (qn_X4_isSum) ?_
  rintro r5 h5 ⟨rfl, v_1, rfl, hv_1⟩
  show am_E _ (4, [vR 0, vI sa, vI nn, vU], [vI v_1], aq_h m s F c) _
  refine ae_if0 rfl (fun (q_2 : v_1 = 0) => ?_) (fun (q_2 : v_1 ≠ 0) => ?_)
  · refine am_E.go (t2 := (15, [vR 0, vI sa, vI nn, vU], [vI (-1)], aq_h m s F c)) rfl rfl ?_
    refine am_E.ret rfl rfl ?_
    exact ⟨_, rfl, (aq_sm0 (S := fun a => a < 527)), by unfold ca_a; rw [if_neg (by omega)], hI, fun _ _ _ => rfl, fun q => absurd q (by omega), fun _ _ _ => rfl⟩
  · refine am_E.go (t2 := (8, [vR 0, vI sa, vI nn, vU], [vI nn], aq_h m s F c)) rfl rfl ?_
    refine am_E.call rfl rfl rfl (Nat.le_of_ble_eq_true rfl) (qn_X4_isStrands) ?_
    rintro r5 h5 ⟨rfl, v_3, rfl, hv_3⟩
    show am_E _ (11, [vR 0, vI sa, vI nn, vU], [vI v_3], aq_h m s F c) _
    refine ae_if0 rfl (fun (q_4 : v_3 ≠ 0) => ?_) (fun (q_4 : v_3 = 0) => ?_)
    · refine am_E.go (t2 := (17, [vR 0, vI sa, vI nn, vU], [vR 0], aq_h m s F c)) rfl rfl ?_
      refine aq_gf (v := vR 3) rfl (by omega) hC0 (by decide) rfl ?_
      show am_E _ (20, [vR 0, vI sa, vI nn, vU], [vR 3], aq_h m s F c) _
      refine am_E.go (t2 := (21, [vR 0, vI sa, vI nn, vU], [vI sa, vR 3], aq_h m s F c)) rfl rfl ?_
      obtain ⟨a, e_a⟩ : ∃ x, x = 495 + 4 * (sa).toNat := ⟨_, rfl⟩
      obtain ⟨hmaa, hFaa, hFna, hFpa, hFfa⟩ : su_0 m F a := by rw [e_a]; exact hCs _ (by omega)
      obtain ⟨hu0a, hu4a, hka⟩ : sb_u a c := by rw [e_a]; exact hI.2.2 _ (by omega)
      have hk1a := hka.1
      have hk2a := hka.2.1
      refine aq_al (ok := fun k => decide (3 ≤ k) && decide (k < 7)) (v := vR a) rfl rfl (by omega) hC3 rfl (by omega) (by omega) (aq_gi2 (by omega) e_a.symm) ?_
      show am_E _ (22, [vR 0, vI sa, vI nn, vU], [vR a], aq_h m s F c) _
      refine aq_gf (v := vI (c a 1)) rfl (by omega) hFaa (by decide) rfl ?_
      show am_E _ (25, [vR 0, vI sa, vI nn, vU], [vI (c a 1)], aq_h m s F c) _
      refine am_E.go (t2 := (26, [vR 0, vI sa, vI nn, vI (c a 1)], [], aq_h m s F c)) rfl rfl ?_
      refine am_E.go (t2 := (27, [vR 0, vI sa, vI nn, vI (c a 1)], [vR 0], aq_h m s F c)) rfl rfl ?_
      refine aq_gf (v := vR 3) rfl (by omega) hC0 (by decide) rfl ?_
      show am_E _ (30, [vR 0, vI sa, vI nn, vI (c a 1)], [vR 3], aq_h m s F c) _
      refine am_E.go (t2 := (31, [vR 0, vI sa, vI nn, vI (c a 1)], [vI sa, vR 3], aq_h m s F c)) rfl rfl ?_
      refine aq_al (ok := fun k => decide (3 ≤ k) && decide (k < 7)) (v := vR a) rfl rfl (by omega) hC3 rfl (by omega) (by omega) (aq_gi2 (by omega) e_a.symm) ?_
      show am_E _ (32, [vR 0, vI sa, vI nn, vI (c a 1)], [vR a], aq_h m s F c) _
      refine am_E.go (t2 := (33, [vR 0, vI sa, vI nn, vI (c a 1)], [vI nn, vR a], aq_h m s F c)) rfl rfl ?_
      refine aq_callv (y := 2) (as2 := [vI nn]) (rest := []) rfl rfl (by decide) (Nat.le_of_ble_eq_true rfl) rfl rfl (Nat.le_of_ble_eq_true rfl) (by omega) hFaa rfl (Nat.le_of_ble_eq_true rfl) (qn_X3_begin (a := a) ⟨hmaa, hFaa, hFna, hFpa, hFfa⟩) ?_
      rintro r5 h5 ⟨c_b, rfl, s_b, rfl, hb0, hb1⟩
      show am_E _ (36, [vR 0, vI sa, vI nn, vI (c a 1)], [], aq_h m s F c_b) _
      refine am_E.go (t2 := (37, [vR 0, vI sa, vI nn, vI (c a 1)], [vI (c a 1)], aq_h m s F c_b)) rfl rfl ?_
      refine am_E.ret rfl rfl ?_
      have e9 : aa = a := by rw [haa, e_a]
      rw [e9]
      refine ⟨_, rfl, (aq_smt (aq_sm0 (S := fun a => a < 527)) (aq_smi s_b (fun b h => by omega))), by unfold ca_a; rw [if_pos (by omega)], cl_u hI (j := sa.toNat) (by omega) (by rw [← e_a]; exact s_b) (by rw [← e_a]; exact ⟨by omega, by omega, ⟨by omega, by omega, fun i h1 h2 => absurd h2 (by omega)⟩⟩), s_b, fun _ => ⟨hb0, hb1⟩, fun q => absurd (show ((0 ≤ sa ∧ sa < 8) ∧ 1 ≤ nn ∧ nn ≤ 4) by omega) q⟩
    · refine am_E.go (t2 := (15, [vR 0, vI sa, vI nn, vU], [vI (-1)], aq_h m s F c)) rfl rfl ?_
      refine am_E.ret rfl rfl ?_
      exact ⟨_, rfl, (aq_sm0 (S := fun a => a < 527)), by unfold ca_a; rw [if_neg (by omega)], hI, fun _ _ _ => rfl, fun q => absurd q (by omega), fun _ _ _ => rfl⟩

theorem qx_X5_clear {m s : Nat} {F : aq_F} {c : aq_C} {y : Nat} (hC : mo_C m F y) (hI : mo_I y c) {t n : Int} : am_E ac_X5_clear (0, [vR y, vI t, vI n, vU, vU], [], aq_h m s F c) (aq_Z m s F (fun a => y ≤ a ∧ a < y + 24) c (fun r d => r = some (vI (ca_a (c (y + 6) t) t n)) ∧ mo_I y d ∧ (∀ i, i ≠ t → d (y + 5) i = c (y + 5) i ∧ d (y + 6) i = c (y + 6) i) ∧ (∀ i, (∀ j, 0 ≤ j → j < 40 → i ≠ 40 * t + j) → d (y + 7) i = c (y + 7) i ∧ d (y + 8) i = c (y + 8) i ∧ d (y + 9) i = c (y + 9) i) ∧ (((0 ≤ t ∧ t < 8) ∧ 1 ≤ n ∧ n ≤ 4) → d (y + 5) t = n ∧ d (y + 6) t = 0) ∧ (¬ ((0 ≤ t ∧ t < 8) ∧ 1 ≤ n ∧ n ≤ 4) → ∀ x i, d x i = c x i))) := by
  obtain ⟨⟨hm, hFo, hG5, hG6, hG7, hG8, hG9, hG10, hG11, hG12, hG13, hG14, hG15, hG16, hG17, hG18, hG19, hG20, hG21, hG22, hG23⟩, ⟨tbl, hT1, hTt⟩, ⟨tA, tB, tD, hL1, hL2, hL3, hLt⟩⟩ := hC
  refine am_E.go (t2 := (1, [vR y, vI t, vI n, vU, vU], [vI t], aq_h m s F c)) rfl rfl ?_
  refine am_E.call rfl rfl rfl (Nat.le_of_ble_eq_true rfl) (qm_isSum) ?_
  rintro r5 h5 ⟨rfl, v_1, rfl, hv_1⟩
  show am_E _ (4, [vR y, vI t, vI n, vU, vU], [vI v_1], aq_h m s F c) _
  refine ae_if0 rfl (fun (q_2 : v_1 = 0) => ?_) (fun (q_2 : v_1 ≠ 0) => ?_)
  · refine am_E.go (t2 := (15, [vR y, vI t, vI n, vU, vU], [vI (-1)], aq_h m s F c)) rfl rfl ?_
    refine am_E.ret rfl rfl ?_
    exact ⟨_, rfl, (aq_sm0 (c := c) (S := fun a => y ≤ a ∧ a < y + 24)), by unfold ca_a; rw [if_neg (by omega)], hI, fun _ _ => ⟨rfl, rfl⟩, fun _ _ => ⟨rfl, rfl, rfl⟩, fun q => absurd q (by omega), fun _ _ _ => rfl⟩
  · refine am_E.go (t2 := (8, [vR y, vI t, vI n, vU, vU], [vI n], aq_h m s F c)) rfl rfl ?_
    refine am_E.call rfl rfl rfl (Nat.le_of_ble_eq_true rfl) (qm_isWide) ?_
    rintro r5 h5 ⟨rfl, v_3, rfl, hv_3⟩
    show am_E _ (11, [vR y, vI t, vI n, vU, vU], [vI v_3], aq_h m s F c) _
    refine ae_if0 rfl (fun (q_4 : v_3 ≠ 0) => ?_) (fun (q_4 : v_3 = 0) => ?_)
    · refine am_E.go (t2 := (17, [vR y, vI t, vI n, vU, vU], [vR y], aq_h m s F c)) rfl rfl ?_
      refine aq_gf (v := vR (y + 6)) rfl (by omega) hFo (by decide) rfl ?_
      show am_E _ (20, [vR y, vI t, vI n, vU, vU], [vR (y + 6)], aq_h m s F c) _
      refine am_E.go (t2 := (21, [vR y, vI t, vI n, vU, vU], [vI t, vR (y + 6)], aq_h m s F c)) rfl rfl ?_
      refine aq_al (ok := fun k => k == 0) (v := vI (c (y + 6) t)) rfl rfl (by omega) hG6 rfl (by omega) (by omega) rfl ?_
      show am_E _ (22, [vR y, vI t, vI n, vU, vU], [vI (c (y + 6) t)], aq_h m s F c) _
      refine am_E.go (t2 := (23, [vR y, vI t, vI n, vI (c (y + 6) t), vU], [], aq_h m s F c)) rfl rfl ?_
      refine am_E.go (t2 := (24, [vR y, vI t, vI n, vI (c (y + 6) t), vU], [vR y], aq_h m s F c)) rfl rfl ?_
      refine am_E.go (t2 := (25, [vR y, vI t, vI n, vI (c (y + 6) t), vU], [vI 0, vR y], aq_h m s F c)) rfl rfl ?_
      refine aq_pf rfl (by omega) hFo (by decide) rfl rfl ?_
      show am_E _ (28, [vR y, vI t, vI n, vI (c (y + 6) t), vU], [], aq_h m s F (aq_u c y 17 0)) _
      generalize hdc_5 : aq_u c y 17 0 = c_5
      have sc_5 := aq_smu (aq_sm0 (c := c) (S := fun a => y ≤ a ∧ a < y + 24)) hdc_5 (by omega)
      have hI_z : mo_I y c_5 := mo_Iq (S := fun a => a = y) hI (aq_smu aq_sm0 hdc_5 rfl) (mo_qu mo_q0 hdc_5 (Or.inr (by decide))) (by omega) (by omega) (by omega) (by omega) (by omega)
      have e_z : c_5 y 17 = 0 := by rw [← hdc_5, aq_us]
      have hR_z : mo_R y (bx_K n) c_5 := ⟨by omega, by omega, fun j h5 h6 => absurd h6 (by omega)⟩
      refine am_E.go (t2 := (29, [vR y, vI t, vI n, vI (c (y + 6) t), vU], [vR y], aq_h m s F c_5)) rfl rfl ?_
      refine am_E.go (t2 := (30, [vR y, vI t, vI n, vI (c (y + 6) t), vU], [vI t, vR y], aq_h m s F c_5)) rfl rfl ?_
      refine am_E.go (t2 := (31, [vR y, vI t, vI n, vI (c (y + 6) t), vU], [vI n, vI t, vR y], aq_h m s F c_5)) rfl rfl ?_
      refine aq_callv (y := 3) (as2 := [vI t, vI n]) (rest := []) rfl rfl (by decide) (Nat.le_of_ble_eq_true rfl) rfl rfl (Nat.le_of_ble_eq_true rfl) (by omega) hFo rfl (Nat.le_of_ble_eq_true rfl) (qx_store ⟨hm, hFo, hG5, hG6, hG7, hG8, hG9, hG10, hG11, hG12, hG13, hG14, hG15, hG16, hG17, hG18, hG19, hG20, hG21, hG22, hG23⟩ (by omega) (by omega) (by omega) (by omega) hI_z hR_z) ?_
      rintro r5 h5 ⟨c_b, rfl, s_b, rfl, hI_b, b5, b6, b7, b8⟩
      show am_E _ (34, [vR y, vI t, vI n, vI (c (y + 6) t), vU], [vI (c_5 y 17)], aq_h m s F c_b) _
      refine am_E.go (t2 := (36, [vR y, vI t, vI n, vI (c (y + 6) t), vI (c_5 y 17)], [], aq_h m s F c_b)) rfl rfl ?_
      refine am_E.go (t2 := (37, [vR y, vI t, vI n, vI (c (y + 6) t), vI (c_5 y 17)], [vI (c (y + 6) t)], aq_h m s F c_b)) rfl rfl ?_
      refine am_E.ret rfl rfl ?_
      refine ⟨_, rfl, (aq_smt sc_5 (aq_smi s_b (fun a h => by omega))), by unfold ca_a; rw [if_pos (by omega)], hI_b, fun i hi => ⟨by rw [b5 i, if_neg hi, ← hdc_5, aq_un (Or.inl (by omega))], by rw [b6 i hi, ← hdc_5, aq_un (Or.inl (by omega))]⟩, fun i hi => ⟨by rw [(b8 i hi).1, ← hdc_5, aq_un (Or.inl (by omega))], by rw [(b8 i hi).2.1, ← hdc_5, aq_un (Or.inl (by omega))], by rw [(b8 i hi).2.2, ← hdc_5, aq_un (Or.inl (by omega))]⟩, fun _ => ⟨by rw [b5 t, if_pos rfl], ?_⟩, fun q => absurd (show ((0 ≤ t ∧ t < 8) ∧ 1 ≤ n ∧ n ≤ 4) by omega) q⟩
      have e7 : c_5 y 17 = c_b (y + 6) t := b7.1
      rw [← e7]
      exact e_z
    · refine am_E.go (t2 := (15, [vR y, vI t, vI n, vU, vU], [vI (-1)], aq_h m s F c)) rfl rfl ?_
      refine am_E.ret rfl rfl ?_
      exact ⟨_, rfl, (aq_sm0 (c := c) (S := fun a => y ≤ a ∧ a < y + 24)), by unfold ca_a; rw [if_neg (by omega)], hI, fun _ _ => ⟨rfl, rfl⟩, fun _ _ => ⟨rfl, rfl, rfl⟩, fun q => absurd q (by omega), fun _ _ _ => rfl⟩

def sq_a (n z s w : Int) : Int := if (0 ≤ s ∧ s < 8) ∧ 0 ≤ w ∧ w ≤ 1 then (if w = 0 then n else z) else -1
def tq_a (t : sm_) (s i w : Int) : Int := if (0 ≤ s ∧ s < 8) ∧ 0 ≤ i ∧ 0 ≤ w ∧ w ≤ 2 then (if t.1 ≤ i then -1000000000000004 else if w = 2 then t.2.2.2 i else if w = 0 then t.2.1 i else t.2.2.1 i) else -1000000000000001
theorem tq_c {t u : sm_} {s i w : Int} (h : sm_e t u) : tq_a t s i w = tq_a u s i w := by
  unfold tq_a
  rw [← h.1]
  split
  · rename_i q
    split
    · rfl
    · have k := h.2 i q.2.1 (by omega)
      rw [k.1, k.2.1, k.2.2]
  · rfl

theorem qx_X4_sum {m s : Nat} {F : aq_F} {c : aq_C} (hC : sb_C m F) (hI : cl_I c) {sa w : Int} {aa : Nat} (haa : aa = 495 + 4 * sa.toNat) : am_E ac_X4_sum (0, [vR 0, vI sa, vI w], [], aq_h m s F c) (aq_Z m s F (fun a => a < 527) c (fun r d => r = some (vI (sq_a (c aa 0) (c aa 1) sa w)) ∧ cl_I d ∧ ∀ x i, d x i = c x i)) := by
  obtain ⟨hCm, hC0, hC1, hC2, hC3, ⟨hma4, hFa4, hFn4, hFp4, hFf4⟩, ⟨hmx, hFx, hFl, hFw⟩, hCs, hCb, hCh⟩ := id hC
  refine am_E.go (t2 := (1, [vR 0, vI sa, vI w], [vI sa], aq_h m s F c)) rfl rfl ?_
  refine am_E.call rfl rfl rfl (Nat.le_of_ble_eq_true rfl) (qn_X4_isSum) ?_
  rintro r5 h5 ⟨rfl, v_1, rfl, hv_1⟩
  show am_E _ (4, [vR 0, vI sa, vI w], [vI v_1], aq_h m s F c) _
  refine ae_if0 rfl (fun (q_2 : v_1 = 0) => ?_) (fun (q_2 : v_1 ≠ 0) => ?_)
  · refine am_E.go (t2 := (17, [vR 0, vI sa, vI w], [vI (-1)], aq_h m s F c)) rfl rfl ?_
    refine am_E.ret rfl rfl ?_
    refine ⟨_, rfl, (aq_sm0 (S := fun a => a < 527)), ?_, hI, fun _ _ => rfl⟩
    unfold sq_a
    (repeat' split) <;> first | rfl | (exfalso; omega)
  · refine am_E.go (t2 := (8, [vR 0, vI sa, vI w], [vI w], aq_h m s F c)) rfl rfl ?_
    refine ae_if0 rfl (fun (q_3 : w < 0) => ?_) (fun (q_3 : 0 ≤ w) => ?_)
    · refine am_E.go (t2 := (17, [vR 0, vI sa, vI w], [vI (-1)], aq_h m s F c)) rfl rfl ?_
      refine am_E.ret rfl rfl ?_
      refine ⟨_, rfl, (aq_sm0 (S := fun a => a < 527)), ?_, hI, fun _ _ => rfl⟩
      unfold sq_a
      (repeat' split) <;> first | rfl | (exfalso; omega)
    · refine am_E.go (t2 := (12, [vR 0, vI sa, vI w], [vI w], aq_h m s F c)) rfl rfl ?_
      refine am_E.go (t2 := (13, [vR 0, vI sa, vI w], [vI 1, vI w], aq_h m s F c)) rfl rfl ?_
      refine ae_icmp rfl (fun (q_4 : w ≤ 1) => ?_) (fun (q_4 : 1 < w) => ?_)
      · refine am_E.go (t2 := (19, [vR 0, vI sa, vI w], [vI w], aq_h m s F c)) rfl rfl ?_
        refine ae_if0 rfl (fun (q_5 : w ≠ 0) => ?_) (fun (q_5 : w = 0) => ?_)
        · refine am_E.go (t2 := (35, [vR 0, vI sa, vI w], [vR 0], aq_h m s F c)) rfl rfl ?_
          refine aq_gf (v := vR 3) rfl (by omega) hC0 (by decide) rfl ?_
          show am_E _ (38, [vR 0, vI sa, vI w], [vR 3], aq_h m s F c) _
          refine am_E.go (t2 := (39, [vR 0, vI sa, vI w], [vI sa, vR 3], aq_h m s F c)) rfl rfl ?_
          obtain ⟨a, e_a⟩ : ∃ x, x = 495 + 4 * (sa).toNat := ⟨_, rfl⟩
          obtain ⟨hmaa, hFaa, hFna, hFpa, hFfa⟩ : su_0 m F a := by rw [e_a]; exact hCs _ (by omega)
          obtain ⟨hu0a, hu4a, hka⟩ : sb_u a c := by rw [e_a]; exact hI.2.2 _ (by omega)
          have hk1a := hka.1
          have hk2a := hka.2.1
          refine aq_al (ok := fun k => decide (3 ≤ k) && decide (k < 7)) (v := vR a) rfl rfl (by omega) hC3 rfl (by omega) (by omega) (aq_gi2 (by omega) e_a.symm) ?_
          show am_E _ (40, [vR 0, vI sa, vI w], [vR a], aq_h m s F c) _
          refine aq_gf (v := vI (c a 1)) rfl (by omega) hFaa (by decide) rfl ?_
          show am_E _ (43, [vR 0, vI sa, vI w], [vI (c a 1)], aq_h m s F c) _
          refine am_E.ret rfl rfl ?_
          have e9 : aa = a := by rw [haa, e_a]
          rw [e9]
          refine ⟨_, rfl, (aq_sm0 (S := fun a => a < 527)), ?_, hI, fun _ _ => rfl⟩
          unfold sq_a
          (repeat' split) <;> first | rfl | (exfalso; omega)
        · refine am_E.go (t2 := (23, [vR 0, vI sa, vI w], [vR 0], aq_h m s F c)) rfl rfl ?_
          refine aq_gf (v := vR 3) rfl (by omega) hC0 (by decide) rfl ?_
          show am_E _ (26, [vR 0, vI sa, vI w], [vR 3], aq_h m s F c) _
          refine am_E.go (t2 := (27, [vR 0, vI sa, vI w], [vI sa, vR 3], aq_h m s F c)) rfl rfl ?_
          obtain ⟨a, e_a⟩ : ∃ x, x = 495 + 4 * (sa).toNat := ⟨_, rfl⟩
          obtain ⟨hmaa, hFaa, hFna, hFpa, hFfa⟩ : su_0 m F a := by rw [e_a]; exact hCs _ (by omega)
          obtain ⟨hu0a, hu4a, hka⟩ : sb_u a c := by rw [e_a]; exact hI.2.2 _ (by omega)
          have hk1a := hka.1
          have hk2a := hka.2.1
          refine aq_al (ok := fun k => decide (3 ≤ k) && decide (k < 7)) (v := vR a) rfl rfl (by omega) hC3 rfl (by omega) (by omega) (aq_gi2 (by omega) e_a.symm) ?_
          show am_E _ (28, [vR 0, vI sa, vI w], [vR a], aq_h m s F c) _
          refine aq_gf (v := vI (c a 0)) rfl (by omega) hFaa (by decide) rfl ?_
          show am_E _ (31, [vR 0, vI sa, vI w], [vI (c a 0)], aq_h m s F c) _
          refine am_E.go (t2 := (43, [vR 0, vI sa, vI w], [vI (c a 0)], aq_h m s F c)) rfl rfl ?_
          refine am_E.ret rfl rfl ?_
          have e9 : aa = a := by rw [haa, e_a]
          rw [e9]
          refine ⟨_, rfl, (aq_sm0 (S := fun a => a < 527)), ?_, hI, fun _ _ => rfl⟩
          unfold sq_a
          (repeat' split) <;> first | rfl | (exfalso; omega)
      · refine am_E.go (t2 := (17, [vR 0, vI sa, vI w], [vI (-1)], aq_h m s F c)) rfl rfl ?_
        refine am_E.ret rfl rfl ?_
        refine ⟨_, rfl, (aq_sm0 (S := fun a => a < 527)), ?_, hI, fun _ _ => rfl⟩
        unfold sq_a
        (repeat' split) <;> first | rfl | (exfalso; omega)

theorem qx_X4_term {m s : Nat} {F : aq_F} {c : aq_C} (hC : sb_C m F) (hI : cl_I c) {sa i w : Int} {aa : Nat} (haa : aa = 495 + 4 * sa.toNat) : am_E ac_X4_term (0, [vR 0, vI sa, vI i, vI w, vU], [], aq_h m s F c) (aq_Z m s F (fun a => a < 527) c (fun r d => r = some (vL (tq_a (su_v aa c) sa i w)) ∧ cl_I d ∧ ∀ x j, d x j = c x j)) := by
  obtain ⟨hCm, hC0, hC1, hC2, hC3, ⟨hma4, hFa4, hFn4, hFp4, hFf4⟩, ⟨hmx, hFx, hFl, hFw⟩, hCs, hCb, hCh⟩ := id hC
  refine am_E.go (t2 := (1, [vR 0, vI sa, vI i, vI w, vU], [vI sa], aq_h m s F c)) rfl rfl ?_
  refine am_E.call rfl rfl rfl (Nat.le_of_ble_eq_true rfl) (qn_X4_isSum) ?_
  rintro r5 h5 ⟨rfl, v_1, rfl, hv_1⟩
  show am_E _ (4, [vR 0, vI sa, vI i, vI w, vU], [vI v_1], aq_h m s F c) _
  refine ae_if0 rfl (fun (q_2 : v_1 = 0) => ?_) (fun (q_2 : v_1 ≠ 0) => ?_)
  · refine am_E.go (t2 := (23, [vR 0, vI sa, vI i, vI w, vU], [vL (-1000000000000001)], aq_h m s F c)) rfl rfl ?_
    refine am_E.ret rfl rfl ?_
    refine ⟨_, rfl, (aq_sm0 (S := fun a => a < 527)), ?_, hI, fun _ _ => rfl⟩
    unfold tq_a su_v
    simp only
    (repeat' split) <;> first | rfl | (exfalso; omega)
  · refine am_E.go (t2 := (8, [vR 0, vI sa, vI i, vI w, vU], [vI i], aq_h m s F c)) rfl rfl ?_
    refine ae_if0 rfl (fun (q_3 : i < 0) => ?_) (fun (q_3 : 0 ≤ i) => ?_)
    · refine am_E.go (t2 := (23, [vR 0, vI sa, vI i, vI w, vU], [vL (-1000000000000001)], aq_h m s F c)) rfl rfl ?_
      refine am_E.ret rfl rfl ?_
      refine ⟨_, rfl, (aq_sm0 (S := fun a => a < 527)), ?_, hI, fun _ _ => rfl⟩
      unfold tq_a su_v
      simp only
      (repeat' split) <;> first | rfl | (exfalso; omega)
    · refine am_E.go (t2 := (12, [vR 0, vI sa, vI i, vI w, vU], [vI w], aq_h m s F c)) rfl rfl ?_
      refine ae_if0 rfl (fun (q_4 : w < 0) => ?_) (fun (q_4 : 0 ≤ w) => ?_)
      · refine am_E.go (t2 := (23, [vR 0, vI sa, vI i, vI w, vU], [vL (-1000000000000001)], aq_h m s F c)) rfl rfl ?_
        refine am_E.ret rfl rfl ?_
        refine ⟨_, rfl, (aq_sm0 (S := fun a => a < 527)), ?_, hI, fun _ _ => rfl⟩
        unfold tq_a su_v
        simp only
        (repeat' split) <;> first | rfl | (exfalso; omega)
      · refine am_E.go (t2 := (16, [vR 0, vI sa, vI i, vI w, vU], [vI w], aq_h m s F c)) rfl rfl ?_
        refine am_E.go (t2 := (17, [vR 0, vI sa, vI i, vI w, vU], [vI 2, vI w], aq_h m s F c)) rfl rfl ?_
        refine ae_icmp rfl (fun (q_5 : w ≤ 2) => ?_) (fun (q_5 : 2 < w) => ?_)
        · refine am_E.go (t2 := (25, [vR 0, vI sa, vI i, vI w, vU], [vR 0], aq_h m s F c)) rfl rfl ?_
          refine aq_gf (v := vR 3) rfl (by omega) hC0 (by decide) rfl ?_
          show am_E _ (28, [vR 0, vI sa, vI i, vI w, vU], [vR 3], aq_h m s F c) _
          refine am_E.go (t2 := (29, [vR 0, vI sa, vI i, vI w, vU], [vI sa, vR 3], aq_h m s F c)) rfl rfl ?_
          obtain ⟨a, e_a⟩ : ∃ x, x = 495 + 4 * (sa).toNat := ⟨_, rfl⟩
          obtain ⟨hmaa, hFaa, hFna, hFpa, hFfa⟩ : su_0 m F a := by rw [e_a]; exact hCs _ (by omega)
          obtain ⟨hu0a, hu4a, hka⟩ : sb_u a c := by rw [e_a]; exact hI.2.2 _ (by omega)
          have hk1a := hka.1
          have hk2a := hka.2.1
          refine aq_al (ok := fun k => decide (3 ≤ k) && decide (k < 7)) (v := vR a) rfl rfl (by omega) hC3 rfl (by omega) (by omega) (aq_gi2 (by omega) e_a.symm) ?_
          show am_E _ (30, [vR 0, vI sa, vI i, vI w, vU], [vR a], aq_h m s F c) _
          refine am_E.go (t2 := (32, [vR 0, vI sa, vI i, vI w, vR a], [], aq_h m s F c)) rfl rfl ?_
          refine am_E.go (t2 := (33, [vR 0, vI sa, vI i, vI w, vR a], [vI i], aq_h m s F c)) rfl rfl ?_
          refine am_E.go (t2 := (35, [vR 0, vI sa, vI i, vI w, vR a], [vR a, vI i], aq_h m s F c)) rfl rfl ?_
          refine aq_gf (v := vI (c a 1)) rfl (by omega) hFaa (by decide) rfl ?_
          show am_E _ (38, [vR 0, vI sa, vI i, vI w, vR a], [vI (c a 1), vI i], aq_h m s F c) _
          refine ae_icmp rfl (fun (q_6 : i < (c a 1)) => ?_) (fun (q_6 : (c a 1) ≤ i) => ?_)
          · refine am_E.go (t2 := (46, [vR 0, vI sa, vI i, vI w, vR a], [vI w], aq_h m s F c)) rfl rfl ?_
            refine am_E.go (t2 := (47, [vR 0, vI sa, vI i, vI w, vR a], [vI 2, vI w], aq_h m s F c)) rfl rfl ?_
            refine ae_icmp rfl (fun (q_7 : w ≠ 2) => ?_) (fun (q_7 : w = 2) => ?_)
            · refine am_E.go (t2 := (59, [vR 0, vI sa, vI i, vI w, vR a], [vI w], aq_h m s F c)) rfl rfl ?_
              refine ae_if0 rfl (fun (q_8 : w ≠ 0) => ?_) (fun (q_8 : w = 0) => ?_)
              · refine am_E.go (t2 := (75, [vR 0, vI sa, vI i, vI w, vR a], [vR a], aq_h m s F c)) rfl rfl ?_
                refine aq_gf (v := vR (a + 2)) rfl (by omega) hFaa (by decide) rfl ?_
                show am_E _ (78, [vR 0, vI sa, vI i, vI w, vR a], [vR (a + 2)], aq_h m s F c) _
                refine am_E.go (t2 := (79, [vR 0, vI sa, vI i, vI w, vR a], [vI i, vR (a + 2)], aq_h m s F c)) rfl rfl ?_
                refine aq_al (ok := fun k => k == 0) (v := vI (c (a + 2) i)) rfl rfl (by omega) hFpa rfl (by omega) (by omega) rfl ?_
                show am_E _ (80, [vR 0, vI sa, vI i, vI w, vR a], [vI (c (a + 2) i)], aq_h m s F c) _
                refine am_E.go (t2 := (81, [vR 0, vI sa, vI i, vI w, vR a], [vL (c (a + 2) i)], aq_h m s F c)) rfl rfl ?_
                refine am_E.ret rfl rfl ?_
                have e9 : aa = a := by rw [haa, e_a]
                rw [e9]
                refine ⟨_, rfl, (aq_sm0 (S := fun a => a < 527)), ?_, hI, fun _ _ => rfl⟩
                unfold tq_a su_v
                simp only
                (repeat' split) <;> first | rfl | (exfalso; omega)
              · refine am_E.go (t2 := (64, [vR 0, vI sa, vI i, vI w, vR a], [vR a], aq_h m s F c)) rfl rfl ?_
                refine aq_gf (v := vR (a + 1)) rfl (by omega) hFaa (by decide) rfl ?_
                show am_E _ (67, [vR 0, vI sa, vI i, vI w, vR a], [vR (a + 1)], aq_h m s F c) _
                refine am_E.go (t2 := (68, [vR 0, vI sa, vI i, vI w, vR a], [vI i, vR (a + 1)], aq_h m s F c)) rfl rfl ?_
                refine aq_al (ok := fun k => k == 0) (v := vI (c (a + 1) i)) rfl rfl (by omega) hFna rfl (by omega) (by omega) rfl ?_
                show am_E _ (69, [vR 0, vI sa, vI i, vI w, vR a], [vI (c (a + 1) i)], aq_h m s F c) _
                have f_9 := hka.2.2 i (by omega) (by omega)
                refine am_E.go (t2 := (70, [vR 0, vI sa, vI i, vI w, vR a], [vL (c (a + 1) i)], aq_h m s F c)) rfl rfl ?_
                refine am_E.go (t2 := (81, [vR 0, vI sa, vI i, vI w, vR a], [vL (c (a + 1) i)], aq_h m s F c)) rfl rfl ?_
                refine am_E.ret rfl rfl ?_
                have e9 : aa = a := by rw [haa, e_a]
                rw [e9]
                refine ⟨_, rfl, (aq_sm0 (S := fun a => a < 527)), ?_, hI, fun _ _ => rfl⟩
                unfold tq_a su_v
                simp only
                (repeat' split) <;> first | rfl | (exfalso; omega)
            · refine am_E.go (t2 := (52, [vR 0, vI sa, vI i, vI w, vR a], [vR a], aq_h m s F c)) rfl rfl ?_
              refine aq_gf (v := vR (a + 3)) rfl (by omega) hFaa (by decide) rfl ?_
              show am_E _ (55, [vR 0, vI sa, vI i, vI w, vR a], [vR (a + 3)], aq_h m s F c) _
              refine am_E.go (t2 := (56, [vR 0, vI sa, vI i, vI w, vR a], [vI i, vR (a + 3)], aq_h m s F c)) rfl rfl ?_
              refine aq_al (ok := fun k => k == 2) (v := vL (c (a + 3) i)) rfl rfl (by omega) hFfa rfl (by omega) (by omega) rfl ?_
              show am_E _ (57, [vR 0, vI sa, vI i, vI w, vR a], [vL (c (a + 3) i)], aq_h m s F c) _
              refine am_E.ret rfl rfl ?_
              have e9 : aa = a := by rw [haa, e_a]
              rw [e9]
              refine ⟨_, rfl, (aq_sm0 (S := fun a => a < 527)), ?_, hI, fun _ _ => rfl⟩
              unfold tq_a su_v
              simp only
              (repeat' split) <;> first | rfl | (exfalso; omega)
          · refine am_E.go (t2 := (44, [vR 0, vI sa, vI i, vI w, vR a], [vL (-1000000000000004)], aq_h m s F c)) rfl rfl ?_
            refine am_E.ret rfl rfl ?_
            have e9 : aa = a := by rw [haa, e_a]
            rw [e9]
            refine ⟨_, rfl, (aq_sm0 (S := fun a => a < 527)), ?_, hI, fun _ _ => rfl⟩
            unfold tq_a su_v
            simp only
            (repeat' split) <;> first | rfl | (exfalso; omega)
        · refine am_E.go (t2 := (23, [vR 0, vI sa, vI i, vI w, vU], [vL (-1000000000000001)], aq_h m s F c)) rfl rfl ?_
          refine am_E.ret rfl rfl ?_
          refine ⟨_, rfl, (aq_sm0 (S := fun a => a < 527)), ?_, hI, fun _ _ => rfl⟩
          unfold tq_a su_v
          simp only
          (repeat' split) <;> first | rfl | (exfalso; omega)

theorem qx_X5_sum {m s : Nat} {F : aq_F} {c : aq_C} {y : Nat} (hC : mo_C m F y) (hI : mo_I y c) {t w : Int} : am_E ac_X5_sum (0, [vR y, vI t, vI w], [], aq_h m s F c) (aq_Z m s F (fun a => y ≤ a ∧ a < y + 24) c (fun r d => r = some (vI (sq_a (c (y + 5) t) (c (y + 6) t) t w)) ∧ mo_I y d ∧ ∀ x j, d x j = c x j)) := by
  obtain ⟨⟨hm, hFo, hG5, hG6, hG7, hG8, hG9, hG10, hG11, hG12, hG13, hG14, hG15, hG16, hG17, hG18, hG19, hG20, hG21, hG22, hG23⟩, ⟨tbl, hT1, hTt⟩, ⟨tA, tB, tD, hL1, hL2, hL3, hLt⟩⟩ := hC
  refine am_E.go (t2 := (1, [vR y, vI t, vI w], [vI t], aq_h m s F c)) rfl rfl ?_
  refine am_E.call rfl rfl rfl (Nat.le_of_ble_eq_true rfl) (qm_isSum) ?_
  rintro r5 h5 ⟨rfl, v_1, rfl, hv_1⟩
  show am_E _ (4, [vR y, vI t, vI w], [vI v_1], aq_h m s F c) _
  refine ae_if0 rfl (fun (q_2 : v_1 = 0) => ?_) (fun (q_2 : v_1 ≠ 0) => ?_)
  · refine am_E.go (t2 := (18, [vR y, vI t, vI w], [vI (-1)], aq_h m s F c)) rfl rfl ?_
    refine am_E.go (t2 := (40, [vR y, vI t, vI w], [vI (-1)], aq_h m s F c)) rfl rfl ?_
    refine am_E.ret rfl rfl ?_
    refine ⟨_, rfl, (aq_sm0 (c := c) (S := fun a => y ≤ a ∧ a < y + 24)), ?_, hI, fun _ _ => rfl⟩
    unfold sq_a
    (repeat' split) <;> first | rfl | (exfalso; omega)
  · refine am_E.go (t2 := (8, [vR y, vI t, vI w], [vI w], aq_h m s F c)) rfl rfl ?_
    refine am_E.go (t2 := (9, [vR y, vI t, vI w], [vL w], aq_h m s F c)) rfl rfl ?_
    refine am_E.go (t2 := (10, [vR y, vI t, vI w], [vL 0, vL w], aq_h m s F c)) rfl rfl ?_
    refine am_E.go (t2 := (11, [vR y, vI t, vI w], [vL 1, vL 0, vL w], aq_h m s F c)) rfl rfl ?_
    refine am_E.call rfl rfl rfl (Nat.le_of_ble_eq_true rfl) (qm_in) ?_
    rintro r5 h5 ⟨rfl, v_3, rfl, hv_3⟩
    show am_E _ (14, [vR y, vI t, vI w], [vI v_3], aq_h m s F c) _
    refine ae_if0 rfl (fun (q_4 : v_3 ≠ 0) => ?_) (fun (q_4 : v_3 = 0) => ?_)
    · refine am_E.go (t2 := (22, [vR y, vI t, vI w], [vI w], aq_h m s F c)) rfl rfl ?_
      refine ae_if0 rfl (fun (q_5 : w ≠ 0) => ?_) (fun (q_5 : w = 0) => ?_)
      · refine am_E.go (t2 := (35, [vR y, vI t, vI w], [vR y], aq_h m s F c)) rfl rfl ?_
        refine aq_gf (v := vR (y + 6)) rfl (by omega) hFo (by decide) rfl ?_
        show am_E _ (38, [vR y, vI t, vI w], [vR (y + 6)], aq_h m s F c) _
        refine am_E.go (t2 := (39, [vR y, vI t, vI w], [vI t, vR (y + 6)], aq_h m s F c)) rfl rfl ?_
        refine aq_al (ok := fun k => k == 0) (v := vI (c (y + 6) t)) rfl rfl (by omega) hG6 rfl (by omega) (by omega) rfl ?_
        show am_E _ (40, [vR y, vI t, vI w], [vI (c (y + 6) t)], aq_h m s F c) _
        obtain ⟨hu1t, hu2t, hu3t, hu4t, hu5t⟩ := hI.2 t (by omega) (by omega)
        refine am_E.ret rfl rfl ?_
        refine ⟨_, rfl, (aq_sm0 (c := c) (S := fun a => y ≤ a ∧ a < y + 24)), ?_, hI, fun _ _ => rfl⟩
        unfold sq_a
        (repeat' split) <;> first | rfl | (exfalso; omega)
      · refine am_E.go (t2 := (26, [vR y, vI t, vI w], [vR y], aq_h m s F c)) rfl rfl ?_
        refine aq_gf (v := vR (y + 5)) rfl (by omega) hFo (by decide) rfl ?_
        show am_E _ (29, [vR y, vI t, vI w], [vR (y + 5)], aq_h m s F c) _
        refine am_E.go (t2 := (30, [vR y, vI t, vI w], [vI t, vR (y + 5)], aq_h m s F c)) rfl rfl ?_
        refine aq_al (ok := fun k => k == 0) (v := vI (c (y + 5) t)) rfl rfl (by omega) hG5 rfl (by omega) (by omega) rfl ?_
        show am_E _ (31, [vR y, vI t, vI w], [vI (c (y + 5) t)], aq_h m s F c) _
        refine am_E.go (t2 := (40, [vR y, vI t, vI w], [vI (c (y + 5) t)], aq_h m s F c)) rfl rfl ?_
        refine am_E.ret rfl rfl ?_
        refine ⟨_, rfl, (aq_sm0 (c := c) (S := fun a => y ≤ a ∧ a < y + 24)), ?_, hI, fun _ _ => rfl⟩
        unfold sq_a
        (repeat' split) <;> first | rfl | (exfalso; omega)
    · refine am_E.go (t2 := (18, [vR y, vI t, vI w], [vI (-1)], aq_h m s F c)) rfl rfl ?_
      refine am_E.go (t2 := (40, [vR y, vI t, vI w], [vI (-1)], aq_h m s F c)) rfl rfl ?_
      refine am_E.ret rfl rfl ?_
      refine ⟨_, rfl, (aq_sm0 (c := c) (S := fun a => y ≤ a ∧ a < y + 24)), ?_, hI, fun _ _ => rfl⟩
      unfold sq_a
      (repeat' split) <;> first | rfl | (exfalso; omega)

theorem qx_X5_term {m s : Nat} {F : aq_F} {c : aq_C} {y : Nat} (hC : mo_C m F y) (hI : mo_I y c) {t i w : Int} : am_E ac_X5_term (0, [vR y, vI t, vI i, vI w, vU], [], aq_h m s F c) (aq_Z m s F (fun a => y ≤ a ∧ a < y + 24) c (fun r d => r = some (vL (tq_a (rf_v y t c) t i w)) ∧ mo_I y d ∧ ∀ x j, d x j = c x j)) := by
  obtain ⟨⟨hm, hFo, hG5, hG6, hG7, hG8, hG9, hG10, hG11, hG12, hG13, hG14, hG15, hG16, hG17, hG18, hG19, hG20, hG21, hG22, hG23⟩, ⟨tbl, hT1, hTt⟩, ⟨tA, tB, tD, hL1, hL2, hL3, hLt⟩⟩ := hC
  refine am_E.go (t2 := (1, [vR y, vI t, vI i, vI w, vU], [vI t], aq_h m s F c)) rfl rfl ?_
  refine am_E.call rfl rfl rfl (Nat.le_of_ble_eq_true rfl) (qm_isSum) ?_
  rintro r5 h5 ⟨rfl, v_1, rfl, hv_1⟩
  show am_E _ (4, [vR y, vI t, vI i, vI w, vU], [vI v_1], aq_h m s F c) _
  refine ae_if0 rfl (fun (q_2 : v_1 = 0) => ?_) (fun (q_2 : v_1 ≠ 0) => ?_)
  · refine am_E.go (t2 := (26, [vR y, vI t, vI i, vI w, vU], [vL (-1000000000000001)], aq_h m s F c)) rfl rfl ?_
    refine am_E.ret rfl rfl ?_
    refine ⟨_, rfl, (aq_sm0 (c := c) (S := fun a => y ≤ a ∧ a < y + 24)), ?_, hI, fun _ _ => rfl⟩
    unfold tq_a rf_v
    simp only
    first | rw [e_w] | skip
    (repeat' split) <;> first | rfl | (exfalso; omega)
  · refine am_E.go (t2 := (8, [vR y, vI t, vI i, vI w, vU], [vI i], aq_h m s F c)) rfl rfl ?_
    refine ae_if0 rfl (fun (q_3 : i < 0) => ?_) (fun (q_3 : 0 ≤ i) => ?_)
    · refine am_E.go (t2 := (26, [vR y, vI t, vI i, vI w, vU], [vL (-1000000000000001)], aq_h m s F c)) rfl rfl ?_
      refine am_E.ret rfl rfl ?_
      refine ⟨_, rfl, (aq_sm0 (c := c) (S := fun a => y ≤ a ∧ a < y + 24)), ?_, hI, fun _ _ => rfl⟩
      unfold tq_a rf_v
      simp only
      first | rw [e_w] | skip
      (repeat' split) <;> first | rfl | (exfalso; omega)
    · refine am_E.go (t2 := (12, [vR y, vI t, vI i, vI w, vU], [vI w], aq_h m s F c)) rfl rfl ?_
      refine am_E.go (t2 := (13, [vR y, vI t, vI i, vI w, vU], [vL w], aq_h m s F c)) rfl rfl ?_
      refine am_E.go (t2 := (14, [vR y, vI t, vI i, vI w, vU], [vL 0, vL w], aq_h m s F c)) rfl rfl ?_
      refine am_E.go (t2 := (17, [vR y, vI t, vI i, vI w, vU], [vL 2, vL 0, vL w], aq_h m s F c)) rfl rfl ?_
      refine am_E.call rfl rfl rfl (Nat.le_of_ble_eq_true rfl) (qm_in) ?_
      rintro r5 h5 ⟨rfl, v_4, rfl, hv_4⟩
      show am_E _ (20, [vR y, vI t, vI i, vI w, vU], [vI v_4], aq_h m s F c) _
      refine ae_if0 rfl (fun (q_5 : v_4 ≠ 0) => ?_) (fun (q_5 : v_4 = 0) => ?_)
      · refine am_E.go (t2 := (29, [vR y, vI t, vI i, vI w, vU], [vI 40], aq_h m s F c)) rfl rfl ?_
        refine am_E.go (t2 := (30, [vR y, vI t, vI i, vI w, vU], [vI t, vI 40], aq_h m s F c)) rfl rfl ?_
        refine ae_mul rfl (am_ri (by omega) (by omega)) ?_
        show am_E _ (31, [vR y, vI t, vI i, vI w, vU], [vI (40 * t)], aq_h m s F c) _
        refine am_E.go (t2 := (32, [vR y, vI t, vI i, vI w, vU], [vI i, vI (40 * t)], aq_h m s F c)) rfl rfl ?_
        refine am_E.go (t2 := (33, [vR y, vI t, vI i, vI w, vU], [vI (am_w ((40 * t) + i))], aq_h m s F c)) rfl rfl ?_
        refine am_E.go (t2 := (35, [vR y, vI t, vI i, vI w, vI (am_w ((40 * t) + i))], [], aq_h m s F c)) rfl rfl ?_
        refine am_E.go (t2 := (36, [vR y, vI t, vI i, vI w, vI (am_w ((40 * t) + i))], [vI i], aq_h m s F c)) rfl rfl ?_
        refine am_E.go (t2 := (37, [vR y, vI t, vI i, vI w, vI (am_w ((40 * t) + i))], [vR y, vI i], aq_h m s F c)) rfl rfl ?_
        refine aq_gf (v := vR (y + 6)) rfl (by omega) hFo (by decide) rfl ?_
        show am_E _ (40, [vR y, vI t, vI i, vI w, vI (am_w ((40 * t) + i))], [vR (y + 6), vI i], aq_h m s F c) _
        refine am_E.go (t2 := (41, [vR y, vI t, vI i, vI w, vI (am_w ((40 * t) + i))], [vI t, vR (y + 6), vI i], aq_h m s F c)) rfl rfl ?_
        refine aq_al (ok := fun k => k == 0) (v := vI (c (y + 6) t)) rfl rfl (by omega) hG6 rfl (by omega) (by omega) rfl ?_
        show am_E _ (42, [vR y, vI t, vI i, vI w, vI (am_w ((40 * t) + i))], [vI (c (y + 6) t), vI i], aq_h m s F c) _
        obtain ⟨hu1t, hu2t, hu3t, hu4t, hu5t⟩ := hI.2 t (by omega) (by omega)
        refine ae_icmp rfl (fun (q_7 : i < (c (y + 6) t)) => ?_) (fun (q_7 : (c (y + 6) t) ≤ i) => ?_)
        · have e_w : am_w (40 * t + i) = 40 * t + i := am_w_id (am_ri (by omega) (by omega))
          refine am_E.go (t2 := (52, [vR y, vI t, vI i, vI w, vI (am_w ((40 * t) + i))], [vI w], aq_h m s F c)) rfl rfl ?_
          refine ae_if0 rfl (fun (q_8 : w ≠ 0) => ?_) (fun (q_8 : w = 0) => ?_)
          · refine am_E.go (t2 := (67, [vR y, vI t, vI i, vI w, vI (am_w ((40 * t) + i))], [vI w], aq_h m s F c)) rfl rfl ?_
            refine am_E.go (t2 := (68, [vR y, vI t, vI i, vI w, vI (am_w ((40 * t) + i))], [vI 1, vI w], aq_h m s F c)) rfl rfl ?_
            refine ae_icmp rfl (fun (q_9 : w ≠ 1) => ?_) (fun (q_9 : w = 1) => ?_)
            · refine am_E.go (t2 := (83, [vR y, vI t, vI i, vI w, vI (am_w ((40 * t) + i))], [vR y], aq_h m s F c)) rfl rfl ?_
              refine aq_gf (v := vR (y + 9)) rfl (by omega) hFo (by decide) rfl ?_
              show am_E _ (86, [vR y, vI t, vI i, vI w, vI (am_w ((40 * t) + i))], [vR (y + 9)], aq_h m s F c) _
              refine am_E.go (t2 := (88, [vR y, vI t, vI i, vI w, vI (am_w ((40 * t) + i))], [vI (am_w ((40 * t) + i)), vR (y + 9)], aq_h m s F c)) rfl rfl ?_
              refine aq_al (ok := fun k => k == 2) (v := vL (c (y + 9) (am_w ((40 * t) + i)))) rfl rfl (by omega) hG9 rfl (by omega) (by omega) rfl ?_
              show am_E _ (89, [vR y, vI t, vI i, vI w, vI (am_w ((40 * t) + i))], [vL (c (y + 9) (am_w ((40 * t) + i)))], aq_h m s F c) _
              refine am_E.ret rfl rfl ?_
              refine ⟨_, rfl, (aq_sm0 (c := c) (S := fun a => y ≤ a ∧ a < y + 24)), ?_, hI, fun _ _ => rfl⟩
              unfold tq_a rf_v
              simp only
              first | rw [e_w] | skip
              (repeat' split) <;> first | rfl | (exfalso; omega)
            · refine am_E.go (t2 := (72, [vR y, vI t, vI i, vI w, vI (am_w ((40 * t) + i))], [vR y], aq_h m s F c)) rfl rfl ?_
              refine aq_gf (v := vR (y + 8)) rfl (by omega) hFo (by decide) rfl ?_
              show am_E _ (75, [vR y, vI t, vI i, vI w, vI (am_w ((40 * t) + i))], [vR (y + 8)], aq_h m s F c) _
              refine am_E.go (t2 := (77, [vR y, vI t, vI i, vI w, vI (am_w ((40 * t) + i))], [vI (am_w ((40 * t) + i)), vR (y + 8)], aq_h m s F c)) rfl rfl ?_
              refine aq_al (ok := fun k => k == 0) (v := vI (c (y + 8) (am_w ((40 * t) + i)))) rfl rfl (by omega) hG8 rfl (by omega) (by omega) rfl ?_
              show am_E _ (78, [vR y, vI t, vI i, vI w, vI (am_w ((40 * t) + i))], [vI (c (y + 8) (am_w ((40 * t) + i)))], aq_h m s F c) _
              refine am_E.go (t2 := (79, [vR y, vI t, vI i, vI w, vI (am_w ((40 * t) + i))], [vL (c (y + 8) (am_w ((40 * t) + i)))], aq_h m s F c)) rfl rfl ?_
              refine am_E.go (t2 := (89, [vR y, vI t, vI i, vI w, vI (am_w ((40 * t) + i))], [vL (c (y + 8) (am_w ((40 * t) + i)))], aq_h m s F c)) rfl rfl ?_
              refine am_E.ret rfl rfl ?_
              refine ⟨_, rfl, (aq_sm0 (c := c) (S := fun a => y ≤ a ∧ a < y + 24)), ?_, hI, fun _ _ => rfl⟩
              unfold tq_a rf_v
              simp only
              first | rw [e_w] | skip
              (repeat' split) <;> first | rfl | (exfalso; omega)
          · refine am_E.go (t2 := (56, [vR y, vI t, vI i, vI w, vI (am_w ((40 * t) + i))], [vR y], aq_h m s F c)) rfl rfl ?_
            refine aq_gf (v := vR (y + 7)) rfl (by omega) hFo (by decide) rfl ?_
            show am_E _ (59, [vR y, vI t, vI i, vI w, vI (am_w ((40 * t) + i))], [vR (y + 7)], aq_h m s F c) _
            refine am_E.go (t2 := (61, [vR y, vI t, vI i, vI w, vI (am_w ((40 * t) + i))], [vI (am_w ((40 * t) + i)), vR (y + 7)], aq_h m s F c)) rfl rfl ?_
            refine aq_al (ok := fun k => k == 0) (v := vI (c (y + 7) (am_w ((40 * t) + i)))) rfl rfl (by omega) hG7 rfl (by omega) (by omega) rfl ?_
            show am_E _ (62, [vR y, vI t, vI i, vI w, vI (am_w ((40 * t) + i))], [vI (c (y + 7) (am_w ((40 * t) + i)))], aq_h m s F c) _
            refine am_E.go (t2 := (63, [vR y, vI t, vI i, vI w, vI (am_w ((40 * t) + i))], [vL (c (y + 7) (am_w ((40 * t) + i)))], aq_h m s F c)) rfl rfl ?_
            refine am_E.go (t2 := (89, [vR y, vI t, vI i, vI w, vI (am_w ((40 * t) + i))], [vL (c (y + 7) (am_w ((40 * t) + i)))], aq_h m s F c)) rfl rfl ?_
            refine am_E.ret rfl rfl ?_
            refine ⟨_, rfl, (aq_sm0 (c := c) (S := fun a => y ≤ a ∧ a < y + 24)), ?_, hI, fun _ _ => rfl⟩
            unfold tq_a rf_v
            simp only
            first | rw [e_w] | skip
            (repeat' split) <;> first | rfl | (exfalso; omega)
        · refine am_E.go (t2 := (48, [vR y, vI t, vI i, vI w, vI (am_w ((40 * t) + i))], [vL (-1000000000000004)], aq_h m s F c)) rfl rfl ?_
          refine am_E.go (t2 := (89, [vR y, vI t, vI i, vI w, vI (am_w ((40 * t) + i))], [vL (-1000000000000004)], aq_h m s F c)) rfl rfl ?_
          refine am_E.ret rfl rfl ?_
          refine ⟨_, rfl, (aq_sm0 (c := c) (S := fun a => y ≤ a ∧ a < y + 24)), ?_, hI, fun _ _ => rfl⟩
          unfold tq_a rf_v
          simp only
          first | rw [e_w] | skip
          (repeat' split) <;> first | rfl | (exfalso; omega)
      · refine am_E.go (t2 := (26, [vR y, vI t, vI i, vI w, vU], [vL (-1000000000000001)], aq_h m s F c)) rfl rfl ?_
        refine am_E.ret rfl rfl ?_
        refine ⟨_, rfl, (aq_sm0 (c := c) (S := fun a => y ≤ a ∧ a < y + 24)), ?_, hI, fun _ _ => rfl⟩
        unfold tq_a rf_v
        simp only
        first | rw [e_w] | skip
        (repeat' split) <;> first | rfl | (exfalso; omega)

def se_ (t u : sm_) : Nat → Int → Int
  | 0, _ => 1
  | d + 1, i => if i < t.1 then (if (t.2.1 i = u.2.1 i ∧ t.2.2.1 i = u.2.2.1 i) ∧ t.2.2.2 i = u.2.2.2 i then se_ t u d (i + 1) else 0) else 1
def sa_l (n : Int) (t : sm_) (n2 : Int) (u : sm_) : Int := if n = n2 ∧ t.1 = u.1 then se_ t u 42 0 else 0
def sv_a (n : Int) (t : sm_) (n2 : Int) (u : sm_) (s s2 : Int) : Int := if (0 ≤ s ∧ s < 8) ∧ 0 ≤ s2 ∧ s2 < 8 then sa_l n t n2 u else -1
theorem se_s {a t d : Nat} {c : aq_C} {i : Int} : se_ (su_v a c) (su_v t c) (d + 1) i = if i < c a 1 then (if (c (a + 1) i = c (t + 1) i ∧ c (a + 2) i = c (t + 2) i) ∧ c (a + 3) i = c (t + 3) i then se_ (su_v a c) (su_v t c) d (i + 1) else 0) else 1 := rfl
theorem sa_s {a t : Nat} {c : aq_C} : sa_l (c a 0) (su_v a c) (c t 0) (su_v t c) = if c a 0 = c t 0 ∧ c a 1 = c t 1 then se_ (su_v a c) (su_v t c) 42 0 else 0 := rfl

theorem qx_isLike_l {m s : Nat} {F : aq_F} {c : aq_C} {a : Nat} (hA : su_0 m F a) {t : Nat} (hAt : su_0 m F t) (h40 : c a 1 ≤ 40) {T : Int} : ∀ (d : Nat) (i : Int) (h0 : 0 ≤ i) (h1 : i ≤ 40) (ht : se_ (su_v a c) (su_v t c) d i = T) (hd : max 0 (c a 1 - i) < (d : Int)), am_E ac_X3_isLike (26, [vR a, vR t, vI i], [], aq_h m s F c) (aq_P m s F c (fun r => r = some (vI T)))
  | 0, i, h0, h1, ht, hd => by exfalso; omega
  | d + 1, i, h0, h1, ht, hd => by
    obtain ⟨hma, hFa, hFn, hFp, hFf⟩ := hA
    obtain ⟨hmat, hFat, hFnt, hFpt, hFft⟩ := hAt
    refine am_E.go (t2 := (27, [vR a, vR t, vI i], [vI i], aq_h m s F c)) rfl rfl ?_
    refine am_E.go (t2 := (28, [vR a, vR t, vI i], [vR a, vI i], aq_h m s F c)) rfl rfl ?_
    refine aq_gf (v := vI (c a 1)) rfl (by omega) hFa (by decide) rfl ?_
    show am_E _ (31, [vR a, vR t, vI i], [vI (c a 1), vI i], aq_h m s F c) _
    skip
    refine ae_icmp rfl (fun (q_2 : (c a 1) ≤ i) => ?_) (fun (q_2 : i < (c a 1)) => ?_)
    · refine am_E.go (t2 := (79, [vR a, vR t, vI i], [vI 1], aq_h m s F c)) rfl rfl ?_
      refine am_E.ret rfl rfl ?_
      refine ⟨rfl, ?_⟩
      rw [← ht, se_s, if_neg (show ¬ i < c a 1 by omega)]
    · refine am_E.go (t2 := (35, [vR a, vR t, vI i], [vR a], aq_h m s F c)) rfl rfl ?_
      refine am_E.go (t2 := (36, [vR a, vR t, vI i], [vI i, vR a], aq_h m s F c)) rfl rfl ?_
      refine am_E.go (t2 := (37, [vR a, vR t, vI i], [vR t, vI i, vR a], aq_h m s F c)) rfl rfl ?_
      refine aq_gf (v := vR (t + 1)) rfl (by omega) hFat (by decide) rfl ?_
      show am_E _ (40, [vR a, vR t, vI i], [vR (t + 1), vI i, vR a], aq_h m s F c) _
      refine am_E.go (t2 := (41, [vR a, vR t, vI i], [vI i, vR (t + 1), vI i, vR a], aq_h m s F c)) rfl rfl ?_
      refine aq_al (ok := fun k => k == 0) (v := vI (c (t + 1) i)) rfl rfl (by omega) hFnt rfl (by omega) (by omega) rfl ?_
      show am_E _ (42, [vR a, vR t, vI i], [vI (c (t + 1) i), vI i, vR a], aq_h m s F c) _
      refine am_E.go (t2 := (43, [vR a, vR t, vI i], [vR t, vI (c (t + 1) i), vI i, vR a], aq_h m s F c)) rfl rfl ?_
      refine aq_gf (v := vR (t + 2)) rfl (by omega) hFat (by decide) rfl ?_
      show am_E _ (46, [vR a, vR t, vI i], [vR (t + 2), vI (c (t + 1) i), vI i, vR a], aq_h m s F c) _
      refine am_E.go (t2 := (47, [vR a, vR t, vI i], [vI i, vR (t + 2), vI (c (t + 1) i), vI i, vR a], aq_h m s F c)) rfl rfl ?_
      refine aq_al (ok := fun k => k == 0) (v := vI (c (t + 2) i)) rfl rfl (by omega) hFpt rfl (by omega) (by omega) rfl ?_
      show am_E _ (48, [vR a, vR t, vI i], [vI (c (t + 2) i), vI (c (t + 1) i), vI i, vR a], aq_h m s F c) _
      refine aq_callv (y := 4) (as2 := [vI i, vI (c (t + 1) i), vI (c (t + 2) i)]) (rest := []) rfl rfl (by decide) (Nat.le_of_ble_eq_true rfl) rfl rfl (Nat.le_of_ble_eq_true rfl) (by omega) hFa rfl (Nat.le_of_ble_eq_true rfl) (qn_X3_isAt (a := a) ⟨hma, hFa, hFn, hFp, hFf⟩ (by omega) (by omega)) ?_
      rintro r5 h5 ⟨rfl, v_3, rfl, hv_3⟩
      show am_E _ (51, [vR a, vR t, vI i], [vI v_3], aq_h m s F c) _
      refine ae_if0 rfl (fun (q_4 : v_3 = 0) => ?_) (fun (q_4 : v_3 ≠ 0) => ?_)
      · refine am_E.go (t2 := (71, [vR a, vR t, vI i], [vI 0], aq_h m s F c)) rfl rfl ?_
        refine am_E.ret rfl rfl ?_
        refine ⟨rfl, ?_⟩
        rw [← ht, se_s, if_pos (show i < c a 1 by omega), if_neg (show ¬ ((c (a + 1) i = c (t + 1) i ∧ c (a + 2) i = c (t + 2) i) ∧ c (a + 3) i = c (t + 3) i) by omega)]
      · refine am_E.go (t2 := (55, [vR a, vR t, vI i], [vR a], aq_h m s F c)) rfl rfl ?_
        refine aq_gf (v := vR (a + 3)) rfl (by omega) hFa (by decide) rfl ?_
        show am_E _ (58, [vR a, vR t, vI i], [vR (a + 3)], aq_h m s F c) _
        refine am_E.go (t2 := (59, [vR a, vR t, vI i], [vI i, vR (a + 3)], aq_h m s F c)) rfl rfl ?_
        refine aq_al (ok := fun k => k == 2) (v := vL (c (a + 3) i)) rfl rfl (by omega) hFf rfl (by omega) (by omega) rfl ?_
        show am_E _ (60, [vR a, vR t, vI i], [vL (c (a + 3) i)], aq_h m s F c) _
        refine am_E.go (t2 := (61, [vR a, vR t, vI i], [vR t, vL (c (a + 3) i)], aq_h m s F c)) rfl rfl ?_
        refine aq_gf (v := vR (t + 3)) rfl (by omega) hFat (by decide) rfl ?_
        show am_E _ (64, [vR a, vR t, vI i], [vR (t + 3), vL (c (a + 3) i)], aq_h m s F c) _
        refine am_E.go (t2 := (65, [vR a, vR t, vI i], [vI i, vR (t + 3), vL (c (a + 3) i)], aq_h m s F c)) rfl rfl ?_
        refine aq_al (ok := fun k => k == 2) (v := vL (c (t + 3) i)) rfl rfl (by omega) hFft rfl (by omega) (by omega) rfl ?_
        show am_E _ (66, [vR a, vR t, vI i], [vL (c (t + 3) i), vL (c (a + 3) i)], aq_h m s F c) _
        have ez_5 := am_lcf (c (a + 3) i) (c (t + 3) i)
        refine am_E.go (t2 := (67, [vR a, vR t, vI i], [vI (if (c (a + 3) i) < (c (t + 3) i) then -1 else if (c (a + 3) i) = (c (t + 3) i) then 0 else 1)], aq_h m s F c)) rfl rfl ?_
        generalize (if (c (a + 3) i) < (c (t + 3) i) then -1 else if (c (a + 3) i) = (c (t + 3) i) then 0 else 1) = z_5 at ez_5 ⊢
        refine ae_if0 rfl (fun (q_6 : z_5 = 0) => ?_) (fun (q_6 : z_5 ≠ 0) => ?_)
        · refine ae_iinc rfl rfl (am_ri (by omega) (by omega)) ?_
          show am_E _ (75, [vR a, vR t, vI (i + 1)], [], aq_h m s F c) _
          refine am_E.go (t2 := (26, [vR a, vR t, vI (i + 1)], [], aq_h m s F c)) rfl rfl ?_
          exact qx_isLike_l ⟨hma, hFa, hFn, hFp, hFf⟩ ⟨hmat, hFat, hFnt, hFpt, hFft⟩ h40 d (i + 1) (by omega) (by omega) (by rw [← ht, se_s, if_pos (show i < c a 1 by omega), if_pos (show (c (a + 1) i = c (t + 1) i ∧ c (a + 2) i = c (t + 2) i) ∧ c (a + 3) i = c (t + 3) i by omega)]) (by omega)
        · refine am_E.go (t2 := (71, [vR a, vR t, vI i], [vI 0], aq_h m s F c)) rfl rfl ?_
          refine am_E.ret rfl rfl ?_
          refine ⟨rfl, ?_⟩
          rw [← ht, se_s, if_pos (show i < c a 1 by omega), if_neg (show ¬ ((c (a + 1) i = c (t + 1) i ∧ c (a + 2) i = c (t + 2) i) ∧ c (a + 3) i = c (t + 3) i) by omega)]

theorem qx_isLike {m s : Nat} {F : aq_F} {c : aq_C} {a : Nat} (hA : su_0 m F a) {t : Nat} (hAt : su_0 m F t) (h40 : c a 1 ≤ 40) : am_E ac_X3_isLike (0, [vR a, vR t, vU], [], aq_h m s F c) (aq_P m s F c (fun r => r = some (vI (sa_l (c a 0) (su_v a c) (c t 0) (su_v t c))))) := by
  obtain ⟨hma, hFa, hFn, hFp, hFf⟩ := hA
  obtain ⟨hmat, hFat, hFnt, hFpt, hFft⟩ := hAt
  refine am_E.go (t2 := (1, [vR a, vR t, vU], [vR a], aq_h m s F c)) rfl rfl ?_
  refine aq_gf (v := vI (c a 0)) rfl (by omega) hFa (by decide) rfl ?_
  show am_E _ (4, [vR a, vR t, vU], [vI (c a 0)], aq_h m s F c) _
  skip
  refine am_E.go (t2 := (5, [vR a, vR t, vU], [vR t, vI (c a 0)], aq_h m s F c)) rfl rfl ?_
  refine aq_gf (v := vI (c t 0)) rfl (by omega) hFat (by decide) rfl ?_
  show am_E _ (8, [vR a, vR t, vU], [vI (c t 0), vI (c a 0)], aq_h m s F c) _
  skip
  refine ae_icmp rfl (fun (q_3 : (c a 0) ≠ (c t 0)) => ?_) (fun (q_3 : (c a 0) = (c t 0)) => ?_)
  · refine am_E.go (t2 := (23, [vR a, vR t, vU], [vI 0], aq_h m s F c)) rfl rfl ?_
    refine am_E.ret rfl rfl ?_
    refine ⟨rfl, ?_⟩
    rw [sa_s, if_neg (show ¬ (c a 0 = c t 0 ∧ c a 1 = c t 1) by omega)]
  · refine am_E.go (t2 := (12, [vR a, vR t, vU], [vR a], aq_h m s F c)) rfl rfl ?_
    refine aq_gf (v := vI (c a 1)) rfl (by omega) hFa (by decide) rfl ?_
    show am_E _ (15, [vR a, vR t, vU], [vI (c a 1)], aq_h m s F c) _
    skip
    refine am_E.go (t2 := (16, [vR a, vR t, vU], [vR t, vI (c a 1)], aq_h m s F c)) rfl rfl ?_
    refine aq_gf (v := vI (c t 1)) rfl (by omega) hFat (by decide) rfl ?_
    show am_E _ (19, [vR a, vR t, vU], [vI (c t 1), vI (c a 1)], aq_h m s F c) _
    skip
    refine ae_icmp rfl (fun (q_6 : (c a 1) = (c t 1)) => ?_) (fun (q_6 : (c a 1) ≠ (c t 1)) => ?_)
    · refine am_E.go (t2 := (25, [vR a, vR t, vU], [vI 0], aq_h m s F c)) rfl rfl ?_
      refine am_E.go (t2 := (26, [vR a, vR t, vI 0], [], aq_h m s F c)) rfl rfl ?_
      exact qx_isLike_l ⟨hma, hFa, hFn, hFp, hFf⟩ ⟨hmat, hFat, hFnt, hFpt, hFft⟩ h40 42 0 (by omega) (by omega) (by rw [sa_s, if_pos (show c a 0 = c t 0 ∧ c a 1 = c t 1 by omega)]) (by omega)
    · refine am_E.go (t2 := (23, [vR a, vR t, vU], [vI 0], aq_h m s F c)) rfl rfl ?_
      refine am_E.ret rfl rfl ?_
      refine ⟨rfl, ?_⟩
      rw [sa_s, if_neg (show ¬ (c a 0 = c t 0 ∧ c a 1 = c t 1) by omega)]

theorem se_b {t u : sm_} : ∀ (d : Nat) (i : Int), se_ t u d i = 0 ∨ se_ t u d i = 1
  | 0, _ => Or.inr rfl
  | d + 1, i => by
    rw [se_]
    (repeat' split)
    · exact se_b d (i + 1)
    · exact Or.inl rfl
    · exact Or.inr rfl
theorem sa_b {n n2 : Int} {t u : sm_} : sa_l n t n2 u = 0 ∨ sa_l n t n2 u = 1 := by
  unfold sa_l
  split
  · exact se_b 42 0
  · exact Or.inl rfl

theorem qx_X4_same {m s : Nat} {F : aq_F} {c : aq_C} (hC : sb_C m F) (hI : cl_I c) {sa sb : Int} {aa tt : Nat} (haa : aa = 495 + 4 * sa.toNat) (htt : tt = 495 + 4 * sb.toNat) : am_E ac_X4_same (0, [vR 0, vI sa, vI sb], [], aq_h m s F c) (aq_Z m s F (fun a => a < 527) c (fun r d => r = some (vI (sv_a (c aa 0) (su_v aa c) (c tt 0) (su_v tt c) sa sb)) ∧ cl_I d ∧ ∀ x i, d x i = c x i)) := by
  obtain ⟨hCm, hC0, hC1, hC2, hC3, ⟨hma4, hFa4, hFn4, hFp4, hFf4⟩, ⟨hmx, hFx, hFl, hFw⟩, hCs, hCb, hCh⟩ := id hC
  refine am_E.go (t2 := (1, [vR 0, vI sa, vI sb], [vI sa], aq_h m s F c)) rfl rfl ?_
  refine am_E.call rfl rfl rfl (Nat.le_of_ble_eq_true rfl) (qn_X4_isSum) ?_
  rintro r5 h5 ⟨rfl, v_1, rfl, hv_1⟩
  show am_E _ (4, [vR 0, vI sa, vI sb], [vI v_1], aq_h m s F c) _
  refine ae_if0 rfl (fun (q_2 : v_1 = 0) => ?_) (fun (q_2 : v_1 ≠ 0) => ?_)
  · refine am_E.go (t2 := (15, [vR 0, vI sa, vI sb], [vI (-1)], aq_h m s F c)) rfl rfl ?_
    refine am_E.ret rfl rfl ?_
    refine ⟨_, rfl, (aq_sm0 (S := fun a => a < 527)), ?_, hI, fun _ _ => rfl⟩
    unfold sv_a
    rw [if_neg (by omega)]
  · refine am_E.go (t2 := (8, [vR 0, vI sa, vI sb], [vI sb], aq_h m s F c)) rfl rfl ?_
    refine am_E.call rfl rfl rfl (Nat.le_of_ble_eq_true rfl) (qn_X4_isSum) ?_
    rintro r5 h5 ⟨rfl, v_3, rfl, hv_3⟩
    show am_E _ (11, [vR 0, vI sa, vI sb], [vI v_3], aq_h m s F c) _
    refine ae_if0 rfl (fun (q_4 : v_3 ≠ 0) => ?_) (fun (q_4 : v_3 = 0) => ?_)
    · refine am_E.go (t2 := (17, [vR 0, vI sa, vI sb], [vR 0], aq_h m s F c)) rfl rfl ?_
      refine aq_gf (v := vR 3) rfl (by omega) hC0 (by decide) rfl ?_
      show am_E _ (20, [vR 0, vI sa, vI sb], [vR 3], aq_h m s F c) _
      refine am_E.go (t2 := (21, [vR 0, vI sa, vI sb], [vI sa, vR 3], aq_h m s F c)) rfl rfl ?_
      obtain ⟨a, e_a⟩ : ∃ x, x = 495 + 4 * (sa).toNat := ⟨_, rfl⟩
      obtain ⟨hmaa, hFaa, hFna, hFpa, hFfa⟩ : su_0 m F a := by rw [e_a]; exact hCs _ (by omega)
      obtain ⟨hu0a, hu4a, hka⟩ : sb_u a c := by rw [e_a]; exact hI.2.2 _ (by omega)
      have hk1a := hka.1
      have hk2a := hka.2.1
      refine aq_al (ok := fun k => decide (3 ≤ k) && decide (k < 7)) (v := vR a) rfl rfl (by omega) hC3 rfl (by omega) (by omega) (aq_gi2 (by omega) e_a.symm) ?_
      show am_E _ (22, [vR 0, vI sa, vI sb], [vR a], aq_h m s F c) _
      refine am_E.go (t2 := (23, [vR 0, vI sa, vI sb], [vR 0, vR a], aq_h m s F c)) rfl rfl ?_
      refine aq_gf (v := vR 3) rfl (by omega) hC0 (by decide) rfl ?_
      show am_E _ (26, [vR 0, vI sa, vI sb], [vR 3, vR a], aq_h m s F c) _
      refine am_E.go (t2 := (27, [vR 0, vI sa, vI sb], [vI sb, vR 3, vR a], aq_h m s F c)) rfl rfl ?_
      obtain ⟨t, e_t⟩ : ∃ x, x = 495 + 4 * (sb).toNat := ⟨_, rfl⟩
      obtain ⟨hmat, hFat, hFnt, hFpt, hFft⟩ : su_0 m F t := by rw [e_t]; exact hCs _ (by omega)
      obtain ⟨hu0t, hu4t, hkt⟩ : sb_u t c := by rw [e_t]; exact hI.2.2 _ (by omega)
      have hk1t := hkt.1
      have hk2t := hkt.2.1
      refine aq_al (ok := fun k => decide (3 ≤ k) && decide (k < 7)) (v := vR t) rfl rfl (by omega) hC3 rfl (by omega) (by omega) (aq_gi2 (by omega) e_t.symm) ?_
      show am_E _ (28, [vR 0, vI sa, vI sb], [vR t, vR a], aq_h m s F c) _
      refine aq_callv (y := 2) (as2 := [vR t]) (rest := []) rfl rfl (by decide) (Nat.le_of_ble_eq_true rfl) rfl rfl (Nat.le_of_ble_eq_true rfl) (by omega) hFaa rfl (Nat.le_of_ble_eq_true rfl) (qx_isLike (a := a) ⟨hmaa, hFaa, hFna, hFpa, hFfa⟩ (t := t) ⟨hmat, hFat, hFnt, hFpt, hFft⟩ (by omega)) ?_
      rintro r5 h5 ⟨rfl, rfl⟩
      show am_E _ (31, [vR 0, vI sa, vI sb], [vI (sa_l (c a 0) (su_v a c) (c t 0) (su_v t c))], aq_h m s F c) _
      have hsb := sa_b (n := c a 0) (n2 := c t 0) (t := su_v a c) (u := su_v t c)
      refine ae_if0 rfl (fun (q_5 : (sa_l (c a 0) (su_v a c) (c t 0) (su_v t c)) = 0) => ?_) (fun (q_5 : (sa_l (c a 0) (su_v a c) (c t 0) (su_v t c)) ≠ 0) => ?_)
      · refine am_E.go (t2 := (39, [vR 0, vI sa, vI sb], [vI 0], aq_h m s F c)) rfl rfl ?_
        refine am_E.ret rfl rfl ?_
        have e9 : aa = a := by rw [haa, e_a]
        have e8 : tt = t := by rw [htt, e_t]
        rw [e9, e8]
        refine ⟨_, rfl, (aq_sm0 (S := fun a => a < 527)), ?_, hI, fun _ _ => rfl⟩
        have e7 : sv_a (c a 0) (su_v a c) (c t 0) (su_v t c) sa sb = sa_l (c a 0) (su_v a c) (c t 0) (su_v t c) := by unfold sv_a; rw [if_pos (by omega)]
        have e6 : sa_l (c a 0) (su_v a c) (c t 0) (su_v t c) = 0 := by omega
        rw [e7, e6]
      · refine am_E.go (t2 := (35, [vR 0, vI sa, vI sb], [vI 1], aq_h m s F c)) rfl rfl ?_
        refine am_E.go (t2 := (39, [vR 0, vI sa, vI sb], [vI 1], aq_h m s F c)) rfl rfl ?_
        refine am_E.ret rfl rfl ?_
        have e9 : aa = a := by rw [haa, e_a]
        have e8 : tt = t := by rw [htt, e_t]
        rw [e9, e8]
        refine ⟨_, rfl, (aq_sm0 (S := fun a => a < 527)), ?_, hI, fun _ _ => rfl⟩
        have e7 : sv_a (c a 0) (su_v a c) (c t 0) (su_v t c) sa sb = sa_l (c a 0) (su_v a c) (c t 0) (su_v t c) := by unfold sv_a; rw [if_pos (by omega)]
        have e6 : sa_l (c a 0) (su_v a c) (c t 0) (su_v t c) = 1 := by omega
        rw [e7, e6]
    · refine am_E.go (t2 := (15, [vR 0, vI sa, vI sb], [vI (-1)], aq_h m s F c)) rfl rfl ?_
      refine am_E.ret rfl rfl ?_
      refine ⟨_, rfl, (aq_sm0 (S := fun a => a < 527)), ?_, hI, fun _ _ => rfl⟩
      unfold sv_a
      rw [if_neg (by omega)]
def pf_q (g : Int) : Int := (1000000000000 : Int).tdiv (if g < 0 then -g else g)
/-- a product that fits -/
abbrev pf_ (f g : Int) : Prop := -(pf_q g) ≤ f ∧ f ≤ pf_q g
theorem pf_r {g : Int} (hg : g ≠ 0) : 0 ≤ pf_q g ∧ pf_q g ≤ 1000000000000 ∧ pf_q g * (if g < 0 then -g else g) ≤ 1000000000000 := by
  unfold pf_q
  have h : 1 ≤ (if g < 0 then -g else g) := by split <;> omega
  generalize (if g < 0 then -g else g) = G at h ⊢
  rw [Int.tdiv_eq_ediv_of_nonneg (by decide)]
  refine ⟨Int.ediv_nonneg (by decide) (by omega), ?_, Int.ediv_mul_le _ (by omega)⟩
  exact Int.ediv_le_self G (by decide)
theorem pf_ok {f g : Int} (hg : g ≠ 0) (h : pf_ f g) : sm_ok (f * g) := by
  obtain ⟨r0, r1, r2⟩ := pf_r hg
  obtain ⟨h1, h2⟩ := h
  unfold sm_ok
  by_cases e : g < 0
  · rw [if_pos e] at r2
    have a1 := Int.mul_le_mul_of_nonneg_right h1 (show (0 : Int) ≤ -g by omega)
    have a2 := Int.mul_le_mul_of_nonneg_right h2 (show (0 : Int) ≤ -g by omega)
    simp only [Int.mul_neg, Int.neg_mul] at a1 a2 r2
    omega
  · rw [if_neg e] at r2
    have a1 := Int.mul_le_mul_of_nonneg_right h1 (show (0 : Int) ≤ g by omega)
    have a2 := Int.mul_le_mul_of_nonneg_right h2 (show (0 : Int) ≤ g by omega)
    rw [Int.neg_mul] at a1
    omega
theorem pf_n {f g : Int} (hf : f ≠ 0) (hg : g ≠ 0) : f * g ≠ 0 := Int.mul_ne_zero hf hg
def sm_J (t : sm_) (b p f : Int) : Option sm_ := if p ≤ 20 then sm_j t b p f else none
def sj_ (u : sm_) (g : Int) : Nat → Int → sm_ → Option sm_
  | 0, _, t => some t
  | d + 1, i, t => if i < u.1 then (sm_j t (u.2.1 i) (u.2.2.1 i) (g * u.2.2.2 i)).bind (fun t2 => sj_ u g d (i + 1) t2) else some t
def sp_i (n : Int) (t u : sm_) (i : Int) : Nat → Int → sm_ → Option sm_
  | 0, _, w => some w
  | d + 1, j, w => if j < u.1 then (if pf_ (t.2.2.2 i) (u.2.2.2 j) then (sm_J w (sk_ n (t.2.1 i) (u.2.1 j) % 1000) (t.2.2.1 i + u.2.2.1 j + sk_ n (t.2.1 i) (u.2.1 j) / 1000) (t.2.2.2 i * u.2.2.2 j)).bind (fun w2 => sp_i n t u i d (j + 1) w2) else none) else some w
def sp_o (n : Int) (t u : sm_) : Nat → Int → sm_ → Option sm_
  | 0, _, w => some w
  | d + 1, i, w => if i < t.1 then (sp_i n t u i 41 0 w).bind (fun w2 => sp_o n t u d (i + 1) w2) else some w
def sm_0 : sm_ := (0, fun _ => 0, fun _ => 0, fun _ => 0)
/-- what work makes: none where the document says HIGH -/
def wk_o (n w : Int) (t u : sm_) : Option sm_ := if w = 2 then sp_o n t u 41 0 sm_0 else sj_ u (if w = 0 then 1 else -1) 41 0 t
abbrev wk_k (s w t u : Int) : Prop := (0 ≤ s ∧ s < 8) ∧ (0 ≤ w ∧ w ≤ 2) ∧ (0 ≤ t ∧ t < 8) ∧ 0 ≤ u ∧ u < 8
def wk_z (x : Option sm_) : Int := match x with | none => -5 | some v => v.1
/-- work's answer -/
def wk_a (nt nu : Int) (t u : sm_) (s w ti ui : Int) : Int := if wk_k s w ti ui then (if nt = nu then wk_z (wk_o nt w t u) else -2) else -1
/-- alike: both HIGH, or the same sum -/
def rox_ (x y : Option sm_) : Prop := (x = none ∧ y = none) ∨ ∃ a b, x = some a ∧ y = some b ∧ sm_e a b
theorem rox_z {x y : Option sm_} (h : rox_ x y) : wk_z x = wk_z y := by
  rcases h with ⟨h1, h2⟩ | ⟨a, b, h1, h2, h3⟩
  · rw [h1, h2]
  · rw [h1, h2]
    exact h3.1
theorem sm_er {t : sm_} : sm_e t t := ⟨rfl, fun _ _ _ => ⟨rfl, rfl, rfl⟩⟩
theorem sm_jr {K b p f : Int} {t t2 : sm_} (hw : sm_w K t) (he : sm_e t t2) : rox_ (sm_j t b p f) (sm_j t2 b p f) := by
  have j := sm_jc (b := b) (p := p) (f := f) he hw.1
  cases h : sm_j t b p f with
  | none => exact Or.inl ⟨rfl, j.1.mp h⟩
  | some a =>
    cases h2 : sm_j t2 b p f with
    | none => exact absurd (j.1.mpr h2) (by rw [h]; simp)
    | some b => exact Or.inr ⟨a, b, rfl, rfl, j.2 a b h h2⟩
theorem sm_we {K : Int} {t u : sm_} (hw : sm_w K t) (he : sm_e t u) : sm_w K u := by
  obtain ⟨w1, w2, w3, w4⟩ := hw
  have hz := he.1
  refine ⟨by omega, by omega, fun i i0 i1 => ?_, fun i i0 i1 => ?_⟩
  · have k := w3 i i0 (by omega)
    have q := he.2 i i0 (by omega)
    rw [← q.1, ← q.2.1, ← q.2.2]
    exact k
  · have k := w4 i i0 (by omega)
    have q := he.2 i i0 (by omega)
    have q2 := he.2 (i + 1) (by omega) (by omega)
    rw [← q.1, ← q.2.1, ← q2.1, ← q2.2.1]
    exact k
theorem sj_c {K g : Int} {u u2 : sm_} (hU : sm_w K u) (hE : sm_e u u2) (hg : g = 1 ∨ g = -1) : ∀ (d : Nat) (i : Int) (t t2 : sm_), 0 ≤ i → sm_w K t → sm_e t t2 → rox_ (sj_ u g d i t) (sj_ u2 g d i t2) ∧ ∀ v, sj_ u g d i t = some v → sm_w K v
  | 0, i, t, t2, i0, hw, he => ⟨Or.inr ⟨t, t2, rfl, rfl, he⟩, fun v h => by obtain rfl := Option.some.inj h; exact hw⟩
  | d + 1, i, t, t2, i0, hw, he => by
    rw [sj_, sj_, ← hE.1]
    by_cases e : i < u.1
    · rw [if_pos e, if_pos e]
      have q := hE.2 i i0 e
      have k := hU.2.2.1 i i0 e
      rw [← q.1, ← q.2.1, ← q.2.2]
      have hf : sm_ok (g * u.2.2.2 i) := by
        have k3 := k.2.2.1
        unfold sm_ok at k3 ⊢
        rcases hg with e | e <;> rw [e] <;> omega
      rcases sm_jr (b := u.2.1 i) (p := u.2.2.1 i) (f := g * u.2.2.2 i) hw he with ⟨h1, h2⟩ | ⟨a, b, h1, h2, h3⟩
      · rw [h1, h2]
        exact ⟨Or.inl ⟨rfl, rfl⟩, fun v h => absurd h (by simp)⟩
      · rw [h1, h2]
        have hw2 := sm_jw hw k.1.1 k.1.2 k.2.1.1 k.2.1.2 hf h1
        exact sj_c hU hE hg d (i + 1) a b (by omega) hw2 h3
    · rw [if_neg e, if_neg e]
      exact ⟨Or.inr ⟨t, t2, rfl, rfl, he⟩, fun v h => by obtain rfl := Option.some.inj h; exact hw⟩
theorem sk_l {n x y : Int} : 0 ≤ sk_ n x y ∧ sk_ n x y < 65536 := by
  unfold sk_ tb_
  omega
theorem sp_ic {n : Int} {t t2 u u2 : sm_} {i : Int} (h1 : 1 ≤ n) (h4 : n ≤ 4) (hT : sm_w (bx_K n) t) (hT2 : sm_e t t2) (hU : sm_w (bx_K n) u) (hU2 : sm_e u u2) (i0 : 0 ≤ i) (i1 : i < t.1) : ∀ (d : Nat) (j : Int) (w w2 : sm_), 0 ≤ j → sm_w (bx_K n) w → sm_e w w2 → rox_ (sp_i n t u i d j w) (sp_i n t2 u2 i d j w2) ∧ ∀ v, sp_i n t u i d j w = some v → sm_w (bx_K n) v
  | 0, j, w, w2, j0, hw, he => ⟨Or.inr ⟨w, w2, rfl, rfl, he⟩, fun v h => by obtain rfl := Option.some.inj h; exact hw⟩
  | d + 1, j, w, w2, j0, hw, he => by
    rw [sp_i, sp_i, ← hU2.1]
    by_cases e : j < u.1
    · rw [if_pos e, if_pos e]
      have q := hU2.2 j j0 e
      have k := hU.2.2.1 j j0 e
      have q2 := hT2.2 i i0 i1
      have k2 := hT.2.2.1 i i0 i1
      rw [← q.1, ← q.2.1, ← q.2.2, ← q2.1, ← q2.2.1, ← q2.2.2]
      have b1 := sk_b (n := n) (x := t.2.1 i) (y := u.2.1 j) h1 h4 k2.1.1 k2.1.2 k.1.1 k.1.2
      by_cases e2 : pf_ (t.2.2.2 i) (u.2.2.2 j)
      · rw [if_pos e2, if_pos e2]
        have hf := pf_ok k.2.2.2 e2
        unfold sm_J
        by_cases e3 : t.2.2.1 i + u.2.2.1 j + sk_ n (t.2.1 i) (u.2.1 j) / 1000 ≤ 20
        · rw [if_pos e3, if_pos e3]
          rcases sm_jr (b := sk_ n (t.2.1 i) (u.2.1 j) % 1000) (p := t.2.2.1 i + u.2.2.1 j + sk_ n (t.2.1 i) (u.2.1 j) / 1000) (f := t.2.2.2 i * u.2.2.2 j) hw he with ⟨h1', h2⟩ | ⟨a, b, h1', h2, h3⟩
          · rw [h1', h2]
            exact ⟨Or.inl ⟨rfl, rfl⟩, fun v h => absurd h (by simp)⟩
          · rw [h1', h2]
            have hw2 := sm_jw hw b1.1.1 b1.1.2 (by have := k.2.1; have := k2.2.1; omega) e3 hf h1'
            exact sp_ic h1 h4 hT hT2 hU hU2 i0 i1 d (j + 1) a b (by omega) hw2 h3
        · rw [if_neg e3, if_neg e3]
          exact ⟨Or.inl ⟨rfl, rfl⟩, fun v h => absurd h (by simp)⟩
      · rw [if_neg e2, if_neg e2]
        exact ⟨Or.inl ⟨rfl, rfl⟩, fun v h => absurd h (by simp)⟩
    · rw [if_neg e, if_neg e]
      exact ⟨Or.inr ⟨w, w2, rfl, rfl, he⟩, fun v h => by obtain rfl := Option.some.inj h; exact hw⟩
theorem sp_oc {n : Int} {t t2 u u2 : sm_} (h1 : 1 ≤ n) (h4 : n ≤ 4) (hT : sm_w (bx_K n) t) (hT2 : sm_e t t2) (hU : sm_w (bx_K n) u) (hU2 : sm_e u u2) : ∀ (d : Nat) (i : Int) (w w2 : sm_), 0 ≤ i → sm_w (bx_K n) w → sm_e w w2 → rox_ (sp_o n t u d i w) (sp_o n t2 u2 d i w2) ∧ ∀ v, sp_o n t u d i w = some v → sm_w (bx_K n) v
  | 0, i, w, w2, i0, hw, he => ⟨Or.inr ⟨w, w2, rfl, rfl, he⟩, fun v h => by obtain rfl := Option.some.inj h; exact hw⟩
  | d + 1, i, w, w2, i0, hw, he => by
    rw [sp_o, sp_o, ← hT2.1]
    by_cases e : i < t.1
    · rw [if_pos e, if_pos e]
      have k := sp_ic h1 h4 hT hT2 hU hU2 i0 e 41 0 w w2 (by omega) hw he
      rcases k.1 with ⟨h1', h2⟩ | ⟨a, b, h1', h2, h3⟩
      · rw [h1', h2]
        exact ⟨Or.inl ⟨rfl, rfl⟩, fun v h => absurd h (by simp)⟩
      · rw [h1', h2]
        exact sp_oc h1 h4 hT hT2 hU hU2 d (i + 1) a b (by omega) (k.2 a h1') h3
    · rw [if_neg e, if_neg e]
      exact ⟨Or.inr ⟨w, w2, rfl, rfl, he⟩, fun v h => by obtain rfl := Option.some.inj h; exact hw⟩
theorem sm_w0 {K : Int} {t : sm_} (h : t.1 = 0) : sm_w K t := ⟨by omega, by omega, fun i i0 i1 => by exfalso; omega, fun i i0 i1 => by exfalso; omega⟩
theorem sm_e0 {t u : sm_} (h : t.1 = 0) (h2 : u.1 = 0) : sm_e t u := ⟨by omega, fun i i0 i1 => by exfalso; omega⟩
theorem wk_c {n w : Int} {t t2 u u2 : sm_} (h1 : 1 ≤ n) (h4 : n ≤ 4) (hT : sm_w (bx_K n) t) (hT2 : sm_e t t2) (hU : sm_w (bx_K n) u) (hU2 : sm_e u u2) : rox_ (wk_o n w t u) (wk_o n w t2 u2) ∧ ∀ v, wk_o n w t u = some v → sm_w (bx_K n) v := by
  unfold wk_o
  by_cases e : w = 2
  · rw [if_pos e, if_pos e]
    exact sp_oc h1 h4 hT hT2 hU hU2 41 0 sm_0 sm_0 (by omega) (sm_w0 rfl) sm_er
  · rw [if_neg e, if_neg e]
    exact sj_c hU hU2 (by split <;> omega) 41 0 t t2 (by omega) hT hT2
/-- a well made sum joined term by term to its first terms is itself -/
theorem sj_id {K : Int} {t : sm_} (hT : sm_w K t) : ∀ (d : Nat) (i : Int) (w : sm_), 0 ≤ i → i ≤ t.1 → t.1 - i < (d : Int) → w.1 = i → (∀ j, 0 ≤ j → j < i → w.2.1 j = t.2.1 j ∧ w.2.2.1 j = t.2.2.1 j ∧ w.2.2.2 j = t.2.2.2 j) → ∃ w2, sj_ t 1 d i w = some w2 ∧ sm_e t w2
  | 0, i, w, i0, i1, hd, hz, hw => by exfalso; omega
  | d + 1, i, w, i0, i1, hd, hz, hw => by
    rw [sj_]
    by_cases e : i < t.1
    · rw [if_pos e]
      obtain ⟨u2, h1, h2, h3⟩ := sm_ja hT i0 e hz hw
      rw [Int.one_mul, h1]
      exact sj_id hT d (i + 1) u2 (by omega) (by omega) (by omega) h2 h3
    · rw [if_neg e]
      refine ⟨w, rfl, by omega, fun j j0 j1 => ?_⟩
      have k := hw j j0 (by omega)
      exact ⟨k.1.symm, k.2.1.symm, k.2.2.symm⟩
theorem sm_q {K b p f v : Int} {t u w : sm_} (hw : sm_w K t) (he : sm_e t u) (q : (v = 0 ∧ sm_j u b p f = none ∧ sm_e u w) ∨ (v = 1 ∧ ∃ t2, sm_j u b p f = some t2 ∧ sm_e t2 w)) : (v = 0 ∧ sm_j t b p f = none) ∨ (v = 1 ∧ ∃ t2, sm_j t b p f = some t2 ∧ sm_e t2 w) := by
  rcases sm_jr (b := b) (p := p) (f := f) hw he with ⟨h1, h2⟩ | ⟨a, b', h1, h2, h3⟩
  · rcases q with ⟨k1, k2, k3⟩ | ⟨k1, t2, k2, k3⟩
    · exact Or.inl ⟨k1, h1⟩
    · rw [h2] at k2
      exact absurd k2 (by simp)
  · rcases q with ⟨k1, k2, k3⟩ | ⟨k1, t2, k2, k3⟩
    · rw [h2] at k2
      exact absurd k2 (by simp)
    · rw [h2] at k2
      obtain rfl := Option.some.inj k2
      exact Or.inr ⟨k1, a, h1, sm_et h3 k3⟩
