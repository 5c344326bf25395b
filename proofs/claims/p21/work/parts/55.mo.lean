/-! The reference: numberOf, stacked. Printed by wip/p20/sx/gMO2.py. -/

theorem qm_numberOf_in {m s : Nat} {F : aq_F} {c : aq_C} {y : Nat} (hO : mo_0 m F y) {tbl : Int → Int} (hT : mo_T F y tbl) {n : Int} (hn1 : 1 ≤ n) (hn4 : n ≤ 4) : ∀ (d : Nat) (b : Int) (is : Int) (p : Int) (hb0 : 0 ≤ b) (hb1 : b < bx_K n) (h0 : 0 ≤ p) (h1 : p ≤ 2 * n) (hi : (is = 1 ∧ ∀ i, 0 ≤ i → i < p → prt n b i = c (y + 12) i) ∨ (is = 0 ∧ ∃ i, 0 ≤ i ∧ i < 2 * n ∧ prt n b i ≠ c (y + 12) i)) (hd : 2 * n - p < (d : Int)) (K0 : ∀ (is2 : Int) (p2 : Int) (hx : (is2 = 1 ∧ ∀ i, 0 ≤ i → i < 2 * n → prt n b i = c (y + 12) i) ∨ (is2 = 0 ∧ ∃ i, 0 ≤ i ∧ i < 2 * n ∧ prt n b i ≠ c (y + 12) i)), am_E ac_X5_numberOf (62, [vR y, vI n, vI b, vI is2, vI p2], [], aq_h m s F c) (aq_P m s F c (fun r => ∃ v, r = some (vI v) ∧ ((0 ≤ v ∧ v < bx_K n ∧ ∀ i, 0 ≤ i → i < 2 * n → prt n v i = c (y + 12) i) ∨ (v = -4 ∧ ∀ b, 0 ≤ b → b < bx_K n → ∃ i, 0 ≤ i ∧ i < 2 * n ∧ prt n b i ≠ c (y + 12) i))))), am_E ac_X5_numberOf (15, [vR y, vI n, vI b, vI is, vI p], [], aq_h m s F c) (aq_P m s F c (fun r => ∃ v, r = some (vI v) ∧ ((0 ≤ v ∧ v < bx_K n ∧ ∀ i, 0 ≤ i → i < 2 * n → prt n v i = c (y + 12) i) ∨ (v = -4 ∧ ∀ b, 0 ≤ b → b < bx_K n → ∃ i, 0 ≤ i ∧ i < 2 * n ∧ prt n b i ≠ c (y + 12) i))))
  | 0, b, is, p, hb0, hb1, h0, h1, hi, hd, K0 => by exfalso; omega
  | d + 1, b, is, p, hb0, hb1, h0, h1, hi, hd, K0 => by
    obtain ⟨hm, hFo, hG5, hG6, hG7, hG8, hG9, hG10, hG11, hG12, hG13, hG14, hG15, hG16, hG17, hG18, hG19, hG20, hG21, hG22, hG23⟩ := hO
    obtain ⟨hT1, hTt⟩ := hT
    have hfs := mo_fs n
    refine am_E.go (t2 := (17, [vR y, vI n, vI b, vI is, vI p], [vI p], aq_h m s F c)) rfl rfl ?_
    refine am_E.go (t2 := (18, [vR y, vI n, vI b, vI is, vI p], [vI 2, vI p], aq_h m s F c)) rfl rfl ?_
    refine am_E.go (t2 := (19, [vR y, vI n, vI b, vI is, vI p], [vI n, vI 2, vI p], aq_h m s F c)) rfl rfl ?_
    refine ae_mul rfl (am_ri (by omega) (by omega)) ?_
    show am_E _ (20, [vR y, vI n, vI b, vI is, vI p], [vI (2 * n), vI p], aq_h m s F c) _
    refine ae_icmp rfl (fun (q_1 : (2 * n) ≤ p) => ?_) (fun (q_1 : p < (2 * n)) => ?_)
    · exact K0 is p (by rcases hi with ⟨hi1, hi⟩ | hi; exact Or.inl ⟨hi1, fun i h5 h6 => hi i h5 (by omega)⟩; exact Or.inr hi)
    · refine am_E.go (t2 := (24, [vR y, vI n, vI b, vI is, vI p], [vI is], aq_h m s F c)) rfl rfl ?_
      refine ae_if0 rfl (fun (q_2 : is = 0) => ?_) (fun (q_2 : is ≠ 0) => ?_)
      · exact K0 is p (by rcases hi with ⟨hi1, hi⟩ | hi; exact Or.inl ⟨hi1, fun i h5 h6 => hi i h5 (by omega)⟩; exact Or.inr hi)
      · refine am_E.go (t2 := (28, [vR y, vI n, vI b, vI is, vI p], [vR y], aq_h m s F c)) rfl rfl ?_
        refine aq_gf (v := vR (y + 1)) rfl (by omega) hFo (by decide) rfl ?_
        show am_E _ (31, [vR y, vI n, vI b, vI is, vI p], [vR (y + 1)], aq_h m s F c) _
        refine am_E.go (t2 := (32, [vR y, vI n, vI b, vI is, vI p], [vI n, vR (y + 1)], aq_h m s F c)) rfl rfl ?_
        refine am_E.go (t2 := (33, [vR y, vI n, vI b, vI is, vI p], [vI b, vI n, vR (y + 1)], aq_h m s F c)) rfl rfl ?_
        refine am_E.call rfl rfl rfl (Nat.le_of_ble_eq_true rfl) (qm_at (by omega) (by omega)) ?_
        rintro r5 h5 ⟨rfl, v_3, rfl, hv_3⟩
        show am_E _ (36, [vR y, vI n, vI b, vI is, vI p], [vI v_3, vR (y + 1)], aq_h m s F c) _
        refine am_E.go (t2 := (38, [vR y, vI n, vI b, vI is, vI p], [vI p, vI v_3, vR (y + 1)], aq_h m s F c)) rfl rfl ?_
        refine ae_add rfl (am_ri (by omega) (by omega)) ?_
        show am_E _ (39, [vR y, vI n, vI b, vI is, vI p], [vI (v_3 + p), vR (y + 1)], aq_h m s F c) _
        have e_t := hTt n b p (by omega) (by omega) (by omega) (by omega) (by omega) (by omega)
        refine aq_alt (ok := fun k => k == 0) rfl rfl (by omega) hT1 rfl (by omega) (by omega) ?_
        rw [hv_3, e_t]
        show am_E _ (40, [vR y, vI n, vI b, vI is, vI p], [vI (prt n b p)], aq_h m s F c) _
        refine am_E.go (t2 := (41, [vR y, vI n, vI b, vI is, vI p], [vR y, vI (prt n b p)], aq_h m s F c)) rfl rfl ?_
        refine aq_gf (v := vR (y + 12)) rfl (by omega) hFo (by decide) rfl ?_
        show am_E _ (44, [vR y, vI n, vI b, vI is, vI p], [vR (y + 12), vI (prt n b p)], aq_h m s F c) _
        refine am_E.go (t2 := (46, [vR y, vI n, vI b, vI is, vI p], [vI p, vR (y + 12), vI (prt n b p)], aq_h m s F c)) rfl rfl ?_
        refine aq_al (ok := fun k => k == 0) (v := vI (c (y + 12) p)) rfl rfl (by omega) hG12 rfl (by omega) (by omega) rfl ?_
        show am_E _ (47, [vR y, vI n, vI b, vI is, vI p], [vI (c (y + 12) p), vI (prt n b p)], aq_h m s F c) _
        refine ae_icmp rfl (fun (q_4 : (prt n b p) ≠ (c (y + 12) p)) => ?_) (fun (q_4 : (prt n b p) = (c (y + 12) p)) => ?_)
        · refine am_E.go (t2 := (55, [vR y, vI n, vI b, vI is, vI p], [vI 0], aq_h m s F c)) rfl rfl ?_
          refine am_E.go (t2 := (56, [vR y, vI n, vI b, vI 0, vI p], [], aq_h m s F c)) rfl rfl ?_
          refine ae_iinc rfl rfl (am_ri (by omega) (by omega)) ?_
          show am_E _ (59, [vR y, vI n, vI b, vI 0, vI (p + 1)], [], aq_h m s F c) _
          refine am_E.go (t2 := (15, [vR y, vI n, vI b, vI 0, vI (p + 1)], [], aq_h m s F c)) rfl rfl ?_
          exact qm_numberOf_in ⟨hm, hFo, hG5, hG6, hG7, hG8, hG9, hG10, hG11, hG12, hG13, hG14, hG15, hG16, hG17, hG18, hG19, hG20, hG21, hG22, hG23⟩ ⟨hT1, hTt⟩ hn1 hn4 d b 0 (p + 1) (by omega) (by omega) (by omega) (by omega) (Or.inr ⟨rfl, p, h0, by omega, by assumption⟩) (by omega) K0
        · refine am_E.go (t2 := (51, [vR y, vI n, vI b, vI is, vI p], [vI 1], aq_h m s F c)) rfl rfl ?_
          refine am_E.go (t2 := (55, [vR y, vI n, vI b, vI is, vI p], [vI 1], aq_h m s F c)) rfl rfl ?_
          refine am_E.go (t2 := (56, [vR y, vI n, vI b, vI 1, vI p], [], aq_h m s F c)) rfl rfl ?_
          refine ae_iinc rfl rfl (am_ri (by omega) (by omega)) ?_
          show am_E _ (59, [vR y, vI n, vI b, vI 1, vI (p + 1)], [], aq_h m s F c) _
          refine am_E.go (t2 := (15, [vR y, vI n, vI b, vI 1, vI (p + 1)], [], aq_h m s F c)) rfl rfl ?_
          exact qm_numberOf_in ⟨hm, hFo, hG5, hG6, hG7, hG8, hG9, hG10, hG11, hG12, hG13, hG14, hG15, hG16, hG17, hG18, hG19, hG20, hG21, hG22, hG23⟩ ⟨hT1, hTt⟩ hn1 hn4 d b 1 (p + 1) (by omega) (by omega) (by omega) (by omega) (by rcases hi with ⟨_, hi⟩ | ⟨hi, _⟩; exact Or.inl ⟨rfl, fun i h5 h6 => by by_cases e : i = p; (rw [e]; assumption); exact hi i h5 (by omega)⟩; exact absurd hi (by omega)) (by omega) K0

theorem qm_numberOf_out {m s : Nat} {F : aq_F} {c : aq_C} {y : Nat} (hO : mo_0 m F y) {tbl : Int → Int} (hT : mo_T F y tbl) {n : Int} (hn1 : 1 ≤ n) (hn4 : n ≤ 4) : ∀ (d : Nat) (b : Int) (v3 : am_V) (v4 : am_V) (h0 : 0 ≤ b) (h1 : b ≤ bx_K n) (hb : ∀ b2, 0 ≤ b2 → b2 < b → ∃ i, 0 ≤ i ∧ i < 2 * n ∧ prt n b2 i ≠ c (y + 12) i) (hd : bx_K n - b < (d : Int)), am_E ac_X5_numberOf (2, [vR y, vI n, vI b, v3, v4], [], aq_h m s F c) (aq_P m s F c (fun r => ∃ v, r = some (vI v) ∧ ((0 ≤ v ∧ v < bx_K n ∧ ∀ i, 0 ≤ i → i < 2 * n → prt n v i = c (y + 12) i) ∨ (v = -4 ∧ ∀ b, 0 ≤ b → b < bx_K n → ∃ i, 0 ≤ i ∧ i < 2 * n ∧ prt n b i ≠ c (y + 12) i))))
  | 0, b, v3, v4, h0, h1, hb, hd => by exfalso; omega
  | d + 1, b, v3, v4, h0, h1, hb, hd => by
    obtain ⟨hm, hFo, hG5, hG6, hG7, hG8, hG9, hG10, hG11, hG12, hG13, hG14, hG15, hG16, hG17, hG18, hG19, hG20, hG21, hG22, hG23⟩ := hO
    obtain ⟨hT1, hTt⟩ := hT
    have hfs := mo_fs n
    refine am_E.go (t2 := (3, [vR y, vI n, vI b, v3, v4], [vI b], aq_h m s F c)) rfl rfl ?_
    refine am_E.go (t2 := (4, [vR y, vI n, vI b, v3, v4], [vI n, vI b], aq_h m s F c)) rfl rfl ?_
    refine am_E.call rfl rfl rfl (Nat.le_of_ble_eq_true rfl) (qm_boxes) ?_
    rintro r5 h5 ⟨rfl, v_1, rfl, hv_1⟩
    show am_E _ (7, [vR y, vI n, vI b, v3, v4], [vI v_1, vI b], aq_h m s F c) _
    refine ae_icmp rfl (fun (q_2 : v_1 ≤ b) => ?_) (fun (q_2 : b < v_1) => ?_)
    · refine am_E.go (t2 := (76, [vR y, vI n, vI b, v3, v4], [vI (-4)], aq_h m s F c)) rfl rfl ?_
      refine am_E.ret rfl rfl ?_
      exact ⟨rfl, _, rfl, Or.inr ⟨rfl, fun b5 h5 h6 => hb b5 h5 (by omega)⟩⟩
    · refine am_E.go (t2 := (11, [vR y, vI n, vI b, v3, v4], [vI 1], aq_h m s F c)) rfl rfl ?_
      refine am_E.go (t2 := (12, [vR y, vI n, vI b, vI 1, v4], [], aq_h m s F c)) rfl rfl ?_
      refine am_E.go (t2 := (13, [vR y, vI n, vI b, vI 1, v4], [vI 0], aq_h m s F c)) rfl rfl ?_
      refine am_E.go (t2 := (15, [vR y, vI n, vI b, vI 1, vI 0], [], aq_h m s F c)) rfl rfl ?_
      refine qm_numberOf_in ⟨hm, hFo, hG5, hG6, hG7, hG8, hG9, hG10, hG11, hG12, hG13, hG14, hG15, hG16, hG17, hG18, hG19, hG20, hG21, hG22, hG23⟩ ⟨hT1, hTt⟩ hn1 hn4 9 b 1 0 (by omega) (by omega) (by omega) (by omega) (Or.inl ⟨rfl, fun i h5 h6 => absurd h6 (by omega)⟩) (by omega) ?_
      · intro is2_15 p2_15 hx_15
        refine am_E.go (t2 := (63, [vR y, vI n, vI b, vI is2_15, vI p2_15], [vI is2_15], aq_h m s F c)) rfl rfl ?_
        refine ae_if0 rfl (fun (q_4 : is2_15 = 0) => ?_) (fun (q_4 : is2_15 ≠ 0) => ?_)
        · refine ae_iinc rfl rfl (am_ri (by omega) (by omega)) ?_
          show am_E _ (71, [vR y, vI n, vI (b + 1), vI is2_15, vI p2_15], [], aq_h m s F c) _
          refine am_E.go (t2 := (2, [vR y, vI n, vI (b + 1), vI is2_15, vI p2_15], [], aq_h m s F c)) rfl rfl ?_
          exact qm_numberOf_out ⟨hm, hFo, hG5, hG6, hG7, hG8, hG9, hG10, hG11, hG12, hG13, hG14, hG15, hG16, hG17, hG18, hG19, hG20, hG21, hG22, hG23⟩ ⟨hT1, hTt⟩ hn1 hn4 d (b + 1) (vI is2_15) (vI p2_15) (by omega) (by omega) (fun b2 h5 h6 => by by_cases e : b2 = b; (rcases hx_15 with ⟨h7, _⟩ | ⟨_, h7⟩; (exfalso; omega); (rw [e]; exact h7)); exact hb b2 h5 (by omega)) (by omega)
        · refine am_E.go (t2 := (67, [vR y, vI n, vI b, vI is2_15, vI p2_15], [vI b], aq_h m s F c)) rfl rfl ?_
          refine am_E.ret rfl rfl ?_
          refine ⟨rfl, _, rfl, Or.inl ⟨by omega, by omega, ?_⟩⟩
          rcases hx_15 with ⟨_, h5⟩ | ⟨h5, _⟩
          · exact h5
          · exfalso; omega

theorem qm_numberOf {m s : Nat} {F : aq_F} {c : aq_C} {y : Nat} (hO : mo_0 m F y) {tbl : Int → Int} (hT : mo_T F y tbl) {n : Int} (hn1 : 1 ≤ n) (hn4 : n ≤ 4) : am_E ac_X5_numberOf (0, [vR y, vI n, vU, vU, vU], [], aq_h m s F c) (aq_P m s F c (fun r => ∃ v, r = some (vI v) ∧ ((0 ≤ v ∧ v < bx_K n ∧ ∀ i, 0 ≤ i → i < 2 * n → prt n v i = c (y + 12) i) ∨ (v = -4 ∧ ∀ b, 0 ≤ b → b < bx_K n → ∃ i, 0 ≤ i ∧ i < 2 * n ∧ prt n b i ≠ c (y + 12) i)))) := by
  obtain ⟨hm, hFo, hG5, hG6, hG7, hG8, hG9, hG10, hG11, hG12, hG13, hG14, hG15, hG16, hG17, hG18, hG19, hG20, hG21, hG22, hG23⟩ := hO
  obtain ⟨hT1, hTt⟩ := hT
  have hfs := mo_fs n
  refine am_E.go (t2 := (1, [vR y, vI n, vU, vU, vU], [vI 0], aq_h m s F c)) rfl rfl ?_
  refine am_E.go (t2 := (2, [vR y, vI n, vI 0, vU, vU], [], aq_h m s F c)) rfl rfl ?_
  exact qm_numberOf_out ⟨hm, hFo, hG5, hG6, hG7, hG8, hG9, hG10, hG11, hG12, hG13, hG14, hG15, hG16, hG17, hG18, hG19, hG20, hG21, hG22, hG23⟩ ⟨hT1, hTt⟩ hn1 hn4 107 0 (vU) (vU) (by omega) (by omega) (fun b2 h5 h6 => absurd h6 (by omega)) (by omega)

theorem qm_stacked_3 {m s : Nat} {F : aq_F} {c0 : aq_C} {S : Nat → Prop} {y : Nat} (hO : mo_0 m F y) (hS0 : S y) (hS12 : S (y + 12)) (hS13 : S (y + 13)) {tbl : Int → Int} (hT : mo_T F y tbl) {n bb cc : Int} (hn1 : 1 ≤ n) (hn4 : n ≤ 4) (hb0 : 0 ≤ bb) (hb1 : bb < bx_K n) (hc0 : 0 ≤ cc) (hc1 : cc < bx_K n) {xa xb : Int} (hxa : xa = 8 * (mo_f n + bb)) (hxb : xb = 8 * (mo_f n + cc)) : ∀ (d : Nat) (k : Int) (v7 : am_V) (v8 : am_V) (v9 : am_V) (c : aq_C) (hs : aq_sm S c0 c) (h0 : 0 ≤ k) (h1 : k ≤ n) (hr0 : 0 ≤ c y 15) (hr1 : c y 15 ≤ k) (hob : mo_k y c0 c) (hmk : mo_mk y n (prt n bb) (prt n cc) (2 * n) c) (hmd : mo_md y (fst_ n (prt n bb) (prt n cc)) (2 * n) c) (hd : n - k < (d : Int)), am_E ac_X5_stacked (80, [vR y, vI n, vI bb, vI cc, vI xa, vI xb, vI k, v7, v8, v9], [], aq_h m s F c) (aq_Z m s F S c0 (fun r d => ∃ v, r = some (vI v) ∧ 0 ≤ v ∧ v < bx_K n ∧ 0 ≤ d y 15 ∧ d y 15 ≤ n ∧ mo_k y c0 d ∧ ∀ i, 0 ≤ i → i < 2 * n → prt n v i = fst_ n (prt n bb) (prt n cc) i))
  | 0, k, v7, v8, v9, c, hs, h0, h1, hr0, hr1, hob, hmk, hmd, hd => by exfalso; omega
  | d + 1, k, v7, v8, v9, c, hs, h0, h1, hr0, hr1, hob, hmk, hmd, hd => by
    obtain ⟨hm, hFo, hG5, hG6, hG7, hG8, hG9, hG10, hG11, hG12, hG13, hG14, hG15, hG16, hG17, hG18, hG19, hG20, hG21, hG22, hG23⟩ := hO
    obtain ⟨hT1, hTt⟩ := hT
    have hfs := mo_fs n
    have hfi := pr_fi hn1 hn4 hb0 hb1
    have hgi := pr_fi hn1 hn4 hc0 hc1
    refine am_E.go (t2 := (82, [vR y, vI n, vI bb, vI cc, vI xa, vI xb, vI k, v7, v8, v9], [vI k], aq_h m s F c)) rfl rfl ?_
    refine am_E.go (t2 := (83, [vR y, vI n, vI bb, vI cc, vI xa, vI xb, vI k, v7, v8, v9], [vI n, vI k], aq_h m s F c)) rfl rfl ?_
    refine ae_icmp rfl (fun (q_1 : n ≤ k) => ?_) (fun (q_1 : k < n) => ?_)
    · refine am_E.go (t2 := (186, [vR y, vI n, vI bb, vI cc, vI xa, vI xb, vI k, v7, v8, v9], [vR y], aq_h m s F c)) rfl rfl ?_
      refine am_E.go (t2 := (187, [vR y, vI n, vI bb, vI cc, vI xa, vI xb, vI k, v7, v8, v9], [vI n, vR y], aq_h m s F c)) rfl rfl ?_
      refine aq_callv (y := 2) (as2 := [vI n]) (rest := []) rfl rfl (by decide) (Nat.le_of_ble_eq_true rfl) rfl rfl (Nat.le_of_ble_eq_true rfl) (by omega) hFo rfl (Nat.le_of_ble_eq_true rfl) (qm_numberOf ⟨hm, hFo, hG5, hG6, hG7, hG8, hG9, hG10, hG11, hG12, hG13, hG14, hG15, hG16, hG17, hG18, hG19, hG20, hG21, hG22, hG23⟩ ⟨hT1, hTt⟩ hn1 hn4) ?_
      rintro r5 h5 ⟨rfl, v_fin, rfl, hv_fin⟩
      show am_E _ (190, [vR y, vI n, vI bb, vI cc, vI xa, vI xb, vI k, v7, v8, v9], [vI v_fin], aq_h m s F c) _
      refine am_E.ret rfl rfl ?_
      refine ⟨_, rfl, hs, _, rfl, ?_⟩
      rcases hv_fin with ⟨h5, h6, h7⟩ | ⟨_, h7⟩
      · exact ⟨h5, h6, hr0, by omega, hob, fun i h8 h9 => by rw [h7 i h8 h9]; exact hmd i h8 h9⟩
      · exfalso
        obtain ⟨b5, h8, h9, hA⟩ := pr_c hn1 hn4 (fi_st hn4 hfi hgi)
        obtain ⟨i, hB, hC, hD⟩ := h7 b5 h8 h9
        exact hD (by rw [hA i hB hC, hmd i hB hC])
    · refine am_E.go (t2 := (87, [vR y, vI n, vI bb, vI cc, vI xa, vI xb, vI k, v7, v8, v9], [vR y], aq_h m s F c)) rfl rfl ?_
      refine aq_gf (v := vR (y + 13)) rfl (by omega) hFo (by decide) rfl ?_
      show am_E _ (90, [vR y, vI n, vI bb, vI cc, vI xa, vI xb, vI k, v7, v8, v9], [vR (y + 13)], aq_h m s F c) _
      refine am_E.go (t2 := (92, [vR y, vI n, vI bb, vI cc, vI xa, vI xb, vI k, v7, v8, v9], [vI k, vR (y + 13)], aq_h m s F c)) rfl rfl ?_
      refine aq_al (ok := fun k => k == 1) (v := vI (c (y + 13) k)) rfl rfl (by omega) hG13 rfl (by omega) (by omega) rfl ?_
      show am_E _ (93, [vR y, vI n, vI bb, vI cc, vI xa, vI xb, vI k, v7, v8, v9], [vI (c (y + 13) k)], aq_h m s F c) _
      refine ae_if0 rfl (fun (q_2 : (c (y + 13) k) ≠ 0) => ?_) (fun (q_2 : (c (y + 13) k) = 0) => ?_)
      · refine ae_iinc rfl rfl (am_ri (by omega) (by omega)) ?_
        show am_E _ (182, [vR y, vI n, vI bb, vI cc, vI xa, vI xb, vI (k + 1), v7, v8, v9], [], aq_h m s F c) _
        refine am_E.go (t2 := (80, [vR y, vI n, vI bb, vI cc, vI xa, vI xb, vI (k + 1), v7, v8, v9], [], aq_h m s F c)) rfl rfl ?_
        exact qm_stacked_3 ⟨hm, hFo, hG5, hG6, hG7, hG8, hG9, hG10, hG11, hG12, hG13, hG14, hG15, hG16, hG17, hG18, hG19, hG20, hG21, hG22, hG23⟩ hS0 hS12 hS13 ⟨hT1, hTt⟩ hn1 hn4 hb0 hb1 hc0 hc1 hxa hxb d (k + 1) (v7) (v8) (v9) c hs (by omega) (by omega) hr0 (by omega) hob hmk hmd (by omega)
      · have hring := mk_ring hn4 hfi hgi hmk h0 (by omega) (by omega)
        refine am_E.go (t2 := (97, [vR y, vI n, vI bb, vI cc, vI xa, vI xb, vI k, v7, v8, v9], [vR y], aq_h m s F c)) rfl rfl ?_
        refine am_E.go (t2 := (98, [vR y, vI n, vI bb, vI cc, vI xa, vI xb, vI k, v7, v8, v9], [vR y, vR y], aq_h m s F c)) rfl rfl ?_
        refine aq_gf (v := vI (c y 15)) rfl (by omega) hFo (by decide) rfl ?_
        show am_E _ (101, [vR y, vI n, vI bb, vI cc, vI xa, vI xb, vI k, v7, v8, v9], [vI (c y 15), vR y], aq_h m s F c) _
        skip
        refine am_E.go (t2 := (102, [vR y, vI n, vI bb, vI cc, vI xa, vI xb, vI k, v7, v8, v9], [vI 1, vI (c y 15), vR y], aq_h m s F c)) rfl rfl ?_
        refine ae_add rfl (am_ri (by omega) (by omega)) ?_
        show am_E _ (103, [vR y, vI n, vI bb, vI cc, vI xa, vI xb, vI k, v7, v8, v9], [vI ((c y 15) + 1), vR y], aq_h m s F c) _
        refine aq_pf rfl (by omega) hFo (by decide) rfl rfl ?_
        show am_E _ (106, [vR y, vI n, vI bb, vI cc, vI xa, vI xb, vI k, v7, v8, v9], [], aq_h m s F (aq_u c y 15 ((c y 15) + 1))) _
        generalize hdc_4 : aq_u c y 15 ((c y 15) + 1) = c_4
        have sc_4 := aq_smu hs hdc_4 hS0
        have hobc_4 := mo_ku hob hdc_4 (Or.inr (by decide))
        have hmkc_4 := mo_mkn hmk hdc_4 (by omega)
        have hmdc_4 := mo_mdn hmd hdc_4 (by omega)
        have r0c_4 : 0 ≤ c_4 y 15 ∧ c_4 y 15 ≤ k + 1 := by rw [← hdc_4, aq_us]; omega
        refine am_E.go (t2 := (108, [vR y, vI n, vI bb, vI cc, vI xa, vI xb, vI k, v7, v8, v9], [vI k], aq_h m s F c_4)) rfl rfl ?_
        refine am_E.go (t2 := (110, [vR y, vI n, vI bb, vI cc, vI xa, vI xb, vI k, vI k, v8, v9], [], aq_h m s F c_4)) rfl rfl ?_
        refine am_E.go (t2 := (111, [vR y, vI n, vI bb, vI cc, vI xa, vI xb, vI k, vI k, v8, v9], [vI 1], aq_h m s F c_4)) rfl rfl ?_
        refine am_E.go (t2 := (113, [vR y, vI n, vI bb, vI cc, vI xa, vI xb, vI k, vI k, vI 1, v9], [], aq_h m s F c_4)) rfl rfl ?_
        refine am_E.go (t2 := (115, [vR y, vI n, vI bb, vI cc, vI xa, vI xb, vI k, vI k, vI 1, v9], [vI 1], aq_h m s F c_4)) rfl rfl ?_
        refine am_E.go (t2 := (118, [vR y, vI n, vI bb, vI cc, vI xa, vI xb, vI k, vI k, vI 1, v9], [], aq_h m s F c_4)) rfl rfl ?_
        refine am_E.go (t2 := (119, [vR y, vI n, vI bb, vI cc, vI xa, vI xb, vI k, vI k, vI 1, v9], [vR y], aq_h m s F c_4)) rfl rfl ?_
        refine aq_gf (v := vR (y + 13)) rfl (by omega) hFo (by decide) rfl ?_
        show am_E _ (122, [vR y, vI n, vI bb, vI cc, vI xa, vI xb, vI k, vI k, vI 1, v9], [vR (y + 13)], aq_h m s F c_4) _
        refine am_E.go (t2 := (124, [vR y, vI n, vI bb, vI cc, vI xa, vI xb, vI k, vI k, vI 1, v9], [vI k, vR (y + 13)], aq_h m s F c_4)) rfl rfl ?_
        refine am_E.go (t2 := (125, [vR y, vI n, vI bb, vI cc, vI xa, vI xb, vI k, vI k, vI 1, v9], [vI 1, vI k, vR (y + 13)], aq_h m s F c_4)) rfl rfl ?_
        refine aq_as (kd := 1) rfl rfl (by omega) hG13 (by omega) (by omega) rfl rfl ?_
        show am_E _ (126, [vR y, vI n, vI bb, vI cc, vI xa, vI xb, vI k, vI k, vI 1, v9], [], aq_h m s F (aq_u c_4 (y + 13) k 1)) _
        generalize hdc_5 : aq_u c_4 (y + 13) k 1 = c_5
        have sc_5 := aq_smu sc_4 hdc_5 (hS13)
        have hobc_5 := mo_ku hobc_4 hdc_5 (Or.inl (by omega))
        have hmkc_5 := mo_mku hmkc_4 hdc_5
        have hmdc_5 := mo_mdn hmdc_4 hdc_5 (by omega)
        have r0c_5 : 0 ≤ c_5 y 15 ∧ c_5 y 15 ≤ k + 1 := by rw [← hdc_5, aq_un (Or.inl (by omega))]; exact r0c_4
        refine am_E.go (t2 := (127, [vR y, vI n, vI bb, vI cc, vI xa, vI xb, vI k, vI k, vI 1, v9], [vR y], aq_h m s F c_5)) rfl rfl ?_
        refine aq_gf (v := vR (y + 1)) rfl (by omega) hFo (by decide) rfl ?_
        show am_E _ (130, [vR y, vI n, vI bb, vI cc, vI xa, vI xb, vI k, vI k, vI 1, v9], [vR (y + 1)], aq_h m s F c_5) _
        refine am_E.go (t2 := (132, [vR y, vI n, vI bb, vI cc, vI xa, vI xb, vI k, vI k, vI 1, v9], [vI xb, vR (y + 1)], aq_h m s F c_5)) rfl rfl ?_
        refine am_E.go (t2 := (134, [vR y, vI n, vI bb, vI cc, vI xa, vI xb, vI k, vI k, vI 1, v9], [vI k, vI xb, vR (y + 1)], aq_h m s F c_5)) rfl rfl ?_
        refine ae_add rfl (am_ri (by omega) (by omega)) ?_
        show am_E _ (135, [vR y, vI n, vI bb, vI cc, vI xa, vI xb, vI k, vI k, vI 1, v9], [vI (xb + k), vR (y + 1)], aq_h m s F c_5) _
        have e_t := hTt n cc k (by omega) (by omega) (by omega) (by omega) (by omega) (by omega)
        have e_f := hgi k (by omega) (by omega)
        refine aq_alt (ok := fun k => k == 0) rfl rfl (by omega) hT1 rfl (by omega) (by omega) ?_
        rw [hxb, e_t, ← hxb]
        show am_E _ (136, [vR y, vI n, vI bb, vI cc, vI xa, vI xb, vI k, vI k, vI 1, v9], [vI (prt n cc k)], aq_h m s F c_5) _
        refine am_E.go (t2 := (138, [vR y, vI n, vI bb, vI cc, vI xa, vI xb, vI k, vI k, vI 1, vI (prt n cc k)], [], aq_h m s F c_5)) rfl rfl ?_
        refine am_E.go (t2 := (139, [vR y, vI n, vI bb, vI cc, vI xa, vI xb, vI k, vI k, vI 1, vI (prt n cc k)], [vR y], aq_h m s F c_5)) rfl rfl ?_
        refine aq_gf (v := vR (y + 13)) rfl (by omega) hFo (by decide) rfl ?_
        show am_E _ (142, [vR y, vI n, vI bb, vI cc, vI xa, vI xb, vI k, vI k, vI 1, vI (prt n cc k)], [vR (y + 13)], aq_h m s F c_5) _
        refine am_E.go (t2 := (144, [vR y, vI n, vI bb, vI cc, vI xa, vI xb, vI k, vI k, vI 1, vI (prt n cc k)], [vI (prt n cc k), vR (y + 13)], aq_h m s F c_5)) rfl rfl ?_
        refine am_E.go (t2 := (145, [vR y, vI n, vI bb, vI cc, vI xa, vI xb, vI k, vI k, vI 1, vI (prt n cc k)], [vI 1, vI (prt n cc k), vR (y + 13)], aq_h m s F c_5)) rfl rfl ?_
        refine aq_as (kd := 1) rfl rfl (by omega) hG13 (by omega) (by omega) rfl rfl ?_
        show am_E _ (146, [vR y, vI n, vI bb, vI cc, vI xa, vI xb, vI k, vI k, vI 1, vI (prt n cc k)], [], aq_h m s F (aq_u c_5 (y + 13) (prt n cc k) 1)) _
        generalize hdc_6 : aq_u c_5 (y + 13) (prt n cc k) 1 = c_6
        have sc_6 := aq_smu sc_5 hdc_6 (hS13)
        have hobc_6 := mo_ku hobc_5 hdc_6 (Or.inl (by omega))
        have hmkc_6 := mo_mku hmkc_5 hdc_6
        have hmdc_6 := mo_mdn hmdc_5 hdc_6 (by omega)
        have r0c_6 : 0 ≤ c_6 y 15 ∧ c_6 y 15 ≤ k + 1 := by rw [← hdc_6, aq_un (Or.inl (by omega))]; exact r0c_5
        refine am_E.go (t2 := (147, [vR y, vI n, vI bb, vI cc, vI xa, vI xb, vI k, vI k, vI 1, vI (prt n cc k)], [vR y], aq_h m s F c_6)) rfl rfl ?_
        refine aq_gf (v := vR (y + 1)) rfl (by omega) hFo (by decide) rfl ?_
        show am_E _ (150, [vR y, vI n, vI bb, vI cc, vI xa, vI xb, vI k, vI k, vI 1, vI (prt n cc k)], [vR (y + 1)], aq_h m s F c_6) _
        refine am_E.go (t2 := (152, [vR y, vI n, vI bb, vI cc, vI xa, vI xb, vI k, vI k, vI 1, vI (prt n cc k)], [vI xa, vR (y + 1)], aq_h m s F c_6)) rfl rfl ?_
        refine am_E.go (t2 := (153, [vR y, vI n, vI bb, vI cc, vI xa, vI xb, vI k, vI k, vI 1, vI (prt n cc k)], [vI n, vI xa, vR (y + 1)], aq_h m s F c_6)) rfl rfl ?_
        refine ae_add rfl (am_ri (by omega) (by omega)) ?_
        show am_E _ (154, [vR y, vI n, vI bb, vI cc, vI xa, vI xb, vI k, vI k, vI 1, vI (prt n cc k)], [vI (xa + n), vR (y + 1)], aq_h m s F c_6) _
        refine am_E.go (t2 := (156, [vR y, vI n, vI bb, vI cc, vI xa, vI xb, vI k, vI k, vI 1, vI (prt n cc k)], [vI (prt n cc k), vI (xa + n), vR (y + 1)], aq_h m s F c_6)) rfl rfl ?_
        refine ae_add rfl (am_ri (by omega) (by omega)) ?_
        show am_E _ (157, [vR y, vI n, vI bb, vI cc, vI xa, vI xb, vI k, vI k, vI 1, vI (prt n cc k)], [vI ((xa + n) + (prt n cc k)), vR (y + 1)], aq_h m s F c_6) _
        have e_t := hTt n bb (n + (prt n cc k)) (by omega) (by omega) (by omega) (by omega) (by omega) (by omega)
        have e_f := hfi (n + (prt n cc k)) (by omega) (by omega)
        refine aq_alt (ok := fun k => k == 0) rfl rfl (by omega) hT1 rfl (by omega) (by omega) ?_
        rw [Int.add_assoc, hxa, e_t, ← hxa]
        show am_E _ (158, [vR y, vI n, vI bb, vI cc, vI xa, vI xb, vI k, vI k, vI 1, vI (prt n cc k)], [vI (prt n bb (n + (prt n cc k)))], aq_h m s F c_6) _
        refine am_E.go (t2 := (159, [vR y, vI n, vI bb, vI cc, vI xa, vI xb, vI k, vI k, vI 1, vI (prt n cc k)], [vI n, vI (prt n bb (n + (prt n cc k)))], aq_h m s F c_6)) rfl rfl ?_
        refine ae_sub rfl (am_ri (by omega) (by omega)) ?_
        show am_E _ (160, [vR y, vI n, vI bb, vI cc, vI xa, vI xb, vI k, vI k, vI 1, vI (prt n cc k)], [vI ((prt n bb (n + (prt n cc k))) - n)], aq_h m s F c_6) _
        refine am_E.go (t2 := (162, [vR y, vI n, vI bb, vI cc, vI xa, vI xb, vI k, vI ((prt n bb (n + (prt n cc k))) - n), vI 1, vI (prt n cc k)], [], aq_h m s F c_6)) rfl rfl ?_
        refine am_E.go (t2 := (164, [vR y, vI n, vI bb, vI cc, vI xa, vI xb, vI k, vI ((prt n bb (n + (prt n cc k))) - n), vI 1, vI (prt n cc k)], [vI ((prt n bb (n + (prt n cc k))) - n)], aq_h m s F c_6)) rfl rfl ?_
        refine am_E.go (t2 := (166, [vR y, vI n, vI bb, vI cc, vI xa, vI xb, vI k, vI ((prt n bb (n + (prt n cc k))) - n), vI 1, vI (prt n cc k)], [vI k, vI ((prt n bb (n + (prt n cc k))) - n)], aq_h m s F c_6)) rfl rfl ?_
        refine ae_icmp rfl (fun (q_7 : ((prt n bb (n + (prt n cc k))) - n) = k) => ?_) (fun (q_7 : ((prt n bb (n + (prt n cc k))) - n) ≠ k) => ?_)
        · refine am_E.go (t2 := (174, [vR y, vI n, vI bb, vI cc, vI xa, vI xb, vI k, vI ((prt n bb (n + (prt n cc k))) - n), vI 1, vI (prt n cc k)], [vI 0], aq_h m s F c_6)) rfl rfl ?_
          refine am_E.go (t2 := (176, [vR y, vI n, vI bb, vI cc, vI xa, vI xb, vI k, vI ((prt n bb (n + (prt n cc k))) - n), vI 0, vI (prt n cc k)], [], aq_h m s F c_6)) rfl rfl ?_
          refine am_E.go (t2 := (113, [vR y, vI n, vI bb, vI cc, vI xa, vI xb, vI k, vI ((prt n bb (n + (prt n cc k))) - n), vI 0, vI (prt n cc k)], [], aq_h m s F c_6)) rfl rfl ?_
          refine am_E.go (t2 := (115, [vR y, vI n, vI bb, vI cc, vI xa, vI xb, vI k, vI ((prt n bb (n + (prt n cc k))) - n), vI 0, vI (prt n cc k)], [vI 0], aq_h m s F c_6)) rfl rfl ?_
          refine am_E.go (t2 := (179, [vR y, vI n, vI bb, vI cc, vI xa, vI xb, vI k, vI ((prt n bb (n + (prt n cc k))) - n), vI 0, vI (prt n cc k)], [], aq_h m s F c_6)) rfl rfl ?_
          refine ae_iinc rfl rfl (am_ri (by omega) (by omega)) ?_
          show am_E _ (182, [vR y, vI n, vI bb, vI cc, vI xa, vI xb, vI (k + 1), vI ((prt n bb (n + (prt n cc k))) - n), vI 0, vI (prt n cc k)], [], aq_h m s F c_6) _
          refine am_E.go (t2 := (80, [vR y, vI n, vI bb, vI cc, vI xa, vI xb, vI (k + 1), vI ((prt n bb (n + (prt n cc k))) - n), vI 0, vI (prt n cc k)], [], aq_h m s F c_6)) rfl rfl ?_
          exact qm_stacked_3 ⟨hm, hFo, hG5, hG6, hG7, hG8, hG9, hG10, hG11, hG12, hG13, hG14, hG15, hG16, hG17, hG18, hG19, hG20, hG21, hG22, hG23⟩ hS0 hS12 hS13 ⟨hT1, hTt⟩ hn1 hn4 hb0 hb1 hc0 hc1 hxa hxb d (k + 1) (vI ((prt n bb (n + (prt n cc k))) - n)) (vI 0) (vI (prt n cc k)) c_6 sc_6 (by omega) (by omega) r0c_6.1 r0c_6.2 hobc_6 hmkc_6 hmdc_6 (by omega)
        · have rr := hring.2.2.resolve_left (by omega)
          refine am_E.go (t2 := (170, [vR y, vI n, vI bb, vI cc, vI xa, vI xb, vI k, vI ((prt n bb (n + (prt n cc k))) - n), vI 1, vI (prt n cc k)], [vI 1], aq_h m s F c_6)) rfl rfl ?_
          refine am_E.go (t2 := (174, [vR y, vI n, vI bb, vI cc, vI xa, vI xb, vI k, vI ((prt n bb (n + (prt n cc k))) - n), vI 1, vI (prt n cc k)], [vI 1], aq_h m s F c_6)) rfl rfl ?_
          refine am_E.go (t2 := (176, [vR y, vI n, vI bb, vI cc, vI xa, vI xb, vI k, vI ((prt n bb (n + (prt n cc k))) - n), vI 1, vI (prt n cc k)], [], aq_h m s F c_6)) rfl rfl ?_
          refine am_E.go (t2 := (113, [vR y, vI n, vI bb, vI cc, vI xa, vI xb, vI k, vI ((prt n bb (n + (prt n cc k))) - n), vI 1, vI (prt n cc k)], [], aq_h m s F c_6)) rfl rfl ?_
          refine am_E.go (t2 := (115, [vR y, vI n, vI bb, vI cc, vI xa, vI xb, vI k, vI ((prt n bb (n + (prt n cc k))) - n), vI 1, vI (prt n cc k)], [vI 1], aq_h m s F c_6)) rfl rfl ?_
          refine am_E.go (t2 := (118, [vR y, vI n, vI bb, vI cc, vI xa, vI xb, vI k, vI ((prt n bb (n + (prt n cc k))) - n), vI 1, vI (prt n cc k)], [], aq_h m s F c_6)) rfl rfl ?_
          refine am_E.go (t2 := (119, [vR y, vI n, vI bb, vI cc, vI xa, vI xb, vI k, vI ((prt n bb (n + (prt n cc k))) - n), vI 1, vI (prt n cc k)], [vR y], aq_h m s F c_6)) rfl rfl ?_
          refine aq_gf (v := vR (y + 13)) rfl (by omega) hFo (by decide) rfl ?_
          show am_E _ (122, [vR y, vI n, vI bb, vI cc, vI xa, vI xb, vI k, vI ((prt n bb (n + (prt n cc k))) - n), vI 1, vI (prt n cc k)], [vR (y + 13)], aq_h m s F c_6) _
          refine am_E.go (t2 := (124, [vR y, vI n, vI bb, vI cc, vI xa, vI xb, vI k, vI ((prt n bb (n + (prt n cc k))) - n), vI 1, vI (prt n cc k)], [vI ((prt n bb (n + (prt n cc k))) - n), vR (y + 13)], aq_h m s F c_6)) rfl rfl ?_
          refine am_E.go (t2 := (125, [vR y, vI n, vI bb, vI cc, vI xa, vI xb, vI k, vI ((prt n bb (n + (prt n cc k))) - n), vI 1, vI (prt n cc k)], [vI 1, vI ((prt n bb (n + (prt n cc k))) - n), vR (y + 13)], aq_h m s F c_6)) rfl rfl ?_
          refine aq_as (kd := 1) rfl rfl (by omega) hG13 (by omega) (by omega) rfl rfl ?_
          show am_E _ (126, [vR y, vI n, vI bb, vI cc, vI xa, vI xb, vI k, vI ((prt n bb (n + (prt n cc k))) - n), vI 1, vI (prt n cc k)], [], aq_h m s F (aq_u c_6 (y + 13) ((prt n bb (n + (prt n cc k))) - n) 1)) _
          generalize hdc_8 : aq_u c_6 (y + 13) ((prt n bb (n + (prt n cc k))) - n) 1 = c_8
          have sc_8 := aq_smu sc_6 hdc_8 (hS13)
          have hobc_8 := mo_ku hobc_6 hdc_8 (Or.inl (by omega))
          have hmkc_8 := mo_mku hmkc_6 hdc_8
          have hmdc_8 := mo_mdn hmdc_6 hdc_8 (by omega)
          have r0c_8 : 0 ≤ c_8 y 15 ∧ c_8 y 15 ≤ k + 1 := by rw [← hdc_8, aq_un (Or.inl (by omega))]; exact r0c_6
          refine am_E.go (t2 := (127, [vR y, vI n, vI bb, vI cc, vI xa, vI xb, vI k, vI ((prt n bb (n + (prt n cc k))) - n), vI 1, vI (prt n cc k)], [vR y], aq_h m s F c_8)) rfl rfl ?_
          refine aq_gf (v := vR (y + 1)) rfl (by omega) hFo (by decide) rfl ?_
          show am_E _ (130, [vR y, vI n, vI bb, vI cc, vI xa, vI xb, vI k, vI ((prt n bb (n + (prt n cc k))) - n), vI 1, vI (prt n cc k)], [vR (y + 1)], aq_h m s F c_8) _
          refine am_E.go (t2 := (132, [vR y, vI n, vI bb, vI cc, vI xa, vI xb, vI k, vI ((prt n bb (n + (prt n cc k))) - n), vI 1, vI (prt n cc k)], [vI xb, vR (y + 1)], aq_h m s F c_8)) rfl rfl ?_
          refine am_E.go (t2 := (134, [vR y, vI n, vI bb, vI cc, vI xa, vI xb, vI k, vI ((prt n bb (n + (prt n cc k))) - n), vI 1, vI (prt n cc k)], [vI ((prt n bb (n + (prt n cc k))) - n), vI xb, vR (y + 1)], aq_h m s F c_8)) rfl rfl ?_
          refine ae_add rfl (am_ri (by omega) (by omega)) ?_
          show am_E _ (135, [vR y, vI n, vI bb, vI cc, vI xa, vI xb, vI k, vI ((prt n bb (n + (prt n cc k))) - n), vI 1, vI (prt n cc k)], [vI (xb + ((prt n bb (n + (prt n cc k))) - n)), vR (y + 1)], aq_h m s F c_8) _
          have e_t := hTt n cc ((prt n bb (n + (prt n cc k))) - n) (by omega) (by omega) (by omega) (by omega) (by omega) (by omega)
          have e_f := hgi ((prt n bb (n + (prt n cc k))) - n) (by omega) (by omega)
          refine aq_alt (ok := fun k => k == 0) rfl rfl (by omega) hT1 rfl (by omega) (by omega) ?_
          rw [hxb, e_t, ← hxb]
          show am_E _ (136, [vR y, vI n, vI bb, vI cc, vI xa, vI xb, vI k, vI ((prt n bb (n + (prt n cc k))) - n), vI 1, vI (prt n cc k)], [vI (prt n cc ((prt n bb (n + (prt n cc k))) - n))], aq_h m s F c_8) _
          refine am_E.go (t2 := (138, [vR y, vI n, vI bb, vI cc, vI xa, vI xb, vI k, vI ((prt n bb (n + (prt n cc k))) - n), vI 1, vI (prt n cc ((prt n bb (n + (prt n cc k))) - n))], [], aq_h m s F c_8)) rfl rfl ?_
          refine am_E.go (t2 := (139, [vR y, vI n, vI bb, vI cc, vI xa, vI xb, vI k, vI ((prt n bb (n + (prt n cc k))) - n), vI 1, vI (prt n cc ((prt n bb (n + (prt n cc k))) - n))], [vR y], aq_h m s F c_8)) rfl rfl ?_
          refine aq_gf (v := vR (y + 13)) rfl (by omega) hFo (by decide) rfl ?_
          show am_E _ (142, [vR y, vI n, vI bb, vI cc, vI xa, vI xb, vI k, vI ((prt n bb (n + (prt n cc k))) - n), vI 1, vI (prt n cc ((prt n bb (n + (prt n cc k))) - n))], [vR (y + 13)], aq_h m s F c_8) _
          refine am_E.go (t2 := (144, [vR y, vI n, vI bb, vI cc, vI xa, vI xb, vI k, vI ((prt n bb (n + (prt n cc k))) - n), vI 1, vI (prt n cc ((prt n bb (n + (prt n cc k))) - n))], [vI (prt n cc ((prt n bb (n + (prt n cc k))) - n)), vR (y + 13)], aq_h m s F c_8)) rfl rfl ?_
          refine am_E.go (t2 := (145, [vR y, vI n, vI bb, vI cc, vI xa, vI xb, vI k, vI ((prt n bb (n + (prt n cc k))) - n), vI 1, vI (prt n cc ((prt n bb (n + (prt n cc k))) - n))], [vI 1, vI (prt n cc ((prt n bb (n + (prt n cc k))) - n)), vR (y + 13)], aq_h m s F c_8)) rfl rfl ?_
          refine aq_as (kd := 1) rfl rfl (by omega) hG13 (by omega) (by omega) rfl rfl ?_
          show am_E _ (146, [vR y, vI n, vI bb, vI cc, vI xa, vI xb, vI k, vI ((prt n bb (n + (prt n cc k))) - n), vI 1, vI (prt n cc ((prt n bb (n + (prt n cc k))) - n))], [], aq_h m s F (aq_u c_8 (y + 13) (prt n cc ((prt n bb (n + (prt n cc k))) - n)) 1)) _
          generalize hdc_9 : aq_u c_8 (y + 13) (prt n cc ((prt n bb (n + (prt n cc k))) - n)) 1 = c_9
          have sc_9 := aq_smu sc_8 hdc_9 (hS13)
          have hobc_9 := mo_ku hobc_8 hdc_9 (Or.inl (by omega))
          have hmkc_9 := mo_mku hmkc_8 hdc_9
          have hmdc_9 := mo_mdn hmdc_8 hdc_9 (by omega)
          have r0c_9 : 0 ≤ c_9 y 15 ∧ c_9 y 15 ≤ k + 1 := by rw [← hdc_9, aq_un (Or.inl (by omega))]; exact r0c_8
          refine am_E.go (t2 := (147, [vR y, vI n, vI bb, vI cc, vI xa, vI xb, vI k, vI ((prt n bb (n + (prt n cc k))) - n), vI 1, vI (prt n cc ((prt n bb (n + (prt n cc k))) - n))], [vR y], aq_h m s F c_9)) rfl rfl ?_
          refine aq_gf (v := vR (y + 1)) rfl (by omega) hFo (by decide) rfl ?_
          show am_E _ (150, [vR y, vI n, vI bb, vI cc, vI xa, vI xb, vI k, vI ((prt n bb (n + (prt n cc k))) - n), vI 1, vI (prt n cc ((prt n bb (n + (prt n cc k))) - n))], [vR (y + 1)], aq_h m s F c_9) _
          refine am_E.go (t2 := (152, [vR y, vI n, vI bb, vI cc, vI xa, vI xb, vI k, vI ((prt n bb (n + (prt n cc k))) - n), vI 1, vI (prt n cc ((prt n bb (n + (prt n cc k))) - n))], [vI xa, vR (y + 1)], aq_h m s F c_9)) rfl rfl ?_
          refine am_E.go (t2 := (153, [vR y, vI n, vI bb, vI cc, vI xa, vI xb, vI k, vI ((prt n bb (n + (prt n cc k))) - n), vI 1, vI (prt n cc ((prt n bb (n + (prt n cc k))) - n))], [vI n, vI xa, vR (y + 1)], aq_h m s F c_9)) rfl rfl ?_
          refine ae_add rfl (am_ri (by omega) (by omega)) ?_
          show am_E _ (154, [vR y, vI n, vI bb, vI cc, vI xa, vI xb, vI k, vI ((prt n bb (n + (prt n cc k))) - n), vI 1, vI (prt n cc ((prt n bb (n + (prt n cc k))) - n))], [vI (xa + n), vR (y + 1)], aq_h m s F c_9) _
          refine am_E.go (t2 := (156, [vR y, vI n, vI bb, vI cc, vI xa, vI xb, vI k, vI ((prt n bb (n + (prt n cc k))) - n), vI 1, vI (prt n cc ((prt n bb (n + (prt n cc k))) - n))], [vI (prt n cc ((prt n bb (n + (prt n cc k))) - n)), vI (xa + n), vR (y + 1)], aq_h m s F c_9)) rfl rfl ?_
          refine ae_add rfl (am_ri (by omega) (by omega)) ?_
          show am_E _ (157, [vR y, vI n, vI bb, vI cc, vI xa, vI xb, vI k, vI ((prt n bb (n + (prt n cc k))) - n), vI 1, vI (prt n cc ((prt n bb (n + (prt n cc k))) - n))], [vI ((xa + n) + (prt n cc ((prt n bb (n + (prt n cc k))) - n))), vR (y + 1)], aq_h m s F c_9) _
          have e_t := hTt n bb (n + (prt n cc ((prt n bb (n + (prt n cc k))) - n))) (by omega) (by omega) (by omega) (by omega) (by omega) (by omega)
          have e_f := hfi (n + (prt n cc ((prt n bb (n + (prt n cc k))) - n))) (by omega) (by omega)
          refine aq_alt (ok := fun k => k == 0) rfl rfl (by omega) hT1 rfl (by omega) (by omega) ?_
          rw [Int.add_assoc, hxa, e_t, ← hxa]
          show am_E _ (158, [vR y, vI n, vI bb, vI cc, vI xa, vI xb, vI k, vI ((prt n bb (n + (prt n cc k))) - n), vI 1, vI (prt n cc ((prt n bb (n + (prt n cc k))) - n))], [vI (prt n bb (n + (prt n cc ((prt n bb (n + (prt n cc k))) - n))))], aq_h m s F c_9) _
          refine am_E.go (t2 := (159, [vR y, vI n, vI bb, vI cc, vI xa, vI xb, vI k, vI ((prt n bb (n + (prt n cc k))) - n), vI 1, vI (prt n cc ((prt n bb (n + (prt n cc k))) - n))], [vI n, vI (prt n bb (n + (prt n cc ((prt n bb (n + (prt n cc k))) - n))))], aq_h m s F c_9)) rfl rfl ?_
          refine ae_sub rfl (am_ri (by omega) (by omega)) ?_
          show am_E _ (160, [vR y, vI n, vI bb, vI cc, vI xa, vI xb, vI k, vI ((prt n bb (n + (prt n cc k))) - n), vI 1, vI (prt n cc ((prt n bb (n + (prt n cc k))) - n))], [vI ((prt n bb (n + (prt n cc ((prt n bb (n + (prt n cc k))) - n)))) - n)], aq_h m s F c_9) _
          refine am_E.go (t2 := (162, [vR y, vI n, vI bb, vI cc, vI xa, vI xb, vI k, vI ((prt n bb (n + (prt n cc ((prt n bb (n + (prt n cc k))) - n)))) - n), vI 1, vI (prt n cc ((prt n bb (n + (prt n cc k))) - n))], [], aq_h m s F c_9)) rfl rfl ?_
          refine am_E.go (t2 := (164, [vR y, vI n, vI bb, vI cc, vI xa, vI xb, vI k, vI ((prt n bb (n + (prt n cc ((prt n bb (n + (prt n cc k))) - n)))) - n), vI 1, vI (prt n cc ((prt n bb (n + (prt n cc k))) - n))], [vI ((prt n bb (n + (prt n cc ((prt n bb (n + (prt n cc k))) - n)))) - n)], aq_h m s F c_9)) rfl rfl ?_
          refine am_E.go (t2 := (166, [vR y, vI n, vI bb, vI cc, vI xa, vI xb, vI k, vI ((prt n bb (n + (prt n cc ((prt n bb (n + (prt n cc k))) - n)))) - n), vI 1, vI (prt n cc ((prt n bb (n + (prt n cc k))) - n))], [vI k, vI ((prt n bb (n + (prt n cc ((prt n bb (n + (prt n cc k))) - n)))) - n)], aq_h m s F c_9)) rfl rfl ?_
          refine ae_icmp rfl (fun (q_10 : ((prt n bb (n + (prt n cc ((prt n bb (n + (prt n cc k))) - n)))) - n) = k) => ?_) (fun (q_10 : ((prt n bb (n + (prt n cc ((prt n bb (n + (prt n cc k))) - n)))) - n) ≠ k) => ?_)
          · refine am_E.go (t2 := (174, [vR y, vI n, vI bb, vI cc, vI xa, vI xb, vI k, vI ((prt n bb (n + (prt n cc ((prt n bb (n + (prt n cc k))) - n)))) - n), vI 1, vI (prt n cc ((prt n bb (n + (prt n cc k))) - n))], [vI 0], aq_h m s F c_9)) rfl rfl ?_
            refine am_E.go (t2 := (176, [vR y, vI n, vI bb, vI cc, vI xa, vI xb, vI k, vI ((prt n bb (n + (prt n cc ((prt n bb (n + (prt n cc k))) - n)))) - n), vI 0, vI (prt n cc ((prt n bb (n + (prt n cc k))) - n))], [], aq_h m s F c_9)) rfl rfl ?_
            refine am_E.go (t2 := (113, [vR y, vI n, vI bb, vI cc, vI xa, vI xb, vI k, vI ((prt n bb (n + (prt n cc ((prt n bb (n + (prt n cc k))) - n)))) - n), vI 0, vI (prt n cc ((prt n bb (n + (prt n cc k))) - n))], [], aq_h m s F c_9)) rfl rfl ?_
            refine am_E.go (t2 := (115, [vR y, vI n, vI bb, vI cc, vI xa, vI xb, vI k, vI ((prt n bb (n + (prt n cc ((prt n bb (n + (prt n cc k))) - n)))) - n), vI 0, vI (prt n cc ((prt n bb (n + (prt n cc k))) - n))], [vI 0], aq_h m s F c_9)) rfl rfl ?_
            refine am_E.go (t2 := (179, [vR y, vI n, vI bb, vI cc, vI xa, vI xb, vI k, vI ((prt n bb (n + (prt n cc ((prt n bb (n + (prt n cc k))) - n)))) - n), vI 0, vI (prt n cc ((prt n bb (n + (prt n cc k))) - n))], [], aq_h m s F c_9)) rfl rfl ?_
            refine ae_iinc rfl rfl (am_ri (by omega) (by omega)) ?_
            show am_E _ (182, [vR y, vI n, vI bb, vI cc, vI xa, vI xb, vI (k + 1), vI ((prt n bb (n + (prt n cc ((prt n bb (n + (prt n cc k))) - n)))) - n), vI 0, vI (prt n cc ((prt n bb (n + (prt n cc k))) - n))], [], aq_h m s F c_9) _
            refine am_E.go (t2 := (80, [vR y, vI n, vI bb, vI cc, vI xa, vI xb, vI (k + 1), vI ((prt n bb (n + (prt n cc ((prt n bb (n + (prt n cc k))) - n)))) - n), vI 0, vI (prt n cc ((prt n bb (n + (prt n cc k))) - n))], [], aq_h m s F c_9)) rfl rfl ?_
            exact qm_stacked_3 ⟨hm, hFo, hG5, hG6, hG7, hG8, hG9, hG10, hG11, hG12, hG13, hG14, hG15, hG16, hG17, hG18, hG19, hG20, hG21, hG22, hG23⟩ hS0 hS12 hS13 ⟨hT1, hTt⟩ hn1 hn4 hb0 hb1 hc0 hc1 hxa hxb d (k + 1) (vI ((prt n bb (n + (prt n cc ((prt n bb (n + (prt n cc k))) - n)))) - n)) (vI 0) (vI (prt n cc ((prt n bb (n + (prt n cc k))) - n))) c_9 sc_9 (by omega) (by omega) r0c_9.1 r0c_9.2 hobc_9 hmkc_9 hmdc_9 (by omega)
          · exfalso; omega

theorem mo_mkl {y : Nat} {n p : Int} {f g : Int → Int} {c d : aq_C} (h : mo_mk y n f g p c) (hw : ∀ i, c (y + 13) i = 1 → d (y + 13) i = 1) (hp : mkd n f g (d (y + 13)) 5 (decide (p < n)) p) : mo_mk y n f g (p + 1) d := fun q h0 h1 => by
  by_cases e : q = p
  · rw [e]
    exact hp
  · exact mkd_mono hw 5 _ q (h q h0 (by omega))

theorem qm_stacked_2 {m s : Nat} {F : aq_F} {c0 : aq_C} {S : Nat → Prop} {y : Nat} (hO : mo_0 m F y) (hS0 : S y) (hS12 : S (y + 12)) (hS13 : S (y + 13)) {tbl : Int → Int} (hT : mo_T F y tbl) {n bb cc : Int} (hn1 : 1 ≤ n) (hn4 : n ≤ 4) (hb0 : 0 ≤ bb) (hb1 : bb < bx_K n) (hc0 : 0 ≤ cc) (hc1 : cc < bx_K n) {xa xb : Int} (hxa : xa = 8 * (mo_f n + bb)) (hxb : xb = 8 * (mo_f n + cc)) : ∀ (d : Nat) (p : Int) (v7 : am_V) (v8 : am_V) (v9 : am_V) (c : aq_C) (hs : aq_sm S c0 c) (h0 : 0 ≤ p) (h1 : p ≤ 2 * n) (hob : mo_k y c0 c) (hmk : mo_mk y n (prt n bb) (prt n cc) p c) (hmd : mo_md y (fst_ n (prt n bb) (prt n cc)) p c) (hd : 2 * n - p < (d : Int)), am_E ac_X5_stacked (40, [vR y, vI n, vI bb, vI cc, vI xa, vI xb, vI p, v7, v8, v9], [], aq_h m s F c) (aq_Z m s F S c0 (fun r d => ∃ v, r = some (vI v) ∧ 0 ≤ v ∧ v < bx_K n ∧ 0 ≤ d y 15 ∧ d y 15 ≤ n ∧ mo_k y c0 d ∧ ∀ i, 0 ≤ i → i < 2 * n → prt n v i = fst_ n (prt n bb) (prt n cc) i))
  | 0, p, v7, v8, v9, c, hs, h0, h1, hob, hmk, hmd, hd => by exfalso; omega
  | d + 1, p, v7, v8, v9, c, hs, h0, h1, hob, hmk, hmd, hd => by
    obtain ⟨hm, hFo, hG5, hG6, hG7, hG8, hG9, hG10, hG11, hG12, hG13, hG14, hG15, hG16, hG17, hG18, hG19, hG20, hG21, hG22, hG23⟩ := hO
    obtain ⟨hT1, hTt⟩ := hT
    have hfs := mo_fs n
    have hfi := pr_fi hn1 hn4 hb0 hb1
    have hgi := pr_fi hn1 hn4 hc0 hc1
    refine am_E.go (t2 := (42, [vR y, vI n, vI bb, vI cc, vI xa, vI xb, vI p, v7, v8, v9], [vI p], aq_h m s F c)) rfl rfl ?_
    refine am_E.go (t2 := (43, [vR y, vI n, vI bb, vI cc, vI xa, vI xb, vI p, v7, v8, v9], [vI 2, vI p], aq_h m s F c)) rfl rfl ?_
    refine am_E.go (t2 := (44, [vR y, vI n, vI bb, vI cc, vI xa, vI xb, vI p, v7, v8, v9], [vI n, vI 2, vI p], aq_h m s F c)) rfl rfl ?_
    refine ae_mul rfl (am_ri (by omega) (by omega)) ?_
    show am_E _ (45, [vR y, vI n, vI bb, vI cc, vI xa, vI xb, vI p, v7, v8, v9], [vI (2 * n), vI p], aq_h m s F c) _
    refine ae_icmp rfl (fun (q_1 : (2 * n) ≤ p) => ?_) (fun (q_1 : p < (2 * n)) => ?_)
    · have ep : p = 2 * n := by omega
      rw [ep] at hmk hmd
      refine am_E.go (t2 := (73, [vR y, vI n, vI bb, vI cc, vI xa, vI xb, vI p, v7, v8, v9], [vR y], aq_h m s F c)) rfl rfl ?_
      refine am_E.go (t2 := (74, [vR y, vI n, vI bb, vI cc, vI xa, vI xb, vI p, v7, v8, v9], [vI 0, vR y], aq_h m s F c)) rfl rfl ?_
      refine aq_pf rfl (by omega) hFo (by decide) rfl rfl ?_
      show am_E _ (77, [vR y, vI n, vI bb, vI cc, vI xa, vI xb, vI p, v7, v8, v9], [], aq_h m s F (aq_u c y 15 0)) _
      generalize hdc_2 : aq_u c y 15 0 = c_2
      have sc_2 := aq_smu hs hdc_2 hS0
      have hobc_2 := mo_ku hob hdc_2 (Or.inr (by decide))
      have hmkc_2 := mo_mkn hmk hdc_2 (by omega)
      have hmdc_2 := mo_mdn hmd hdc_2 (by omega)
      have r0c_2 : c_2 y 15 = 0 := by rw [← hdc_2, aq_us]
      refine am_E.go (t2 := (78, [vR y, vI n, vI bb, vI cc, vI xa, vI xb, vI p, v7, v8, v9], [vI 0], aq_h m s F c_2)) rfl rfl ?_
      refine am_E.go (t2 := (80, [vR y, vI n, vI bb, vI cc, vI xa, vI xb, vI 0, v7, v8, v9], [], aq_h m s F c_2)) rfl rfl ?_
      exact qm_stacked_3 ⟨hm, hFo, hG5, hG6, hG7, hG8, hG9, hG10, hG11, hG12, hG13, hG14, hG15, hG16, hG17, hG18, hG19, hG20, hG21, hG22, hG23⟩ hS0 hS12 hS13 ⟨hT1, hTt⟩ hn1 hn4 hb0 hb1 hc0 hc1 hxa hxb 5 0 (v7) (v8) (v9) c_2 sc_2 (by omega) (by omega) (by omega) (by omega) hobc_2 hmkc_2 hmdc_2 (by omega)
    · refine am_E.go (t2 := (49, [vR y, vI n, vI bb, vI cc, vI xa, vI xb, vI p, v7, v8, v9], [vR y], aq_h m s F c)) rfl rfl ?_
      refine aq_gf (v := vR (y + 12)) rfl (by omega) hFo (by decide) rfl ?_
      show am_E _ (52, [vR y, vI n, vI bb, vI cc, vI xa, vI xb, vI p, v7, v8, v9], [vR (y + 12)], aq_h m s F c) _
      refine am_E.go (t2 := (54, [vR y, vI n, vI bb, vI cc, vI xa, vI xb, vI p, v7, v8, v9], [vI p, vR (y + 12)], aq_h m s F c)) rfl rfl ?_
      refine am_E.go (t2 := (55, [vR y, vI n, vI bb, vI cc, vI xa, vI xb, vI p, v7, v8, v9], [vR y, vI p, vR (y + 12)], aq_h m s F c)) rfl rfl ?_
      refine am_E.go (t2 := (56, [vR y, vI n, vI bb, vI cc, vI xa, vI xb, vI p, v7, v8, v9], [vI n, vR y, vI p, vR (y + 12)], aq_h m s F c)) rfl rfl ?_
      refine am_E.go (t2 := (58, [vR y, vI n, vI bb, vI cc, vI xa, vI xb, vI p, v7, v8, v9], [vI xa, vI n, vR y, vI p, vR (y + 12)], aq_h m s F c)) rfl rfl ?_
      refine am_E.go (t2 := (60, [vR y, vI n, vI bb, vI cc, vI xa, vI xb, vI p, v7, v8, v9], [vI xb, vI xa, vI n, vR y, vI p, vR (y + 12)], aq_h m s F c)) rfl rfl ?_
      refine am_E.go (t2 := (62, [vR y, vI n, vI bb, vI cc, vI xa, vI xb, vI p, v7, v8, v9], [vI p, vI xb, vI xa, vI n, vR y, vI p, vR (y + 12)], aq_h m s F c)) rfl rfl ?_
      refine aq_callv (y := 5) (as2 := [vI n, vI xa, vI xb, vI p]) (rest := [vI p, vR (y + 12)]) rfl rfl (by decide) (Nat.le_of_ble_eq_true rfl) rfl rfl (Nat.le_of_ble_eq_true rfl) (by omega) hFo rfl (Nat.le_of_ble_eq_true rfl) (qm_lead (S := fun a => a = y + 13) ⟨hm, hFo, hG5, hG6, hG7, hG8, hG9, hG10, hG11, hG12, hG13, hG14, hG15, hG16, hG17, hG18, hG19, hG20, hG21, hG22, hG23⟩ rfl hT1 (n := n) (a := xa) (b := xb) hn1 hn4 (by omega) (by omega) (by omega) (by omega) (fun p5 h5 h6 => by rw [hxa]; exact hTt n bb p5 hn1 hn4 hb0 hb1 h5 h6) (fun p5 h5 h6 => by rw [hxb]; exact hTt n cc p5 hn1 hn4 hc0 hc1 h5 h6) hfi hgi h0 (by omega)) ?_
      rintro r5 h5 ⟨c_l, rfl, s_l, rfl, mo_l, mk_l⟩
      show am_E _ (65, [vR y, vI n, vI bb, vI cc, vI xa, vI xb, vI p, v7, v8, v9], [vI (fst_ n (prt n bb) (prt n cc) p), vI p, vR (y + 12)], aq_h m s F c_l) _
      refine aq_as (kd := 0) rfl rfl (by omega) hG12 (by omega) (by omega) rfl rfl ?_
      show am_E _ (66, [vR y, vI n, vI bb, vI cc, vI xa, vI xb, vI p, v7, v8, v9], [], aq_h m s F (aq_u c_l (y + 12) p (fst_ n (prt n bb) (prt n cc) p))) _
      generalize hdc_3 : aq_u c_l (y + 12) p (fst_ n (prt n bb) (prt n cc) p) = c_3
      have sc_3 := aq_smu (aq_smt hs (aq_smi s_l (fun a h => by rw [h]; exact hS13))) hdc_3 (hS12)
      have hobc_3 := mo_ku (mo_ks hob s_l (by omega)) hdc_3 (Or.inl (by omega))
      have hmkc_3 := mo_mkn (mo_mkl hmk mo_l mk_l) hdc_3 (by omega)
      have hmdc_3 : mo_md y (fst_ n (prt n bb) (prt n cc)) (p + 1) c_3 := aq_fl (mo_mds hmd s_l (by omega)) hdc_3 rfl
      refine ae_iinc rfl rfl (am_ri (by omega) (by omega)) ?_
      show am_E _ (69, [vR y, vI n, vI bb, vI cc, vI xa, vI xb, vI (p + 1), v7, v8, v9], [], aq_h m s F c_3) _
      refine am_E.go (t2 := (40, [vR y, vI n, vI bb, vI cc, vI xa, vI xb, vI (p + 1), v7, v8, v9], [], aq_h m s F c_3)) rfl rfl ?_
      exact qm_stacked_2 ⟨hm, hFo, hG5, hG6, hG7, hG8, hG9, hG10, hG11, hG12, hG13, hG14, hG15, hG16, hG17, hG18, hG19, hG20, hG21, hG22, hG23⟩ hS0 hS12 hS13 ⟨hT1, hTt⟩ hn1 hn4 hb0 hb1 hc0 hc1 hxa hxb d (p + 1) (v7) (v8) (v9) c_3 sc_3 (by omega) (by omega) hobc_3 hmkc_3 hmdc_3 (by omega)

theorem qm_stacked_1 {m s : Nat} {F : aq_F} {c0 : aq_C} {S : Nat → Prop} {y : Nat} (hO : mo_0 m F y) (hS0 : S y) (hS12 : S (y + 12)) (hS13 : S (y + 13)) {tbl : Int → Int} (hT : mo_T F y tbl) {n bb cc : Int} (hn1 : 1 ≤ n) (hn4 : n ≤ 4) (hb0 : 0 ≤ bb) (hb1 : bb < bx_K n) (hc0 : 0 ≤ cc) (hc1 : cc < bx_K n) {xa xb : Int} (hxa : xa = 8 * (mo_f n + bb)) (hxb : xb = 8 * (mo_f n + cc)) : ∀ (d : Nat) (k : Int) (v7 : am_V) (v8 : am_V) (v9 : am_V) (c : aq_C) (hs : aq_sm S c0 c) (h0 : 0 ≤ k) (h1 : k ≤ 4) (hob : mo_k y c0 c) (hd : 4 - k < (d : Int)), am_E ac_X5_stacked (17, [vR y, vI n, vI bb, vI cc, vI xa, vI xb, vI k, v7, v8, v9], [], aq_h m s F c) (aq_Z m s F S c0 (fun r d => ∃ v, r = some (vI v) ∧ 0 ≤ v ∧ v < bx_K n ∧ 0 ≤ d y 15 ∧ d y 15 ≤ n ∧ mo_k y c0 d ∧ ∀ i, 0 ≤ i → i < 2 * n → prt n v i = fst_ n (prt n bb) (prt n cc) i))
  | 0, k, v7, v8, v9, c, hs, h0, h1, hob, hd => by exfalso; omega
  | d + 1, k, v7, v8, v9, c, hs, h0, h1, hob, hd => by
    obtain ⟨hm, hFo, hG5, hG6, hG7, hG8, hG9, hG10, hG11, hG12, hG13, hG14, hG15, hG16, hG17, hG18, hG19, hG20, hG21, hG22, hG23⟩ := hO
    obtain ⟨hT1, hTt⟩ := hT
    have hfs := mo_fs n
    have hfi := pr_fi hn1 hn4 hb0 hb1
    have hgi := pr_fi hn1 hn4 hc0 hc1
    refine am_E.go (t2 := (19, [vR y, vI n, vI bb, vI cc, vI xa, vI xb, vI k, v7, v8, v9], [vI k], aq_h m s F c)) rfl rfl ?_
    refine am_E.go (t2 := (20, [vR y, vI n, vI bb, vI cc, vI xa, vI xb, vI k, v7, v8, v9], [vI 4, vI k], aq_h m s F c)) rfl rfl ?_
    refine ae_icmp rfl (fun (q_1 : 4 ≤ k) => ?_) (fun (q_1 : k < 4) => ?_)
    · refine am_E.go (t2 := (38, [vR y, vI n, vI bb, vI cc, vI xa, vI xb, vI k, v7, v8, v9], [vI 0], aq_h m s F c)) rfl rfl ?_
      refine am_E.go (t2 := (40, [vR y, vI n, vI bb, vI cc, vI xa, vI xb, vI 0, v7, v8, v9], [], aq_h m s F c)) rfl rfl ?_
      exact qm_stacked_2 ⟨hm, hFo, hG5, hG6, hG7, hG8, hG9, hG10, hG11, hG12, hG13, hG14, hG15, hG16, hG17, hG18, hG19, hG20, hG21, hG22, hG23⟩ hS0 hS12 hS13 ⟨hT1, hTt⟩ hn1 hn4 hb0 hb1 hc0 hc1 hxa hxb 9 0 (v7) (v8) (v9) c hs (by omega) (by omega) hob (fun p5 h5 h6 => absurd h6 (by omega)) (fun p5 h5 h6 => absurd h6 (by omega)) (by omega)
    · refine am_E.go (t2 := (24, [vR y, vI n, vI bb, vI cc, vI xa, vI xb, vI k, v7, v8, v9], [vR y], aq_h m s F c)) rfl rfl ?_
      refine aq_gf (v := vR (y + 13)) rfl (by omega) hFo (by decide) rfl ?_
      show am_E _ (27, [vR y, vI n, vI bb, vI cc, vI xa, vI xb, vI k, v7, v8, v9], [vR (y + 13)], aq_h m s F c) _
      refine am_E.go (t2 := (29, [vR y, vI n, vI bb, vI cc, vI xa, vI xb, vI k, v7, v8, v9], [vI k, vR (y + 13)], aq_h m s F c)) rfl rfl ?_
      refine am_E.go (t2 := (30, [vR y, vI n, vI bb, vI cc, vI xa, vI xb, vI k, v7, v8, v9], [vI 0, vI k, vR (y + 13)], aq_h m s F c)) rfl rfl ?_
      refine aq_as (kd := 1) rfl rfl (by omega) hG13 (by omega) (by omega) rfl rfl ?_
      show am_E _ (31, [vR y, vI n, vI bb, vI cc, vI xa, vI xb, vI k, v7, v8, v9], [], aq_h m s F (aq_u c (y + 13) k 0)) _
      generalize hdc_2 : aq_u c (y + 13) k 0 = c_2
      have sc_2 := aq_smu hs hdc_2 (hS13)
      have hobc_2 := mo_ku hob hdc_2 (Or.inl (by omega))
      refine ae_iinc rfl rfl (am_ri (by omega) (by omega)) ?_
      show am_E _ (34, [vR y, vI n, vI bb, vI cc, vI xa, vI xb, vI (k + 1), v7, v8, v9], [], aq_h m s F c_2) _
      refine am_E.go (t2 := (17, [vR y, vI n, vI bb, vI cc, vI xa, vI xb, vI (k + 1), v7, v8, v9], [], aq_h m s F c_2)) rfl rfl ?_
      exact qm_stacked_1 ⟨hm, hFo, hG5, hG6, hG7, hG8, hG9, hG10, hG11, hG12, hG13, hG14, hG15, hG16, hG17, hG18, hG19, hG20, hG21, hG22, hG23⟩ hS0 hS12 hS13 ⟨hT1, hTt⟩ hn1 hn4 hb0 hb1 hc0 hc1 hxa hxb d (k + 1) (v7) (v8) (v9) c_2 sc_2 (by omega) (by omega) hobc_2 (by omega)

theorem qm_stacked {m s : Nat} {F : aq_F} {c : aq_C} {S : Nat → Prop} {y : Nat} (hO : mo_0 m F y) (hS0 : S y) (hS12 : S (y + 12)) (hS13 : S (y + 13)) {tbl : Int → Int} (hT : mo_T F y tbl) {n bb cc : Int} (hn1 : 1 ≤ n) (hn4 : n ≤ 4) (hb0 : 0 ≤ bb) (hb1 : bb < bx_K n) (hc0 : 0 ≤ cc) (hc1 : cc < bx_K n) : am_E ac_X5_stacked (0, [vR y, vI n, vI bb, vI cc, vU, vU, vU, vU, vU, vU], [], aq_h m s F c) (aq_Z m s F S c (fun r d => ∃ v, r = some (vI v) ∧ 0 ≤ v ∧ v < bx_K n ∧ 0 ≤ d y 15 ∧ d y 15 ≤ n ∧ mo_k y c d ∧ ∀ i, 0 ≤ i → i < 2 * n → prt n v i = fst_ n (prt n bb) (prt n cc) i)) := by
  obtain ⟨hm, hFo, hG5, hG6, hG7, hG8, hG9, hG10, hG11, hG12, hG13, hG14, hG15, hG16, hG17, hG18, hG19, hG20, hG21, hG22, hG23⟩ := hO
  obtain ⟨hT1, hTt⟩ := hT
  have hfs := mo_fs n
  have hfi := pr_fi hn1 hn4 hb0 hb1
  have hgi := pr_fi hn1 hn4 hc0 hc1
  refine am_E.go (t2 := (1, [vR y, vI n, vI bb, vI cc, vU, vU, vU, vU, vU, vU], [vI n], aq_h m s F c)) rfl rfl ?_
  refine am_E.go (t2 := (2, [vR y, vI n, vI bb, vI cc, vU, vU, vU, vU, vU, vU], [vI bb, vI n], aq_h m s F c)) rfl rfl ?_
  refine am_E.call rfl rfl rfl (Nat.le_of_ble_eq_true rfl) (qm_at (by omega) (by omega)) ?_
  rintro r5 h5 ⟨rfl, xa, rfl, hxa⟩
  show am_E _ (5, [vR y, vI n, vI bb, vI cc, vU, vU, vU, vU, vU, vU], [vI xa], aq_h m s F c) _
  refine am_E.go (t2 := (7, [vR y, vI n, vI bb, vI cc, vI xa, vU, vU, vU, vU, vU], [], aq_h m s F c)) rfl rfl ?_
  refine am_E.go (t2 := (8, [vR y, vI n, vI bb, vI cc, vI xa, vU, vU, vU, vU, vU], [vI n], aq_h m s F c)) rfl rfl ?_
  refine am_E.go (t2 := (9, [vR y, vI n, vI bb, vI cc, vI xa, vU, vU, vU, vU, vU], [vI cc, vI n], aq_h m s F c)) rfl rfl ?_
  refine am_E.call rfl rfl rfl (Nat.le_of_ble_eq_true rfl) (qm_at (by omega) (by omega)) ?_
  rintro r5 h5 ⟨rfl, xb, rfl, hxb⟩
  show am_E _ (12, [vR y, vI n, vI bb, vI cc, vI xa, vU, vU, vU, vU, vU], [vI xb], aq_h m s F c) _
  refine am_E.go (t2 := (14, [vR y, vI n, vI bb, vI cc, vI xa, vI xb, vU, vU, vU, vU], [], aq_h m s F c)) rfl rfl ?_
  refine am_E.go (t2 := (15, [vR y, vI n, vI bb, vI cc, vI xa, vI xb, vU, vU, vU, vU], [vI 0], aq_h m s F c)) rfl rfl ?_
  refine am_E.go (t2 := (17, [vR y, vI n, vI bb, vI cc, vI xa, vI xb, vI 0, vU, vU, vU], [], aq_h m s F c)) rfl rfl ?_
  exact qm_stacked_1 ⟨hm, hFo, hG5, hG6, hG7, hG8, hG9, hG10, hG11, hG12, hG13, hG14, hG15, hG16, hG17, hG18, hG19, hG20, hG21, hG22, hG23⟩ hS0 hS12 hS13 ⟨hT1, hTt⟩ hn1 hn4 hb0 hb1 hc0 hc1 hxa hxb 6 0 (vU) (vU) (vU) c aq_sm0 (by omega) (by omega) mo_k0 (by omega)
