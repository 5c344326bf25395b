/-! The reference's constructor. Printed by wip/p20/sx/gINI.py. -/

theorem qm_ini_w {s : Nat} {F F0 : aq_F} {c0 : aq_C} {y : Nat} (hO : mo_0 (y + 24) F y) (hF0 : ∀ a, a < y → F a = F0 a) {tbl : Int → Int} (hT : mo_T F y tbl) (hG2 : F (y + 2) = (0, 124, fun _ => .inl 0)) (hG3 : F (y + 3) = (0, 124, fun _ => .inl 0)) (hG4 : F (y + 4) = (0, 124, fun _ => .inl 0)) : ∀ (d : Nat) (n : Int) (v2 : am_V) (c : aq_C) (hs : aq_sm (fun a => y ≤ a) c0 c) (h0 : 1 ≤ n) (h1 : n ≤ 5) (hb : mo_b y c) (hw : ∀ n2 b : Int, 1 ≤ n2 → n2 < n → 0 ≤ b → b < bx_K n2 → -4 ≤ c (y + 4) (mo_f n2 + b) ∧ c (y + 4) (mo_f n2 + b) ≤ 105 ∧ 0 ≤ c (y + 3) (mo_f n2 + b) ∧ c (y + 3) (mo_f n2 + b) < bx_K n2) (hz : n ≤ 4 → ∀ j, mo_f n ≤ j → c (y + 3) j = 0) (hd : 5 - n < (d : Int)), am_E ac_X5_init (255, [vR y, vI n, v2], [], aq_h (y + 24) s F c) (mo_Z y s F0 c0)
  | 0, n, v2, c, hs, h0, h1, hb, hw, hz, hd => by exfalso; omega
  | d + 1, n, v2, c, hs, h0, h1, hb, hw, hz, hd => by
    obtain ⟨hm, hFo, hG5, hG6, hG7, hG8, hG9, hG10, hG11, hG12, hG13, hG14, hG15, hG16, hG17, hG18, hG19, hG20, hG21, hG22, hG23⟩ := hO
    obtain ⟨hT1, hTt⟩ := hT
    refine am_E.go (t2 := (256, [vR y, vI n, v2], [vI n], aq_h (y + 24) s F c)) rfl rfl ?_
    refine am_E.go (t2 := (257, [vR y, vI n, v2], [vI 5, vI n], aq_h (y + 24) s F c)) rfl rfl ?_
    refine ae_icmp rfl (fun (q_1 : 5 ≤ n) => ?_) (fun (q_1 : n < 5) => ?_)
    · refine am_E.ret rfl rfl ?_
      have e5 : n = 5 := by omega
      refine ⟨am_up (am_up (am_up F (y + 2) (0, 124, fun j => .inr (vI (c (y + 2) (j : Int))))) (y + 3) (0, 124, fun j => .inr (vI (c (y + 3) (j : Int))))) (y + 4) (0, 124, fun j => .inr (vI (c (y + 4) (j : Int)))), c, rfl, ?_, ⟨?_, ⟨tbl, ?_, hTt⟩, c (y + 2), c (y + 3), c (y + 4), ?_, ?_, ?_, ?_⟩, ⟨mo_bI hb, hb.1, hb.2.1⟩, fun a ha => ⟨?_, fun i => hs a (by omega) i⟩⟩
      · rw [aq_frz hG2, aq_frz (a := y + 3) (n := 124) (by rw [am_up_n (by omega)]; exact hG3), aq_frz (a := y + 4) (n := 124) (by rw [am_up_n (by omega), am_up_n (by omega)]; exact hG4)]
      · exact mo_0f (mo_0f (mo_0f ⟨hm, hFo, hG5, hG6, hG7, hG8, hG9, hG10, hG11, hG12, hG13, hG14, hG15, hG16, hG17, hG18, hG19, hG20, hG21, hG22, hG23⟩ (by omega) (by omega)) (by omega) (by omega)) (by omega) (by omega)
      · rw [am_up_n (by omega), am_up_n (by omega), am_up_n (by omega)]; exact hT1
      · rw [am_up_n (by omega), am_up_n (by omega), am_up_s]
      · rw [am_up_n (by omega), am_up_s]
      · rw [am_up_s]
      · intro n2 b k0 k1 k2 k3
        have k4 := hw n2 b k0 (by omega) k2 k3
        exact ⟨k4.2.2.1, k4.2.2.2, by omega, by omega⟩
      · rw [am_up_n (by omega), am_up_n (by omega), am_up_n (by omega)]; exact hF0 a ha
    · refine am_E.go (t2 := (261, [vR y, vI n, v2], [vR y], aq_h (y + 24) s F c)) rfl rfl ?_
      refine am_E.go (t2 := (262, [vR y, vI n, v2], [vI n, vR y], aq_h (y + 24) s F c)) rfl rfl ?_
      refine aq_callv (y := 2) (as2 := [vI n]) (rest := []) rfl rfl (by decide) (Nat.le_of_ble_eq_true rfl) rfl rfl (Nat.le_of_ble_eq_true rfl) (by omega) hFo rfl (Nat.le_of_ble_eq_true rfl) (qm_findWords ⟨hm, hFo, hG5, hG6, hG7, hG8, hG9, hG10, hG11, hG12, hG13, hG14, hG15, hG16, hG17, hG18, hG19, hG20, hG21, hG22, hG23⟩ ⟨hT1, hTt⟩ hG2 hG3 hG4 h0 (by omega) (fun b h5 h6 => by rw [hz (by omega) _ (by omega)]; omega)) ?_
      rintro r5 h5 ⟨c_w, rfl, s_w, rfl, k_w, w1, w2⟩
      show am_E _ (265, [vR y, vI n, v2], [], aq_h (y + 24) s F c_w) _
      refine ae_iinc rfl rfl (am_ri (by omega) (by omega)) ?_
      show am_E _ (268, [vR y, vI (n + 1), v2], [], aq_h (y + 24) s F c_w) _
      refine am_E.go (t2 := (255, [vR y, vI (n + 1), v2], [], aq_h (y + 24) s F c_w)) rfl rfl ?_
      exact qm_ini_w ⟨hm, hFo, hG5, hG6, hG7, hG8, hG9, hG10, hG11, hG12, hG13, hG14, hG15, hG16, hG17, hG18, hG19, hG20, hG21, hG22, hG23⟩ hF0 ⟨hT1, hTt⟩ hG2 hG3 hG4 d (n + 1) (v2) c_w (aq_smt hs (aq_smi s_w (fun a h => by omega))) (by omega) (by omega) (mo_bs hb s_w k_w (by omega) (by omega)) (fun n2 b k0 k1 k2 k3 => by by_cases e : n2 = n; (subst e; exact w1 b k2 k3); have k5 := mo_fm k0 (show n2 < n by omega) (by omega); rw [(w2 _ (by omega)).1, (w2 _ (by omega)).2]; exact hw n2 b k0 (by omega) k2 k3) (fun k9 j k0 => by have k5 := mo_fm h0 (show n < n + 1 by omega) k9; rw [(w2 j (by omega)).1]; exact hz (by omega) j (by have := mo_fs n; omega)) (by omega)

theorem qm_ini_b {s : Nat} {F F0 : aq_F} {c0 : aq_C} {y : Nat} (hO : mo_0 (y + 24) F y) (hF0 : ∀ a, a < y → F a = F0 a) (hG1 : F (y + 1) = (0, 992, fun _ => .inl 0)) (hG2 : F (y + 2) = (0, 124, fun _ => .inl 0)) (hG3 : F (y + 3) = (0, 124, fun _ => .inl 0)) (hG4 : F (y + 4) = (0, 124, fun _ => .inl 0)) : ∀ (d : Nat) (n : Int) (b : Int) (c : aq_C) (hs : aq_sm (fun a => y ≤ a) c0 c) (h0 : 1 ≤ n) (h1 : n ≤ 4) (h2 : 0 ≤ b) (h4 : b ≤ bx_K n) (hb : mo_b y c) (h3 : ∀ j, c (y + 3) j = 0) (hdd : ∀ n2 b2 p : Int, 1 ≤ n2 → n2 ≤ 4 → 0 ≤ b2 → b2 < bx_K n2 → 0 ≤ p → p < 2 * n2 → (n2 < n ∨ (n2 = n ∧ b2 < b)) → c (y + 1) (8 * (mo_f n2 + b2) + p) = prt n2 b2 p) (hd : bx_K n - b < (d : Int)) (K0 : ∀ (b2 : Int) (c2 : aq_C) (hs2 : aq_sm (fun a => y ≤ a) c0 c2) (hb2 : mo_b y c2) (h32 : ∀ j, c2 (y + 3) j = 0) (hd2 : ∀ n2 b5 p : Int, 1 ≤ n2 → n2 ≤ 4 → 0 ≤ b5 → b5 < bx_K n2 → 0 ≤ p → p < 2 * n2 → (n2 < n ∨ n2 = n) → c2 (y + 1) (8 * (mo_f n2 + b5) + p) = prt n2 b5 p), am_E ac_X5_init (247, [vR y, vI n, vI b2], [], aq_h (y + 24) s F c2) (mo_Z y s F0 c0)), am_E ac_X5_init (227, [vR y, vI n, vI b], [], aq_h (y + 24) s F c) (mo_Z y s F0 c0)
  | 0, n, b, c, hs, h0, h1, h2, h4, hb, h3, hdd, hd, K0 => by exfalso; omega
  | d + 1, n, b, c, hs, h0, h1, h2, h4, hb, h3, hdd, hd, K0 => by
    obtain ⟨hm, hFo, hG5, hG6, hG7, hG8, hG9, hG10, hG11, hG12, hG13, hG14, hG15, hG16, hG17, hG18, hG19, hG20, hG21, hG22, hG23⟩ := hO
    have hfs := mo_fs n
    refine am_E.go (t2 := (228, [vR y, vI n, vI b], [vI b], aq_h (y + 24) s F c)) rfl rfl ?_
    refine am_E.go (t2 := (229, [vR y, vI n, vI b], [vI n, vI b], aq_h (y + 24) s F c)) rfl rfl ?_
    refine am_E.call rfl rfl rfl (Nat.le_of_ble_eq_true rfl) (qm_boxes) ?_
    rintro r5 h5 ⟨rfl, v_bx, rfl, hv_bx⟩
    show am_E _ (232, [vR y, vI n, vI b], [vI v_bx, vI b], aq_h (y + 24) s F c) _
    refine ae_icmp rfl (fun (q_1 : v_bx ≤ b) => ?_) (fun (q_1 : b < v_bx) => ?_)
    · exact K0 b c hs hb h3 (fun n2 b5 p k0 k1 k2 k3 k4 k5 k6 => hdd n2 b5 p k0 k1 k2 k3 k4 k5 (by rcases k6 with k6 | k6; exact Or.inl k6; exact Or.inr ⟨k6, by rw [k6] at k3; omega⟩))
    · refine am_E.go (t2 := (236, [vR y, vI n, vI b], [vR y], aq_h (y + 24) s F c)) rfl rfl ?_
      refine am_E.go (t2 := (237, [vR y, vI n, vI b], [vI n, vR y], aq_h (y + 24) s F c)) rfl rfl ?_
      refine am_E.go (t2 := (238, [vR y, vI n, vI b], [vI b, vI n, vR y], aq_h (y + 24) s F c)) rfl rfl ?_
      refine aq_callv (y := 3) (as2 := [vI n, vI b]) (rest := []) rfl rfl (by decide) (Nat.le_of_ble_eq_true rfl) rfl rfl (Nat.le_of_ble_eq_true rfl) (by omega) hFo rfl (Nat.le_of_ble_eq_true rfl) (qm_decode ⟨hm, hFo, hG5, hG6, hG7, hG8, hG9, hG10, hG11, hG12, hG13, hG14, hG15, hG16, hG17, hG18, hG19, hG20, hG21, hG22, hG23⟩ hG1 h0 h1 h2 (by omega)) ?_
      rintro r5 h5 ⟨c_d, rfl, s_d, rfl, w1, w2⟩
      show am_E _ (241, [vR y, vI n, vI b], [], aq_h (y + 24) s F c_d) _
      refine ae_iinc rfl rfl (am_ri (by omega) (by omega)) ?_
      show am_E _ (244, [vR y, vI n, vI (b + 1)], [], aq_h (y + 24) s F c_d) _
      refine am_E.go (t2 := (227, [vR y, vI n, vI (b + 1)], [], aq_h (y + 24) s F c_d)) rfl rfl ?_
      exact qm_ini_b ⟨hm, hFo, hG5, hG6, hG7, hG8, hG9, hG10, hG11, hG12, hG13, hG14, hG15, hG16, hG17, hG18, hG19, hG20, hG21, hG22, hG23⟩ hF0 hG1 hG2 hG3 hG4 d n (b + 1) c_d (aq_smt hs (aq_smi s_d (fun a h => by omega))) (by omega) (by omega) (by omega) (by omega) (mo_bs hb s_d (mo_ks mo_k0 s_d (by omega)) (by omega) (by omega)) (fun j => by rw [s_d _ (by omega)]; exact h3 j) (fun n2 b2 p k0 k1 k2 k3 k4 k5 k6 => by
      by_cases e : n2 = n ∧ b2 = b
      · rw [e.1, e.2]
        rw [e.1] at k5
        exact w1 p k4 k5
      · have q1 : n2 < n → mo_f n2 + bx_K n2 ≤ mo_f n := fun q => mo_fm k0 q h1
        have q2 : n2 = n → mo_f n2 = mo_f n := fun q => by rw [q]
        rw [w2 _ (by omega)]
        exact hdd n2 b2 p k0 k1 k2 k3 k4 k5 (by omega)) (by omega) K0

theorem qm_ini_n {s : Nat} {F F0 : aq_F} {c0 : aq_C} {y : Nat} (hO : mo_0 (y + 24) F y) (hF0 : ∀ a, a < y → F a = F0 a) (hG1 : F (y + 1) = (0, 992, fun _ => .inl 0)) (hG2 : F (y + 2) = (0, 124, fun _ => .inl 0)) (hG3 : F (y + 3) = (0, 124, fun _ => .inl 0)) (hG4 : F (y + 4) = (0, 124, fun _ => .inl 0)) : ∀ (d : Nat) (n : Int) (v2 : am_V) (c : aq_C) (hs : aq_sm (fun a => y ≤ a) c0 c) (h0 : 1 ≤ n) (h1 : n ≤ 5) (hb : mo_b y c) (h3 : ∀ j, c (y + 3) j = 0) (hdd : ∀ n2 b2 p : Int, 1 ≤ n2 → n2 ≤ 4 → 0 ≤ b2 → b2 < bx_K n2 → 0 ≤ p → p < 2 * n2 → n2 < n → c (y + 1) (8 * (mo_f n2 + b2) + p) = prt n2 b2 p) (hd : 5 - n < (d : Int)), am_E ac_X5_init (220, [vR y, vI n, v2], [], aq_h (y + 24) s F c) (mo_Z y s F0 c0)
  | 0, n, v2, c, hs, h0, h1, hb, h3, hdd, hd => by exfalso; omega
  | d + 1, n, v2, c, hs, h0, h1, hb, h3, hdd, hd => by
    obtain ⟨hm, hFo, hG5, hG6, hG7, hG8, hG9, hG10, hG11, hG12, hG13, hG14, hG15, hG16, hG17, hG18, hG19, hG20, hG21, hG22, hG23⟩ := hO
    have hfs := mo_fs n
    refine am_E.go (t2 := (221, [vR y, vI n, v2], [vI n], aq_h (y + 24) s F c)) rfl rfl ?_
    refine am_E.go (t2 := (222, [vR y, vI n, v2], [vI 5, vI n], aq_h (y + 24) s F c)) rfl rfl ?_
    refine ae_icmp rfl (fun (q_1 : 5 ≤ n) => ?_) (fun (q_1 : n < 5) => ?_)
    · refine am_E.go (t2 := (254, [vR y, vI n, v2], [vI 1], aq_h (y + 24) s F c)) rfl rfl ?_
      refine am_E.go (t2 := (255, [vR y, vI 1, v2], [], aq_h (y + 24) s F c)) rfl rfl ?_
      have en : n = 5 := by omega
      rw [aq_frz hG1]
      exact qm_ini_w (mo_0f ⟨hm, hFo, hG5, hG6, hG7, hG8, hG9, hG10, hG11, hG12, hG13, hG14, hG15, hG16, hG17, hG18, hG19, hG20, hG21, hG22, hG23⟩ (by omega) (by omega)) (fun a ha => by rw [am_up_n (by omega)]; exact hF0 a ha) (tbl := c (y + 1)) ⟨am_up_s, fun n2 b2 p k0 k1 k2 k3 k4 k5 => hdd n2 b2 p k0 k1 k2 k3 k4 k5 (by omega)⟩ (by rw [am_up_n (by omega)]; exact hG2) (by rw [am_up_n (by omega)]; exact hG3) (by rw [am_up_n (by omega)]; exact hG4) 6 1 _ c hs (by omega) (by omega) hb (fun n2 b k0 k1 => absurd k1 (by omega)) (fun _ j _ => h3 j) (by omega)
    · refine am_E.go (t2 := (226, [vR y, vI n, v2], [vI 0], aq_h (y + 24) s F c)) rfl rfl ?_
      refine am_E.go (t2 := (227, [vR y, vI n, vI 0], [], aq_h (y + 24) s F c)) rfl rfl ?_
      refine qm_ini_b ⟨hm, hFo, hG5, hG6, hG7, hG8, hG9, hG10, hG11, hG12, hG13, hG14, hG15, hG16, hG17, hG18, hG19, hG20, hG21, hG22, hG23⟩ hF0 hG1 hG2 hG3 hG4 107 n 0 c hs (by omega) (by omega) (by omega) (by have := mo_fs n; omega) hb h3 (fun n2 b2 p k0 k1 k2 k3 k4 k5 k6 => hdd n2 b2 p k0 k1 k2 k3 k4 k5 (by omega)) (by omega) ?_
      · intro b2_227 c_2 sc_2 hb2_227 h32_227 hd2_227
        refine ae_iinc rfl rfl (am_ri (by omega) (by omega)) ?_
        show am_E _ (250, [vR y, vI (n + 1), vI b2_227], [], aq_h (y + 24) s F c_2) _
        refine am_E.go (t2 := (220, [vR y, vI (n + 1), vI b2_227], [], aq_h (y + 24) s F c_2)) rfl rfl ?_
        exact qm_ini_n ⟨hm, hFo, hG5, hG6, hG7, hG8, hG9, hG10, hG11, hG12, hG13, hG14, hG15, hG16, hG17, hG18, hG19, hG20, hG21, hG22, hG23⟩ hF0 hG1 hG2 hG3 hG4 d (n + 1) (vI b2_227) c_2 sc_2 (by omega) (by omega) hb2_227 h32_227 (fun n2 b2 p k0 k1 k2 k3 k4 k5 k6 => hd2_227 n2 b2 p k0 k1 k2 k3 k4 k5 (by omega)) (by omega)

theorem qm_ini_s {s : Nat} {F F0 : aq_F} {c0 : aq_C} {y : Nat} (hO : mo_0 (y + 24) F y) (hF0 : ∀ a, a < y → F a = F0 a) (hG1 : F (y + 1) = (0, 992, fun _ => .inl 0)) (hG2 : F (y + 2) = (0, 124, fun _ => .inl 0)) (hG3 : F (y + 3) = (0, 124, fun _ => .inl 0)) (hG4 : F (y + 4) = (0, 124, fun _ => .inl 0)) : ∀ (d : Nat) (k : Int) (v2 : am_V) (c : aq_C) (hs : aq_sm (fun a => y ≤ a) c0 c) (h0 : 0 ≤ k) (h1 : k ≤ 8) (h9 : c y 9 = 2 ∧ c y 10 = 0) (h5 : ∀ s, 0 ≤ s → s < k → c (y + 5) s = 2) (h6 : ∀ s, c (y + 6) s = 0) (h3 : ∀ j, c (y + 3) j = 0) (hd : 8 - k < (d : Int)), am_E ac_X5_init (199, [vR y, vI k, v2], [], aq_h (y + 24) s F c) (mo_Z y s F0 c0)
  | 0, k, v2, c, hs, h0, h1, h9, h5, h6, h3, hd => by exfalso; omega
  | d + 1, k, v2, c, hs, h0, h1, h9, h5, h6, h3, hd => by
    obtain ⟨hm, hFo, hG5, hG6, hG7, hG8, hG9, hG10, hG11, hG12, hG13, hG14, hG15, hG16, hG17, hG18, hG19, hG20, hG21, hG22, hG23⟩ := hO
    refine am_E.go (t2 := (200, [vR y, vI k, v2], [vI k], aq_h (y + 24) s F c)) rfl rfl ?_
    refine am_E.go (t2 := (202, [vR y, vI k, v2], [vI 8, vI k], aq_h (y + 24) s F c)) rfl rfl ?_
    refine ae_icmp rfl (fun (q_1 : 8 ≤ k) => ?_) (fun (q_1 : k < 8) => ?_)
    · refine am_E.go (t2 := (219, [vR y, vI k, v2], [vI 1], aq_h (y + 24) s F c)) rfl rfl ?_
      refine am_E.go (t2 := (220, [vR y, vI 1, v2], [], aq_h (y + 24) s F c)) rfl rfl ?_
      exact qm_ini_n ⟨hm, hFo, hG5, hG6, hG7, hG8, hG9, hG10, hG11, hG12, hG13, hG14, hG15, hG16, hG17, hG18, hG19, hG20, hG21, hG22, hG23⟩ hF0 hG1 hG2 hG3 hG4 6 1 (v2) c hs (by omega) (by omega) ⟨h9.1, h9.2, fun s5 k0 k1 => h5 s5 k0 (by omega), h6⟩ h3 (fun n2 b2 p k0 k1 k2 k3 k4 k5 k6 => absurd k6 (by omega)) (by omega)
    · refine am_E.go (t2 := (206, [vR y, vI k, v2], [vR y], aq_h (y + 24) s F c)) rfl rfl ?_
      refine aq_gf (v := vR (y + 5)) rfl (by omega) hFo (by decide) rfl ?_
      show am_E _ (209, [vR y, vI k, v2], [vR (y + 5)], aq_h (y + 24) s F c) _
      refine am_E.go (t2 := (210, [vR y, vI k, v2], [vI k, vR (y + 5)], aq_h (y + 24) s F c)) rfl rfl ?_
      refine am_E.go (t2 := (211, [vR y, vI k, v2], [vI 2, vI k, vR (y + 5)], aq_h (y + 24) s F c)) rfl rfl ?_
      refine aq_as (kd := 0) rfl rfl (by omega) hG5 (by omega) (by omega) rfl rfl ?_
      show am_E _ (212, [vR y, vI k, v2], [], aq_h (y + 24) s F (aq_u c (y + 5) k 2)) _
      generalize hdc_2 : aq_u c (y + 5) k 2 = c_2
      have sc_2 := aq_smu hs hdc_2 (by omega)
      refine ae_iinc rfl rfl (am_ri (by omega) (by omega)) ?_
      show am_E _ (215, [vR y, vI (k + 1), v2], [], aq_h (y + 24) s F c_2) _
      refine am_E.go (t2 := (199, [vR y, vI (k + 1), v2], [], aq_h (y + 24) s F c_2)) rfl rfl ?_
      exact qm_ini_s ⟨hm, hFo, hG5, hG6, hG7, hG8, hG9, hG10, hG11, hG12, hG13, hG14, hG15, hG16, hG17, hG18, hG19, hG20, hG21, hG22, hG23⟩ hF0 hG1 hG2 hG3 hG4 d (k + 1) (v2) c_2 sc_2 (by omega) (by omega) (by rw [← hdc_2, aq_un (Or.inl (by omega)), aq_un (Or.inl (by omega))]; exact h9) (aq_fl (g := fun _ => 2) h5 hdc_2 rfl) (fun s5 => by rw [← hdc_2, aq_un (Or.inl (by omega))]; exact h6 s5) (fun j => by rw [← hdc_2, aq_un (Or.inl (by omega))]; exact h3 j) (by omega)
