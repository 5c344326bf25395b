
theorem qm_ini_w {s : Nat} {F F0 : aq_F} {c0 : aq_C} {y : Nat} (hO : mo_0 (y + 24) F y) (hF0 : ∀ a, a < y → F a = F0 a) {tbl : Int → Int} (hT : mo_T F y tbl) (hG2 : F (y + 2) = (0, 124, fun _ => .inl 0)) (hG3 : F (y + 3) = (0, 124, fun _ => .inl 0)) (hG4 : F (y + 4) = (0, 124, fun _ => .inl 0)) : ∀ (d : Nat) (n : Int) (v2 : am_V) (c : aq_C) (hs : aq_sm (fun a => y ≤ a) c0 c) (h0 : 1 ≤ n) (h1 : n ≤ 5) (hb : mo_b y c) (hw : ∀ n2 b : Int, 1 ≤ n2 → n2 < n → 0 ≤ b → b < bx_K n2 → (c (y + 4) (mo_f n2 + b) = ln_ n2 b ∧ (0 < ix_ n2 b → c (y + 3) (mo_f n2 + b) = pa_ n2 b ∧ c (y + 2) (mo_f n2 + b) = ll_ n2 b)) ∧ 0 ≤ c (y + 3) (mo_f n2 + b) ∧ c (y + 3) (mo_f n2 + b) < bx_K n2) (hz : n ≤ 4 → ∀ j, mo_f n ≤ j → c (y + 3) j = 0) (hd : 5 - n < (d : Int)), am_E ac_X5_init (255, [vR y, vI n, v2], [], aq_h (y + 24) s F c) (mo_Z y s F0 c0)
  | 0, n, v2, c, hs, h0, h1, hb, hw, hz, hd => by exfalso; omega
  | d + 1, n, v2, c, hs, h0, h1, hb, hw, hz, hd => by
    obtain ⟨hm, hFo, hG5, hG6, hG7, hG8, hG9, hG10, hG11, hG12, hG13, hG14, hG15, hG16, hG17, hG18, hG19, hG20, hG21, hG22, hG23⟩ := hO
    obtain ⟨hT1, hTt⟩ := hT
    refine am_E.go (t2 := (256, [vR y, vI n, v2], [vI n], aq_h (y + 24) s F c)) rfl rfl ?_
    refine am_E.go (t2 := (257, [vR y, vI n, v2], [vI 5, vI n], aq_h (y + 24) s F c)) rfl rfl ?_
    refine ae_icmp rfl (fun (q_1 : 5 ≤ n) => ?_) (fun (q_1 : n < 5) => ?_)
    · refine am_E.ret rfl rfl ?_
      have e5 : n = 5 := by omega
      refine ⟨am_up (am_up (am_up F (y + 2) (0, 124, fun j => .inr (vI (c (y + 2) (j : Int))))) (y + 3) (0, 124, fun j => .inr (vI (c (y + 3) (j : Int))))) (y + 4) (0, 124, fun j => .inr (vI (c (y + 4) (j : Int)))), c, rfl, ?_, ⟨?_, ⟨tbl, ?_, hTt⟩, c (y + 2), c (y + 3), c (y + 4), ?_, ?_, ?_, ?_⟩, ⟨mo_bI hb, hb.1, hb.2.1⟩, fun a ha => ⟨?_, fun i => hs a (by omega) i⟩⟩
      · rw [aq_frz hG2, aq_frz (a := y + 3) (n := 124) (by rw [am_up_n (by omega)]; exact hG3), aq_frz (a := y + 4) (n := 124) (by rw [am_up_n (by omega), am_up_n (by omega)]; exact hG4)]
      · exact mo_0f (mo_0f (mo_0f ⟨hm, hFo, hG5, hG6, hG7, hG8, hG9, hG10, hG11, hG12, hG13, hG14, hG15, hG16, hG17, hG18, hG19, hG20, hG21, hG22, hG23⟩ (by omega) (by omega)) (by omega) (by omega)) (by omega) (by omega)
      · rw [am_up_n (by omega), am_up_n (by omega), am_up_n (by omega)]; exact hT1
      · rw [am_up_n (by omega), am_up_n (by omega), am_up_s]
      · rw [am_up_n (by omega), am_up_s]
      · rw [am_up_s]
      · intro n2 b k0 k1 k2 k3
        have k4 := hw n2 b k0 (by omega) k2 k3
        have k5 := (tb_A_a (n := n2) (x := b) k0 k1 k2 (by omega)).1
        exact ⟨k4.2.1, k4.2.2, by omega, by omega, k4.1⟩
      · rw [am_up_n (by omega), am_up_n (by omega), am_up_n (by omega)]; exact hF0 a ha
    · refine am_E.go (t2 := (261, [vR y, vI n, v2], [vR y], aq_h (y + 24) s F c)) rfl rfl ?_
      refine am_E.go (t2 := (262, [vR y, vI n, v2], [vI n, vR y], aq_h (y + 24) s F c)) rfl rfl ?_
      refine aq_callv (y := 2) (as2 := [vI n]) (rest := []) rfl rfl (by decide) (Nat.le_of_ble_eq_true rfl) rfl rfl (Nat.le_of_ble_eq_true rfl) (by omega) hFo rfl (Nat.le_of_ble_eq_true rfl) (qz_findWords ⟨hm, hFo, hG5, hG6, hG7, hG8, hG9, hG10, hG11, hG12, hG13, hG14, hG15, hG16, hG17, hG18, hG19, hG20, hG21, hG22, hG23⟩ ⟨hT1, hTt⟩ hG2 hG3 hG4 h0 (by omega) (fun b h5 h6 => by rw [hz (by omega) _ (by omega)]; omega)) ?_
      rintro r5 h5 ⟨c_w, rfl, s_w, rfl, k_w, w_⟩
      show am_E _ (265, [vR y, vI n, v2], [], aq_h (y + 24) s F c_w) _
      refine ae_iinc rfl rfl (am_ri (by omega) (by omega)) ?_
      show am_E _ (268, [vR y, vI (n + 1), v2], [], aq_h (y + 24) s F c_w) _
      refine am_E.go (t2 := (255, [vR y, vI (n + 1), v2], [], aq_h (y + 24) s F c_w)) rfl rfl ?_
      exact qm_ini_w ⟨hm, hFo, hG5, hG6, hG7, hG8, hG9, hG10, hG11, hG12, hG13, hG14, hG15, hG16, hG17, hG18, hG19, hG20, hG21, hG22, hG23⟩ hF0 ⟨hT1, hTt⟩ hG2 hG3 hG4 d (n + 1) (v2) c_w (aq_smt hs (aq_smi s_w (fun a h => by omega))) (by omega) (by omega) (mo_bs hb s_w k_w (by omega) (by omega)) (fun n2 b k0 k1 k2 k3 => by by_cases e : n2 = n; (subst e; exact ⟨(w_.2.1 b k2 k3).1 (tb_A_a (n := n2) (x := b) k0 (by omega) k2 (by omega)).2.1.2.1, w_.2.2.1 b k2 k3⟩); have k5 := mo_fm k0 (show n2 < n by omega) (by omega); have k6 := w_.2.2.2 (mo_f n2 + b) (by omega); rw [k6.1, k6.2.1, k6.2.2]; exact hw n2 b k0 (by omega) k2 k3) (fun k9 j k0 => by have k5 := mo_fm h0 (show n < n + 1 by omega) k9; rw [(w_.2.2.2 j (by omega)).2.1]; exact hz (by omega) j (by have := mo_fs n; omega)) (by omega)

theorem qm_ini_b {s : Nat} {F F0 : aq_F} {c0 : aq_C} {y : Nat} (hO : mo_0 (y + 24) F y) (hF0 : ∀ a, a < y → F a = F0 a) (hG1 : F (y + 1) = (0, 992, fun _ => .inl 0)) (hG2 : F (y + 2) = (0, 124, fun _ => .inl 0)) (hG3 : F (y + 3) = (0, 124, fun _ => .inl 0)) (hG4 : F (y + 4) = (0, 124, fun _ => .inl 0)) : ∀ (d : Nat) (n : Int) (b : Int) (c : aq_C) (hs : aq_sm (fun a => y ≤ a) c0 c) (h0 : 1 ≤ n) (h1 : n ≤ 4) (h2 : 0 ≤ b) (h4 : b ≤ bx_K n) (hb : mo_b y c) (h3 : ∀ j, c (y + 3) j = 0) (hdd : ∀ n2 b2 p : Int, 1 ≤ n2 → n2 ≤ 4 → 0 ≤ b2 → b2 < bx_K n2 → 0 ≤ p → p < 2 * n2 → (n2 < n ∨ (n2 = n ∧ b2 < b)) → c (y + 1) (8 * (mo_f n2 + b2) + p) = prt n2 b2 p) (hd : bx_K n - b < (d : Int)) (K0 : ∀ (b2 : Int) (c2 : aq_C) (hs2 : aq_sm (fun a => y ≤ a) c0 c2) (hb2 : mo_b y c2) (h32 : ∀ j, c2 (y + 3) j = 0) (hd2 : ∀ n2 b5 p : Int, 1 ≤ n2 → n2 ≤ 4 → 0 ≤ b5 → b5 < bx_K n2 → 0 ≤ p → p < 2 * n2 → (n2 < n ∨ n2 = n) → c2 (y + 1) (8 * (mo_f n2 + b5) + p) = prt n2 b5 p), am_E ac_X5_init (247, [vR y, vI n, vI b2], [], aq_h (y + 24) s F c2) (mo_Z y s F0 c0)), am_E ac_X5_init (227, [vR y, vI n, vI b], [], aq_h (y + 24) s F c) (mo_Z y s F0 c0)
  | 0, n, b, c, hs, h0, h1, h2, h4, hb, h3, hdd, hd, K0 => by exfalso; omega
  | d + 1, n, b, c, hs, h0, h1, h2, h4, hb, h3, hdd, hd, K0 => by
    obtain ⟨hm, hFo, hG5, hG6, hG7, hG8, hG9, hG10, hG11, hG12, hG13, hG14, hG15, hG16, hG17, hG18, hG19, hG20, hG21, hG22, hG23⟩ := hO
    have hfs := mo_fs n
    refine am_E.go (t2 := (228, [vR y, vI n, vI b], [vI b], aq_h (y + 24) s F c)) rfl rfl ?_
    refine am_E.go (t2 := (229, [vR y, vI n, vI b], [vI n, vI b], aq_h (y + 24) s F c)) rfl rfl ?_
    refine am_E.call rfl rfl rfl (Nat.le_of_ble_eq_true rfl) (qm_boxes) ?_
    rintro r5 h5 ⟨rfl, v_bx, rfl, hv_bx⟩
    show am_E _ (232, [vR y, vI n, vI b], [vI v_bx, vI b], aq_h (y + 24) s F c) _
    refine ae_icmp rfl (fun (q_1 : v_bx ≤ b) => ?_) (fun (q_1 : b < v_bx) => ?_)
    · exact K0 b c hs hb h3 (fun n2 b5 p k0 k1 k2 k3 k4 k5 k6 => hdd n2 b5 p k0 k1 k2 k3 k4 k5 (by rcases k6 with k6 | k6; exact Or.inl k6; exact Or.inr ⟨k6, by rw [k6] at k3; omega⟩))
    · refine am_E.go (t2 := (236, [vR y, vI n, vI b], [vR y], aq_h (y + 24) s F c)) rfl rfl ?_
      refine am_E.go (t2 := (237, [vR y, vI n, vI b], [vI n, vR y], aq_h (y + 24) s F c)) rfl rfl ?_
      refine am_E.go (t2 := (238, [vR y, vI n, vI b], [vI b, vI n, vR y], aq_h (y + 24) s F c)) rfl rfl ?_
      refine aq_callv (y := 3) (as2 := [vI n, vI b]) (rest := []) rfl rfl (by decide) (Nat.le_of_ble_eq_true rfl) rfl rfl (Nat.le_of_ble_eq_true rfl) (by omega) hFo rfl (Nat.le_of_ble_eq_true rfl) (qm_decode ⟨hm, hFo, hG5, hG6, hG7, hG8, hG9, hG10, hG11, hG12, hG13, hG14, hG15, hG16, hG17, hG18, hG19, hG20, hG21, hG22, hG23⟩ hG1 h0 h1 h2 (by omega)) ?_
      rintro r5 h5 ⟨c_d, rfl, s_d, rfl, w1, w2⟩
      show am_E _ (241, [vR y, vI n, vI b], [], aq_h (y + 24) s F c_d) _
      refine ae_iinc rfl rfl (am_ri (by omega) (by omega)) ?_
      show am_E _ (244, [vR y, vI n, vI (b + 1)], [], aq_h (y + 24) s F c_d) _
      refine am_E.go (t2 := (227, [vR y, vI n, vI (b + 1)], [], aq_h (y + 24) s F c_d)) rfl rfl ?_
      exact qm_ini_b ⟨hm, hFo, hG5, hG6, hG7, hG8, hG9, hG10, hG11, hG12, hG13, hG14, hG15, hG16, hG17, hG18, hG19, hG20, hG21, hG22, hG23⟩ hF0 hG1 hG2 hG3 hG4 d n (b + 1) c_d (aq_smt hs (aq_smi s_d (fun a h => by omega))) (by omega) (by omega) (by omega) (by omega) (mo_bs hb s_d (mo_ks mo_k0 s_d (by omega)) (by omega) (by omega)) (fun j => by rw [s_d _ (by omega)]; exact h3 j) (fun n2 b2 p k0 k1 k2 k3 k4 k5 k6 => by
      by_cases e : n2 = n ∧ b2 = b
      · rw [e.1, e.2]
        rw [e.1] at k5
        exact w1 p k4 k5
      · have q1 : n2 < n → mo_f n2 + bx_K n2 ≤ mo_f n := fun q => mo_fm k0 q h1
        have q2 : n2 = n → mo_f n2 = mo_f n := fun q => by rw [q]
        rw [w2 _ (by omega)]
        exact hdd n2 b2 p k0 k1 k2 k3 k4 k5 (by omega)) (by omega) K0

theorem qm_ini_n {s : Nat} {F F0 : aq_F} {c0 : aq_C} {y : Nat} (hO : mo_0 (y + 24) F y) (hF0 : ∀ a, a < y → F a = F0 a) (hG1 : F (y + 1) = (0, 992, fun _ => .inl 0)) (hG2 : F (y + 2) = (0, 124, fun _ => .inl 0)) (hG3 : F (y + 3) = (0, 124, fun _ => .inl 0)) (hG4 : F (y + 4) = (0, 124, fun _ => .inl 0)) : ∀ (d : Nat) (n : Int) (v2 : am_V) (c : aq_C) (hs : aq_sm (fun a => y ≤ a) c0 c) (h0 : 1 ≤ n) (h1 : n ≤ 5) (hb : mo_b y c) (h3 : ∀ j, c (y + 3) j = 0) (hdd : ∀ n2 b2 p : Int, 1 ≤ n2 → n2 ≤ 4 → 0 ≤ b2 → b2 < bx_K n2 → 0 ≤ p → p < 2 * n2 → n2 < n → c (y + 1) (8 * (mo_f n2 + b2) + p) = prt n2 b2 p) (hd : 5 - n < (d : Int)), am_E ac_X5_init (220, [vR y, vI n, v2], [], aq_h (y + 24) s F c) (mo_Z y s F0 c0)
  | 0, n, v2, c, hs, h0, h1, hb, h3, hdd, hd => by exfalso; omega
  | d + 1, n, v2, c, hs, h0, h1, hb, h3, hdd, hd => by
    obtain ⟨hm, hFo, hG5, hG6, hG7, hG8, hG9, hG10, hG11, hG12, hG13, hG14, hG15, hG16, hG17, hG18, hG19, hG20, hG21, hG22, hG23⟩ := hO
    have hfs := mo_fs n
    refine am_E.go (t2 := (221, [vR y, vI n, v2], [vI n], aq_h (y + 24) s F c)) rfl rfl ?_
    refine am_E.go (t2 := (222, [vR y, vI n, v2], [vI 5, vI n], aq_h (y + 24) s F c)) rfl rfl ?_
    refine ae_icmp rfl (fun (q_1 : 5 ≤ n) => ?_) (fun (q_1 : n < 5) => ?_)
    · refine am_E.go (t2 := (254, [vR y, vI n, v2], [vI 1], aq_h (y + 24) s F c)) rfl rfl ?_
      refine am_E.go (t2 := (255, [vR y, vI 1, v2], [], aq_h (y + 24) s F c)) rfl rfl ?_
      have en : n = 5 := by omega
      rw [aq_frz hG1]
      exact qm_ini_w (mo_0f ⟨hm, hFo, hG5, hG6, hG7, hG8, hG9, hG10, hG11, hG12, hG13, hG14, hG15, hG16, hG17, hG18, hG19, hG20, hG21, hG22, hG23⟩ (by omega) (by omega)) (fun a ha => by rw [am_up_n (by omega)]; exact hF0 a ha) (tbl := c (y + 1)) ⟨am_up_s, fun n2 b2 p k0 k1 k2 k3 k4 k5 => hdd n2 b2 p k0 k1 k2 k3 k4 k5 (by omega)⟩ (by rw [am_up_n (by omega)]; exact hG2) (by rw [am_up_n (by omega)]; exact hG3) (by rw [am_up_n (by omega)]; exact hG4) 6 1 _ c hs (by omega) (by omega) hb (fun n2 b k0 k1 => absurd k1 (by omega)) (fun _ j _ => h3 j) (by omega)
    · refine am_E.go (t2 := (226, [vR y, vI n, v2], [vI 0], aq_h (y + 24) s F c)) rfl rfl ?_
      refine am_E.go (t2 := (227, [vR y, vI n, vI 0], [], aq_h (y + 24) s F c)) rfl rfl ?_
      refine qm_ini_b ⟨hm, hFo, hG5, hG6, hG7, hG8, hG9, hG10, hG11, hG12, hG13, hG14, hG15, hG16, hG17, hG18, hG19, hG20, hG21, hG22, hG23⟩ hF0 hG1 hG2 hG3 hG4 107 n 0 c hs (by omega) (by omega) (by omega) (by have := mo_fs n; omega) hb h3 (fun n2 b2 p k0 k1 k2 k3 k4 k5 k6 => hdd n2 b2 p k0 k1 k2 k3 k4 k5 (by omega)) (by omega) ?_
      · intro b2_227 c_2 sc_2 hb2_227 h32_227 hd2_227
        refine ae_iinc rfl rfl (am_ri (by omega) (by omega)) ?_
        show am_E _ (250, [vR y, vI (n + 1), vI b2_227], [], aq_h (y + 24) s F c_2) _
        refine am_E.go (t2 := (220, [vR y, vI (n + 1), vI b2_227], [], aq_h (y + 24) s F c_2)) rfl rfl ?_
        exact qm_ini_n ⟨hm, hFo, hG5, hG6, hG7, hG8, hG9, hG10, hG11, hG12, hG13, hG14, hG15, hG16, hG17, hG18, hG19, hG20, hG21, hG22, hG23⟩ hF0 hG1 hG2 hG3 hG4 d (n + 1) (vI b2_227) c_2 sc_2 (by omega) (by omega) hb2_227 h32_227 (fun n2 b2 p k0 k1 k2 k3 k4 k5 k6 => hd2_227 n2 b2 p k0 k1 k2 k3 k4 k5 (by omega)) (by omega)

theorem qm_ini_s {s : Nat} {F F0 : aq_F} {c0 : aq_C} {y : Nat} (hO : mo_0 (y + 24) F y) (hF0 : ∀ a, a < y → F a = F0 a) (hG1 : F (y + 1) = (0, 992, fun _ => .inl 0)) (hG2 : F (y + 2) = (0, 124, fun _ => .inl 0)) (hG3 : F (y + 3) = (0, 124, fun _ => .inl 0)) (hG4 : F (y + 4) = (0, 124, fun _ => .inl 0)) : ∀ (d : Nat) (k : Int) (v2 : am_V) (c : aq_C) (hs : aq_sm (fun a => y ≤ a) c0 c) (h0 : 0 ≤ k) (h1 : k ≤ 8) (h9 : c y 9 = 2 ∧ c y 10 = 0) (h5 : ∀ s, 0 ≤ s → s < k → c (y + 5) s = 2) (h6 : ∀ s, c (y + 6) s = 0) (h3 : ∀ j, c (y + 3) j = 0) (hd : 8 - k < (d : Int)), am_E ac_X5_init (199, [vR y, vI k, v2], [], aq_h (y + 24) s F c) (mo_Z y s F0 c0)
  | 0, k, v2, c, hs, h0, h1, h9, h5, h6, h3, hd => by exfalso; omega
  | d + 1, k, v2, c, hs, h0, h1, h9, h5, h6, h3, hd => by
    obtain ⟨hm, hFo, hG5, hG6, hG7, hG8, hG9, hG10, hG11, hG12, hG13, hG14, hG15, hG16, hG17, hG18, hG19, hG20, hG21, hG22, hG23⟩ := hO
    refine am_E.go (t2 := (200, [vR y, vI k, v2], [vI k], aq_h (y + 24) s F c)) rfl rfl ?_
    refine am_E.go (t2 := (202, [vR y, vI k, v2], [vI 8, vI k], aq_h (y + 24) s F c)) rfl rfl ?_
    refine ae_icmp rfl (fun (q_1 : 8 ≤ k) => ?_) (fun (q_1 : k < 8) => ?_)
    · refine am_E.go (t2 := (219, [vR y, vI k, v2], [vI 1], aq_h (y + 24) s F c)) rfl rfl ?_
      refine am_E.go (t2 := (220, [vR y, vI 1, v2], [], aq_h (y + 24) s F c)) rfl rfl ?_
      exact qm_ini_n ⟨hm, hFo, hG5, hG6, hG7, hG8, hG9, hG10, hG11, hG12, hG13, hG14, hG15, hG16, hG17, hG18, hG19, hG20, hG21, hG22, hG23⟩ hF0 hG1 hG2 hG3 hG4 6 1 (v2) c hs (by omega) (by omega) ⟨h9.1, h9.2, fun s5 k0 k1 => h5 s5 k0 (by omega), h6⟩ h3 (fun n2 b2 p k0 k1 k2 k3 k4 k5 k6 => absurd k6 (by omega)) (by omega)
    · refine am_E.go (t2 := (206, [vR y, vI k, v2], [vR y], aq_h (y + 24) s F c)) rfl rfl ?_
      refine aq_gf (v := vR (y + 5)) rfl (by omega) hFo (by decide) rfl ?_
      show am_E _ (209, [vR y, vI k, v2], [vR (y + 5)], aq_h (y + 24) s F c) _
      refine am_E.go (t2 := (210, [vR y, vI k, v2], [vI k, vR (y + 5)], aq_h (y + 24) s F c)) rfl rfl ?_
      refine am_E.go (t2 := (211, [vR y, vI k, v2], [vI 2, vI k, vR (y + 5)], aq_h (y + 24) s F c)) rfl rfl ?_
      refine aq_as (kd := 0) rfl rfl (by omega) hG5 (by omega) (by omega) rfl rfl ?_
      show am_E _ (212, [vR y, vI k, v2], [], aq_h (y + 24) s F (aq_u c (y + 5) k 2)) _
      generalize hdc_2 : aq_u c (y + 5) k 2 = c_2
      have sc_2 := aq_smu hs hdc_2 (by omega)
      refine ae_iinc rfl rfl (am_ri (by omega) (by omega)) ?_
      show am_E _ (215, [vR y, vI (k + 1), v2], [], aq_h (y + 24) s F c_2) _
      refine am_E.go (t2 := (199, [vR y, vI (k + 1), v2], [], aq_h (y + 24) s F c_2)) rfl rfl ?_
      exact qm_ini_s ⟨hm, hFo, hG5, hG6, hG7, hG8, hG9, hG10, hG11, hG12, hG13, hG14, hG15, hG16, hG17, hG18, hG19, hG20, hG21, hG22, hG23⟩ hF0 hG1 hG2 hG3 hG4 d (k + 1) (v2) c_2 sc_2 (by omega) (by omega) (by rw [← hdc_2, aq_un (Or.inl (by omega)), aq_un (Or.inl (by omega))]; exact h9) (aq_fl (g := fun _ => 2) h5 hdc_2 rfl) (fun s5 => by rw [← hdc_2, aq_un (Or.inl (by omega))]; exact h6 s5) (fun j => by rw [← hdc_2, aq_un (Or.inl (by omega))]; exact h3 j) (by omega)

/-- a new object of the reference: no array is there yet -/
def mo_t0 : Nat → aq_T := fun k => match k with
  | 0 => .inr vN
  | 1 => .inr vN
  | 2 => .inr vN
  | 3 => .inr vN
  | 4 => .inr vN
  | 5 => .inr vN
  | 6 => .inr vN
  | 7 => .inr vN
  | 8 => .inr vN
  | 11 => .inr vN
  | 12 => .inr vN
  | 13 => .inr vN
  | 14 => .inr vN
  | 16 => .inr vN
  | 18 => .inr vN
  | 19 => .inr vN
  | 20 => .inr vN
  | 21 => .inr vN
  | 22 => .inr vN
  | 23 => .inr vN
  | 24 => .inr vN
  | 25 => .inr vN
  | 26 => .inr vN
  | _ => .inl 0

theorem qm_init {s : Nat} {F : aq_F} {c : aq_C} {y : Nat} (hy : F y = (15, 27, mo_t0)) (h10 : c y 10 = 0) : am_E ac_X5_init (0, [vR y, vU, vU], [], aq_h (y + 1) s F c) (mo_Z y (s + 3246) F c) := by
  refine am_E.go (t2 := (1, [vR y, vU, vU], [vR y], aq_h (y + 1) s F c)) rfl rfl ?_
  refine am_E.go (t2 := (4, [vR y, vU, vU], [], aq_h (y + 1) s F c)) rfl rfl ?_
  have f0_0 : ∀ a, a < y → F a = F a := fun _ _ => rfl
  have s_0 : aq_sm (fun a => y ≤ a) c c := aq_sm0
  have t_0 := h10
  refine am_E.go (t2 := (5, [vR y, vU, vU], [vR y], aq_h (y + 1) s F c)) rfl rfl ?_
  refine am_E.go (t2 := (8, [vR y, vU, vU], [vI 992, vR y], aq_h (y + 1) s F c)) rfl rfl ?_
  refine aq_step (o := y) (n := 992) rfl rfl hy (by omega) (by decide) rfl (by decide) rfl (by decide) (fun F_1 c_1 hy_1 a_1 o_1 z_1 u_1 => ?_)
  show am_E _ (13, [vR y, vU, vU], [], aq_h (y + 2) (s + 992) F_1 c_1) _
  have g1_1 : F_1 (y + 1) = (0, 992, fun _ => .inl 0) := a_1
  have f0_1 : ∀ a, a < y → F_1 a = F a := fun a ha => (o_1 a (by omega) (by omega)).trans (f0_0 a ha)
  have t_1 : c_1 y 10 = 0 := by rw [u_1 y (by omega)]; exact t_0
  have s_1 : aq_sm (fun a => y ≤ a) c c_1 := fun a ha i => (u_1 a (by omega) i).trans (s_0 a ha i)
  refine am_E.go (t2 := (14, [vR y, vU, vU], [vR y], aq_h (y + 2) (s + 992) F_1 c_1)) rfl rfl ?_
  refine am_E.go (t2 := (16, [vR y, vU, vU], [vI 124, vR y], aq_h (y + 2) (s + 992) F_1 c_1)) rfl rfl ?_
  refine aq_step (o := y) (n := 124) rfl rfl hy_1 (by omega) (by decide) rfl (by decide) rfl (by decide) (fun F_2 c_2 hy_2 a_2 o_2 z_2 u_2 => ?_)
  show am_E _ (21, [vR y, vU, vU], [], aq_h (y + 3) (s + 1116) F_2 c_2) _
  have g1_2 : F_2 (y + 1) = (0, 992, fun _ => .inl 0) := by rw [o_2 (y + 1) (by omega) (by omega)]; exact g1_1
  have g2_2 : F_2 (y + 2) = (0, 124, fun _ => .inl 0) := a_2
  have f0_2 : ∀ a, a < y → F_2 a = F a := fun a ha => (o_2 a (by omega) (by omega)).trans (f0_1 a ha)
  have t_2 : c_2 y 10 = 0 := by rw [u_2 y (by omega)]; exact t_1
  have s_2 : aq_sm (fun a => y ≤ a) c c_2 := fun a ha i => (u_2 a (by omega) i).trans (s_1 a ha i)
  refine am_E.go (t2 := (22, [vR y, vU, vU], [vR y], aq_h (y + 3) (s + 1116) F_2 c_2)) rfl rfl ?_
  refine am_E.go (t2 := (24, [vR y, vU, vU], [vI 124, vR y], aq_h (y + 3) (s + 1116) F_2 c_2)) rfl rfl ?_
  refine aq_step (o := y) (n := 124) rfl rfl hy_2 (by omega) (by decide) rfl (by decide) rfl (by decide) (fun F_3 c_3 hy_3 a_3 o_3 z_3 u_3 => ?_)
  show am_E _ (29, [vR y, vU, vU], [], aq_h (y + 4) (s + 1240) F_3 c_3) _
  have g1_3 : F_3 (y + 1) = (0, 992, fun _ => .inl 0) := by rw [o_3 (y + 1) (by omega) (by omega)]; exact g1_2
  have g2_3 : F_3 (y + 2) = (0, 124, fun _ => .inl 0) := by rw [o_3 (y + 2) (by omega) (by omega)]; exact g2_2
  have g3_3 : F_3 (y + 3) = (0, 124, fun _ => .inl 0) := a_3
  have f0_3 : ∀ a, a < y → F_3 a = F a := fun a ha => (o_3 a (by omega) (by omega)).trans (f0_2 a ha)
  have t_3 : c_3 y 10 = 0 := by rw [u_3 y (by omega)]; exact t_2
  have s_3 : aq_sm (fun a => y ≤ a) c c_3 := fun a ha i => (u_3 a (by omega) i).trans (s_2 a ha i)
  have z3_3 : ∀ j, c_3 (y + 3) j = 0 := z_3
  refine am_E.go (t2 := (30, [vR y, vU, vU], [vR y], aq_h (y + 4) (s + 1240) F_3 c_3)) rfl rfl ?_
  refine am_E.go (t2 := (32, [vR y, vU, vU], [vI 124, vR y], aq_h (y + 4) (s + 1240) F_3 c_3)) rfl rfl ?_
  refine aq_step (o := y) (n := 124) rfl rfl hy_3 (by omega) (by decide) rfl (by decide) rfl (by decide) (fun F_4 c_4 hy_4 a_4 o_4 z_4 u_4 => ?_)
  show am_E _ (37, [vR y, vU, vU], [], aq_h (y + 5) (s + 1364) F_4 c_4) _
  have g1_4 : F_4 (y + 1) = (0, 992, fun _ => .inl 0) := by rw [o_4 (y + 1) (by omega) (by omega)]; exact g1_3
  have g2_4 : F_4 (y + 2) = (0, 124, fun _ => .inl 0) := by rw [o_4 (y + 2) (by omega) (by omega)]; exact g2_3
  have g3_4 : F_4 (y + 3) = (0, 124, fun _ => .inl 0) := by rw [o_4 (y + 3) (by omega) (by omega)]; exact g3_3
  have g4_4 : F_4 (y + 4) = (0, 124, fun _ => .inl 0) := a_4
  have f0_4 : ∀ a, a < y → F_4 a = F a := fun a ha => (o_4 a (by omega) (by omega)).trans (f0_3 a ha)
  have t_4 : c_4 y 10 = 0 := by rw [u_4 y (by omega)]; exact t_3
  have s_4 : aq_sm (fun a => y ≤ a) c c_4 := fun a ha i => (u_4 a (by omega) i).trans (s_3 a ha i)
  have z3_4 : ∀ j, c_4 (y + 3) j = 0 := fun j => by rw [u_4 (y + 3) (by omega)]; exact z3_3 j
  refine am_E.go (t2 := (38, [vR y, vU, vU], [vR y], aq_h (y + 5) (s + 1364) F_4 c_4)) rfl rfl ?_
  refine am_E.go (t2 := (40, [vR y, vU, vU], [vI 8, vR y], aq_h (y + 5) (s + 1364) F_4 c_4)) rfl rfl ?_
  refine aq_step (o := y) (n := 8) rfl rfl hy_4 (by omega) (by decide) rfl (by decide) rfl (by decide) (fun F_5 c_5 hy_5 a_5 o_5 z_5 u_5 => ?_)
  show am_E _ (45, [vR y, vU, vU], [], aq_h (y + 6) (s + 1372) F_5 c_5) _
  have g1_5 : F_5 (y + 1) = (0, 992, fun _ => .inl 0) := by rw [o_5 (y + 1) (by omega) (by omega)]; exact g1_4
  have g2_5 : F_5 (y + 2) = (0, 124, fun _ => .inl 0) := by rw [o_5 (y + 2) (by omega) (by omega)]; exact g2_4
  have g3_5 : F_5 (y + 3) = (0, 124, fun _ => .inl 0) := by rw [o_5 (y + 3) (by omega) (by omega)]; exact g3_4
  have g4_5 : F_5 (y + 4) = (0, 124, fun _ => .inl 0) := by rw [o_5 (y + 4) (by omega) (by omega)]; exact g4_4
  have g5_5 : F_5 (y + 5) = (0, 8, fun _ => .inl 0) := a_5
  have f0_5 : ∀ a, a < y → F_5 a = F a := fun a ha => (o_5 a (by omega) (by omega)).trans (f0_4 a ha)
  have t_5 : c_5 y 10 = 0 := by rw [u_5 y (by omega)]; exact t_4
  have s_5 : aq_sm (fun a => y ≤ a) c c_5 := fun a ha i => (u_5 a (by omega) i).trans (s_4 a ha i)
  have z3_5 : ∀ j, c_5 (y + 3) j = 0 := fun j => by rw [u_5 (y + 3) (by omega)]; exact z3_4 j
  refine am_E.go (t2 := (46, [vR y, vU, vU], [vR y], aq_h (y + 6) (s + 1372) F_5 c_5)) rfl rfl ?_
  refine am_E.go (t2 := (48, [vR y, vU, vU], [vI 8, vR y], aq_h (y + 6) (s + 1372) F_5 c_5)) rfl rfl ?_
  refine aq_step (o := y) (n := 8) rfl rfl hy_5 (by omega) (by decide) rfl (by decide) rfl (by decide) (fun F_6 c_6 hy_6 a_6 o_6 z_6 u_6 => ?_)
  show am_E _ (53, [vR y, vU, vU], [], aq_h (y + 7) (s + 1380) F_6 c_6) _
  have g1_6 : F_6 (y + 1) = (0, 992, fun _ => .inl 0) := by rw [o_6 (y + 1) (by omega) (by omega)]; exact g1_5
  have g2_6 : F_6 (y + 2) = (0, 124, fun _ => .inl 0) := by rw [o_6 (y + 2) (by omega) (by omega)]; exact g2_5
  have g3_6 : F_6 (y + 3) = (0, 124, fun _ => .inl 0) := by rw [o_6 (y + 3) (by omega) (by omega)]; exact g3_5
  have g4_6 : F_6 (y + 4) = (0, 124, fun _ => .inl 0) := by rw [o_6 (y + 4) (by omega) (by omega)]; exact g4_5
  have g5_6 : F_6 (y + 5) = (0, 8, fun _ => .inl 0) := by rw [o_6 (y + 5) (by omega) (by omega)]; exact g5_5
  have g6_6 : F_6 (y + 6) = (0, 8, fun _ => .inl 0) := a_6
  have f0_6 : ∀ a, a < y → F_6 a = F a := fun a ha => (o_6 a (by omega) (by omega)).trans (f0_5 a ha)
  have t_6 : c_6 y 10 = 0 := by rw [u_6 y (by omega)]; exact t_5
  have s_6 : aq_sm (fun a => y ≤ a) c c_6 := fun a ha i => (u_6 a (by omega) i).trans (s_5 a ha i)
  have z3_6 : ∀ j, c_6 (y + 3) j = 0 := fun j => by rw [u_6 (y + 3) (by omega)]; exact z3_5 j
  have z6_6 : ∀ j, c_6 (y + 6) j = 0 := z_6
  refine am_E.go (t2 := (54, [vR y, vU, vU], [vR y], aq_h (y + 7) (s + 1380) F_6 c_6)) rfl rfl ?_
  refine am_E.go (t2 := (57, [vR y, vU, vU], [vI 320, vR y], aq_h (y + 7) (s + 1380) F_6 c_6)) rfl rfl ?_
  refine aq_step (o := y) (n := 320) rfl rfl hy_6 (by omega) (by decide) rfl (by decide) rfl (by decide) (fun F_7 c_7 hy_7 a_7 o_7 z_7 u_7 => ?_)
  show am_E _ (62, [vR y, vU, vU], [], aq_h (y + 8) (s + 1700) F_7 c_7) _
  have g1_7 : F_7 (y + 1) = (0, 992, fun _ => .inl 0) := by rw [o_7 (y + 1) (by omega) (by omega)]; exact g1_6
  have g2_7 : F_7 (y + 2) = (0, 124, fun _ => .inl 0) := by rw [o_7 (y + 2) (by omega) (by omega)]; exact g2_6
  have g3_7 : F_7 (y + 3) = (0, 124, fun _ => .inl 0) := by rw [o_7 (y + 3) (by omega) (by omega)]; exact g3_6
  have g4_7 : F_7 (y + 4) = (0, 124, fun _ => .inl 0) := by rw [o_7 (y + 4) (by omega) (by omega)]; exact g4_6
  have g5_7 : F_7 (y + 5) = (0, 8, fun _ => .inl 0) := by rw [o_7 (y + 5) (by omega) (by omega)]; exact g5_6
  have g6_7 : F_7 (y + 6) = (0, 8, fun _ => .inl 0) := by rw [o_7 (y + 6) (by omega) (by omega)]; exact g6_6
  have g7_7 : F_7 (y + 7) = (0, 320, fun _ => .inl 0) := a_7
  have f0_7 : ∀ a, a < y → F_7 a = F a := fun a ha => (o_7 a (by omega) (by omega)).trans (f0_6 a ha)
  have t_7 : c_7 y 10 = 0 := by rw [u_7 y (by omega)]; exact t_6
  have s_7 : aq_sm (fun a => y ≤ a) c c_7 := fun a ha i => (u_7 a (by omega) i).trans (s_6 a ha i)
  have z3_7 : ∀ j, c_7 (y + 3) j = 0 := fun j => by rw [u_7 (y + 3) (by omega)]; exact z3_6 j
  have z6_7 : ∀ j, c_7 (y + 6) j = 0 := fun j => by rw [u_7 (y + 6) (by omega)]; exact z6_6 j
  refine am_E.go (t2 := (63, [vR y, vU, vU], [vR y], aq_h (y + 8) (s + 1700) F_7 c_7)) rfl rfl ?_
  refine am_E.go (t2 := (66, [vR y, vU, vU], [vI 320, vR y], aq_h (y + 8) (s + 1700) F_7 c_7)) rfl rfl ?_
  refine aq_step (o := y) (n := 320) rfl rfl hy_7 (by omega) (by decide) rfl (by decide) rfl (by decide) (fun F_8 c_8 hy_8 a_8 o_8 z_8 u_8 => ?_)
  show am_E _ (71, [vR y, vU, vU], [], aq_h (y + 9) (s + 2020) F_8 c_8) _
  have g1_8 : F_8 (y + 1) = (0, 992, fun _ => .inl 0) := by rw [o_8 (y + 1) (by omega) (by omega)]; exact g1_7
  have g2_8 : F_8 (y + 2) = (0, 124, fun _ => .inl 0) := by rw [o_8 (y + 2) (by omega) (by omega)]; exact g2_7
  have g3_8 : F_8 (y + 3) = (0, 124, fun _ => .inl 0) := by rw [o_8 (y + 3) (by omega) (by omega)]; exact g3_7
  have g4_8 : F_8 (y + 4) = (0, 124, fun _ => .inl 0) := by rw [o_8 (y + 4) (by omega) (by omega)]; exact g4_7
  have g5_8 : F_8 (y + 5) = (0, 8, fun _ => .inl 0) := by rw [o_8 (y + 5) (by omega) (by omega)]; exact g5_7
  have g6_8 : F_8 (y + 6) = (0, 8, fun _ => .inl 0) := by rw [o_8 (y + 6) (by omega) (by omega)]; exact g6_7
  have g7_8 : F_8 (y + 7) = (0, 320, fun _ => .inl 0) := by rw [o_8 (y + 7) (by omega) (by omega)]; exact g7_7
  have g8_8 : F_8 (y + 8) = (0, 320, fun _ => .inl 0) := a_8
  have f0_8 : ∀ a, a < y → F_8 a = F a := fun a ha => (o_8 a (by omega) (by omega)).trans (f0_7 a ha)
  have t_8 : c_8 y 10 = 0 := by rw [u_8 y (by omega)]; exact t_7
  have s_8 : aq_sm (fun a => y ≤ a) c c_8 := fun a ha i => (u_8 a (by omega) i).trans (s_7 a ha i)
  have z3_8 : ∀ j, c_8 (y + 3) j = 0 := fun j => by rw [u_8 (y + 3) (by omega)]; exact z3_7 j
  have z6_8 : ∀ j, c_8 (y + 6) j = 0 := fun j => by rw [u_8 (y + 6) (by omega)]; exact z6_7 j
  refine am_E.go (t2 := (72, [vR y, vU, vU], [vR y], aq_h (y + 9) (s + 2020) F_8 c_8)) rfl rfl ?_
  refine am_E.go (t2 := (75, [vR y, vU, vU], [vI 320, vR y], aq_h (y + 9) (s + 2020) F_8 c_8)) rfl rfl ?_
  refine aq_step (o := y) (n := 320) rfl rfl hy_8 (by omega) (by decide) rfl (by decide) rfl (by decide) (fun F_9 c_9 hy_9 a_9 o_9 z_9 u_9 => ?_)
  show am_E _ (80, [vR y, vU, vU], [], aq_h (y + 10) (s + 2340) F_9 c_9) _
  have g1_9 : F_9 (y + 1) = (0, 992, fun _ => .inl 0) := by rw [o_9 (y + 1) (by omega) (by omega)]; exact g1_8
  have g2_9 : F_9 (y + 2) = (0, 124, fun _ => .inl 0) := by rw [o_9 (y + 2) (by omega) (by omega)]; exact g2_8
  have g3_9 : F_9 (y + 3) = (0, 124, fun _ => .inl 0) := by rw [o_9 (y + 3) (by omega) (by omega)]; exact g3_8
  have g4_9 : F_9 (y + 4) = (0, 124, fun _ => .inl 0) := by rw [o_9 (y + 4) (by omega) (by omega)]; exact g4_8
  have g5_9 : F_9 (y + 5) = (0, 8, fun _ => .inl 0) := by rw [o_9 (y + 5) (by omega) (by omega)]; exact g5_8
  have g6_9 : F_9 (y + 6) = (0, 8, fun _ => .inl 0) := by rw [o_9 (y + 6) (by omega) (by omega)]; exact g6_8
  have g7_9 : F_9 (y + 7) = (0, 320, fun _ => .inl 0) := by rw [o_9 (y + 7) (by omega) (by omega)]; exact g7_8
  have g8_9 : F_9 (y + 8) = (0, 320, fun _ => .inl 0) := by rw [o_9 (y + 8) (by omega) (by omega)]; exact g8_8
  have g9_9 : F_9 (y + 9) = (2, 320, fun _ => .inl 2) := a_9
  have f0_9 : ∀ a, a < y → F_9 a = F a := fun a ha => (o_9 a (by omega) (by omega)).trans (f0_8 a ha)
  have t_9 : c_9 y 10 = 0 := by rw [u_9 y (by omega)]; exact t_8
  have s_9 : aq_sm (fun a => y ≤ a) c c_9 := fun a ha i => (u_9 a (by omega) i).trans (s_8 a ha i)
  have z3_9 : ∀ j, c_9 (y + 3) j = 0 := fun j => by rw [u_9 (y + 3) (by omega)]; exact z3_8 j
  have z6_9 : ∀ j, c_9 (y + 6) j = 0 := fun j => by rw [u_9 (y + 6) (by omega)]; exact z6_8 j
  refine am_E.go (t2 := (81, [vR y, vU, vU], [vR y], aq_h (y + 10) (s + 2340) F_9 c_9)) rfl rfl ?_
  refine am_E.go (t2 := (82, [vR y, vU, vU], [vI 2, vR y], aq_h (y + 10) (s + 2340) F_9 c_9)) rfl rfl ?_
  refine aq_pf rfl (by omega) hy_9 (by decide) rfl rfl ?_
  show am_E _ (85, [vR y, vU, vU], [], aq_h (y + 10) (s + 2340) F_9 (aq_u c_9 y 9 2)) _
  generalize hd9 : aq_u c_9 y 9 2 = d_9
  have r_9 : d_9 y 9 = 2 := by rw [← hd9, aq_us]
  have t_9b : d_9 y 10 = 0 := by rw [← hd9, aq_un (Or.inr (by decide))]; exact t_9
  have s_9b : aq_sm (fun a => y ≤ a) c d_9 := aq_smu s_9 hd9 (Nat.le_refl y)
  have z3_9b : ∀ j, d_9 (y + 3) j = 0 := fun j => by rw [← hd9, aq_un (Or.inl (by omega))]; exact z3_9 j
  have z6_9b : ∀ j, d_9 (y + 6) j = 0 := fun j => by rw [← hd9, aq_un (Or.inl (by omega))]; exact z6_9 j
  have t_9 := t_9b
  have s_9 := s_9b
  have z3_9 := z3_9b
  have z6_9 := z6_9b
  refine am_E.go (t2 := (86, [vR y, vU, vU], [vR y], aq_h (y + 10) (s + 2340) F_9 d_9)) rfl rfl ?_
  refine am_E.go (t2 := (88, [vR y, vU, vU], [vI 8, vR y], aq_h (y + 10) (s + 2340) F_9 d_9)) rfl rfl ?_
  refine aq_step (o := y) (n := 8) rfl rfl hy_9 (by omega) (by decide) rfl (by decide) rfl (by decide) (fun F_10 c_10 hy_10 a_10 o_10 z_10 u_10 => ?_)
  show am_E _ (93, [vR y, vU, vU], [], aq_h (y + 11) (s + 2348) F_10 c_10) _
  have g1_10 : F_10 (y + 1) = (0, 992, fun _ => .inl 0) := by rw [o_10 (y + 1) (by omega) (by omega)]; exact g1_9
  have g2_10 : F_10 (y + 2) = (0, 124, fun _ => .inl 0) := by rw [o_10 (y + 2) (by omega) (by omega)]; exact g2_9
  have g3_10 : F_10 (y + 3) = (0, 124, fun _ => .inl 0) := by rw [o_10 (y + 3) (by omega) (by omega)]; exact g3_9
  have g4_10 : F_10 (y + 4) = (0, 124, fun _ => .inl 0) := by rw [o_10 (y + 4) (by omega) (by omega)]; exact g4_9
  have g5_10 : F_10 (y + 5) = (0, 8, fun _ => .inl 0) := by rw [o_10 (y + 5) (by omega) (by omega)]; exact g5_9
  have g6_10 : F_10 (y + 6) = (0, 8, fun _ => .inl 0) := by rw [o_10 (y + 6) (by omega) (by omega)]; exact g6_9
  have g7_10 : F_10 (y + 7) = (0, 320, fun _ => .inl 0) := by rw [o_10 (y + 7) (by omega) (by omega)]; exact g7_9
  have g8_10 : F_10 (y + 8) = (0, 320, fun _ => .inl 0) := by rw [o_10 (y + 8) (by omega) (by omega)]; exact g8_9
  have g9_10 : F_10 (y + 9) = (2, 320, fun _ => .inl 2) := by rw [o_10 (y + 9) (by omega) (by omega)]; exact g9_9
  have g10_10 : F_10 (y + 10) = (0, 8, fun _ => .inl 0) := a_10
  have f0_10 : ∀ a, a < y → F_10 a = F a := fun a ha => (o_10 a (by omega) (by omega)).trans (f0_9 a ha)
  have t_10 : c_10 y 10 = 0 := by rw [u_10 y (by omega)]; exact t_9
  have s_10 : aq_sm (fun a => y ≤ a) c c_10 := fun a ha i => (u_10 a (by omega) i).trans (s_9 a ha i)
  have r_10 : c_10 y 9 = 2 := by rw [u_10 y (by omega)]; exact r_9
  have z3_10 : ∀ j, c_10 (y + 3) j = 0 := fun j => by rw [u_10 (y + 3) (by omega)]; exact z3_9 j
  have z6_10 : ∀ j, c_10 (y + 6) j = 0 := fun j => by rw [u_10 (y + 6) (by omega)]; exact z6_9 j
  refine am_E.go (t2 := (94, [vR y, vU, vU], [vR y], aq_h (y + 11) (s + 2348) F_10 c_10)) rfl rfl ?_
  refine am_E.go (t2 := (96, [vR y, vU, vU], [vI 8, vR y], aq_h (y + 11) (s + 2348) F_10 c_10)) rfl rfl ?_
  refine aq_step (o := y) (n := 8) rfl rfl hy_10 (by omega) (by decide) rfl (by decide) rfl (by decide) (fun F_11 c_11 hy_11 a_11 o_11 z_11 u_11 => ?_)
  show am_E _ (101, [vR y, vU, vU], [], aq_h (y + 12) (s + 2356) F_11 c_11) _
  have g1_11 : F_11 (y + 1) = (0, 992, fun _ => .inl 0) := by rw [o_11 (y + 1) (by omega) (by omega)]; exact g1_10
  have g2_11 : F_11 (y + 2) = (0, 124, fun _ => .inl 0) := by rw [o_11 (y + 2) (by omega) (by omega)]; exact g2_10
  have g3_11 : F_11 (y + 3) = (0, 124, fun _ => .inl 0) := by rw [o_11 (y + 3) (by omega) (by omega)]; exact g3_10
  have g4_11 : F_11 (y + 4) = (0, 124, fun _ => .inl 0) := by rw [o_11 (y + 4) (by omega) (by omega)]; exact g4_10
  have g5_11 : F_11 (y + 5) = (0, 8, fun _ => .inl 0) := by rw [o_11 (y + 5) (by omega) (by omega)]; exact g5_10
  have g6_11 : F_11 (y + 6) = (0, 8, fun _ => .inl 0) := by rw [o_11 (y + 6) (by omega) (by omega)]; exact g6_10
  have g7_11 : F_11 (y + 7) = (0, 320, fun _ => .inl 0) := by rw [o_11 (y + 7) (by omega) (by omega)]; exact g7_10
  have g8_11 : F_11 (y + 8) = (0, 320, fun _ => .inl 0) := by rw [o_11 (y + 8) (by omega) (by omega)]; exact g8_10
  have g9_11 : F_11 (y + 9) = (2, 320, fun _ => .inl 2) := by rw [o_11 (y + 9) (by omega) (by omega)]; exact g9_10
  have g10_11 : F_11 (y + 10) = (0, 8, fun _ => .inl 0) := by rw [o_11 (y + 10) (by omega) (by omega)]; exact g10_10
  have g11_11 : F_11 (y + 11) = (1, 8, fun _ => .inl 0) := a_11
  have f0_11 : ∀ a, a < y → F_11 a = F a := fun a ha => (o_11 a (by omega) (by omega)).trans (f0_10 a ha)
  have t_11 : c_11 y 10 = 0 := by rw [u_11 y (by omega)]; exact t_10
  have s_11 : aq_sm (fun a => y ≤ a) c c_11 := fun a ha i => (u_11 a (by omega) i).trans (s_10 a ha i)
  have r_11 : c_11 y 9 = 2 := by rw [u_11 y (by omega)]; exact r_10
  have z3_11 : ∀ j, c_11 (y + 3) j = 0 := fun j => by rw [u_11 (y + 3) (by omega)]; exact z3_10 j
  have z6_11 : ∀ j, c_11 (y + 6) j = 0 := fun j => by rw [u_11 (y + 6) (by omega)]; exact z6_10 j
  refine am_E.go (t2 := (102, [vR y, vU, vU], [vR y], aq_h (y + 12) (s + 2356) F_11 c_11)) rfl rfl ?_
  refine am_E.go (t2 := (104, [vR y, vU, vU], [vI 8, vR y], aq_h (y + 12) (s + 2356) F_11 c_11)) rfl rfl ?_
  refine aq_step (o := y) (n := 8) rfl rfl hy_11 (by omega) (by decide) rfl (by decide) rfl (by decide) (fun F_12 c_12 hy_12 a_12 o_12 z_12 u_12 => ?_)
  show am_E _ (109, [vR y, vU, vU], [], aq_h (y + 13) (s + 2364) F_12 c_12) _
  have g1_12 : F_12 (y + 1) = (0, 992, fun _ => .inl 0) := by rw [o_12 (y + 1) (by omega) (by omega)]; exact g1_11
  have g2_12 : F_12 (y + 2) = (0, 124, fun _ => .inl 0) := by rw [o_12 (y + 2) (by omega) (by omega)]; exact g2_11
  have g3_12 : F_12 (y + 3) = (0, 124, fun _ => .inl 0) := by rw [o_12 (y + 3) (by omega) (by omega)]; exact g3_11
  have g4_12 : F_12 (y + 4) = (0, 124, fun _ => .inl 0) := by rw [o_12 (y + 4) (by omega) (by omega)]; exact g4_11
  have g5_12 : F_12 (y + 5) = (0, 8, fun _ => .inl 0) := by rw [o_12 (y + 5) (by omega) (by omega)]; exact g5_11
  have g6_12 : F_12 (y + 6) = (0, 8, fun _ => .inl 0) := by rw [o_12 (y + 6) (by omega) (by omega)]; exact g6_11
  have g7_12 : F_12 (y + 7) = (0, 320, fun _ => .inl 0) := by rw [o_12 (y + 7) (by omega) (by omega)]; exact g7_11
  have g8_12 : F_12 (y + 8) = (0, 320, fun _ => .inl 0) := by rw [o_12 (y + 8) (by omega) (by omega)]; exact g8_11
  have g9_12 : F_12 (y + 9) = (2, 320, fun _ => .inl 2) := by rw [o_12 (y + 9) (by omega) (by omega)]; exact g9_11
  have g10_12 : F_12 (y + 10) = (0, 8, fun _ => .inl 0) := by rw [o_12 (y + 10) (by omega) (by omega)]; exact g10_11
  have g11_12 : F_12 (y + 11) = (1, 8, fun _ => .inl 0) := by rw [o_12 (y + 11) (by omega) (by omega)]; exact g11_11
  have g12_12 : F_12 (y + 12) = (0, 8, fun _ => .inl 0) := a_12
  have f0_12 : ∀ a, a < y → F_12 a = F a := fun a ha => (o_12 a (by omega) (by omega)).trans (f0_11 a ha)
  have t_12 : c_12 y 10 = 0 := by rw [u_12 y (by omega)]; exact t_11
  have s_12 : aq_sm (fun a => y ≤ a) c c_12 := fun a ha i => (u_12 a (by omega) i).trans (s_11 a ha i)
  have r_12 : c_12 y 9 = 2 := by rw [u_12 y (by omega)]; exact r_11
  have z3_12 : ∀ j, c_12 (y + 3) j = 0 := fun j => by rw [u_12 (y + 3) (by omega)]; exact z3_11 j
  have z6_12 : ∀ j, c_12 (y + 6) j = 0 := fun j => by rw [u_12 (y + 6) (by omega)]; exact z6_11 j
  refine am_E.go (t2 := (110, [vR y, vU, vU], [vR y], aq_h (y + 13) (s + 2364) F_12 c_12)) rfl rfl ?_
  refine am_E.go (t2 := (111, [vR y, vU, vU], [vI 4, vR y], aq_h (y + 13) (s + 2364) F_12 c_12)) rfl rfl ?_
  refine aq_step (o := y) (n := 4) rfl rfl hy_12 (by omega) (by decide) rfl (by decide) rfl (by decide) (fun F_13 c_13 hy_13 a_13 o_13 z_13 u_13 => ?_)
  show am_E _ (116, [vR y, vU, vU], [], aq_h (y + 14) (s + 2368) F_13 c_13) _
  have g1_13 : F_13 (y + 1) = (0, 992, fun _ => .inl 0) := by rw [o_13 (y + 1) (by omega) (by omega)]; exact g1_12
  have g2_13 : F_13 (y + 2) = (0, 124, fun _ => .inl 0) := by rw [o_13 (y + 2) (by omega) (by omega)]; exact g2_12
  have g3_13 : F_13 (y + 3) = (0, 124, fun _ => .inl 0) := by rw [o_13 (y + 3) (by omega) (by omega)]; exact g3_12
  have g4_13 : F_13 (y + 4) = (0, 124, fun _ => .inl 0) := by rw [o_13 (y + 4) (by omega) (by omega)]; exact g4_12
  have g5_13 : F_13 (y + 5) = (0, 8, fun _ => .inl 0) := by rw [o_13 (y + 5) (by omega) (by omega)]; exact g5_12
  have g6_13 : F_13 (y + 6) = (0, 8, fun _ => .inl 0) := by rw [o_13 (y + 6) (by omega) (by omega)]; exact g6_12
  have g7_13 : F_13 (y + 7) = (0, 320, fun _ => .inl 0) := by rw [o_13 (y + 7) (by omega) (by omega)]; exact g7_12
  have g8_13 : F_13 (y + 8) = (0, 320, fun _ => .inl 0) := by rw [o_13 (y + 8) (by omega) (by omega)]; exact g8_12
  have g9_13 : F_13 (y + 9) = (2, 320, fun _ => .inl 2) := by rw [o_13 (y + 9) (by omega) (by omega)]; exact g9_12
  have g10_13 : F_13 (y + 10) = (0, 8, fun _ => .inl 0) := by rw [o_13 (y + 10) (by omega) (by omega)]; exact g10_12
  have g11_13 : F_13 (y + 11) = (1, 8, fun _ => .inl 0) := by rw [o_13 (y + 11) (by omega) (by omega)]; exact g11_12
  have g12_13 : F_13 (y + 12) = (0, 8, fun _ => .inl 0) := by rw [o_13 (y + 12) (by omega) (by omega)]; exact g12_12
  have g13_13 : F_13 (y + 13) = (1, 4, fun _ => .inl 0) := a_13
  have f0_13 : ∀ a, a < y → F_13 a = F a := fun a ha => (o_13 a (by omega) (by omega)).trans (f0_12 a ha)
  have t_13 : c_13 y 10 = 0 := by rw [u_13 y (by omega)]; exact t_12
  have s_13 : aq_sm (fun a => y ≤ a) c c_13 := fun a ha i => (u_13 a (by omega) i).trans (s_12 a ha i)
  have r_13 : c_13 y 9 = 2 := by rw [u_13 y (by omega)]; exact r_12
  have z3_13 : ∀ j, c_13 (y + 3) j = 0 := fun j => by rw [u_13 (y + 3) (by omega)]; exact z3_12 j
  have z6_13 : ∀ j, c_13 (y + 6) j = 0 := fun j => by rw [u_13 (y + 6) (by omega)]; exact z6_12 j
  refine am_E.go (t2 := (117, [vR y, vU, vU], [vR y], aq_h (y + 14) (s + 2368) F_13 c_13)) rfl rfl ?_
  refine am_E.go (t2 := (119, [vR y, vU, vU], [vI 105, vR y], aq_h (y + 14) (s + 2368) F_13 c_13)) rfl rfl ?_
  refine aq_step (o := y) (n := 105) rfl rfl hy_13 (by omega) (by decide) rfl (by decide) rfl (by decide) (fun F_14 c_14 hy_14 a_14 o_14 z_14 u_14 => ?_)
  show am_E _ (124, [vR y, vU, vU], [], aq_h (y + 15) (s + 2473) F_14 c_14) _
  have g1_14 : F_14 (y + 1) = (0, 992, fun _ => .inl 0) := by rw [o_14 (y + 1) (by omega) (by omega)]; exact g1_13
  have g2_14 : F_14 (y + 2) = (0, 124, fun _ => .inl 0) := by rw [o_14 (y + 2) (by omega) (by omega)]; exact g2_13
  have g3_14 : F_14 (y + 3) = (0, 124, fun _ => .inl 0) := by rw [o_14 (y + 3) (by omega) (by omega)]; exact g3_13
  have g4_14 : F_14 (y + 4) = (0, 124, fun _ => .inl 0) := by rw [o_14 (y + 4) (by omega) (by omega)]; exact g4_13
  have g5_14 : F_14 (y + 5) = (0, 8, fun _ => .inl 0) := by rw [o_14 (y + 5) (by omega) (by omega)]; exact g5_13
  have g6_14 : F_14 (y + 6) = (0, 8, fun _ => .inl 0) := by rw [o_14 (y + 6) (by omega) (by omega)]; exact g6_13
  have g7_14 : F_14 (y + 7) = (0, 320, fun _ => .inl 0) := by rw [o_14 (y + 7) (by omega) (by omega)]; exact g7_13
  have g8_14 : F_14 (y + 8) = (0, 320, fun _ => .inl 0) := by rw [o_14 (y + 8) (by omega) (by omega)]; exact g8_13
  have g9_14 : F_14 (y + 9) = (2, 320, fun _ => .inl 2) := by rw [o_14 (y + 9) (by omega) (by omega)]; exact g9_13
  have g10_14 : F_14 (y + 10) = (0, 8, fun _ => .inl 0) := by rw [o_14 (y + 10) (by omega) (by omega)]; exact g10_13
  have g11_14 : F_14 (y + 11) = (1, 8, fun _ => .inl 0) := by rw [o_14 (y + 11) (by omega) (by omega)]; exact g11_13
  have g12_14 : F_14 (y + 12) = (0, 8, fun _ => .inl 0) := by rw [o_14 (y + 12) (by omega) (by omega)]; exact g12_13
  have g13_14 : F_14 (y + 13) = (1, 4, fun _ => .inl 0) := by rw [o_14 (y + 13) (by omega) (by omega)]; exact g13_13
  have g14_14 : F_14 (y + 14) = (0, 105, fun _ => .inl 0) := a_14
  have f0_14 : ∀ a, a < y → F_14 a = F a := fun a ha => (o_14 a (by omega) (by omega)).trans (f0_13 a ha)
  have t_14 : c_14 y 10 = 0 := by rw [u_14 y (by omega)]; exact t_13
  have s_14 : aq_sm (fun a => y ≤ a) c c_14 := fun a ha i => (u_14 a (by omega) i).trans (s_13 a ha i)
  have r_14 : c_14 y 9 = 2 := by rw [u_14 y (by omega)]; exact r_13
  have z3_14 : ∀ j, c_14 (y + 3) j = 0 := fun j => by rw [u_14 (y + 3) (by omega)]; exact z3_13 j
  have z6_14 : ∀ j, c_14 (y + 6) j = 0 := fun j => by rw [u_14 (y + 6) (by omega)]; exact z6_13 j
  refine am_E.go (t2 := (125, [vR y, vU, vU], [vR y], aq_h (y + 15) (s + 2473) F_14 c_14)) rfl rfl ?_
  refine am_E.go (t2 := (127, [vR y, vU, vU], [vI 42, vR y], aq_h (y + 15) (s + 2473) F_14 c_14)) rfl rfl ?_
  refine aq_step (o := y) (n := 42) rfl rfl hy_14 (by omega) (by decide) rfl (by decide) rfl (by decide) (fun F_15 c_15 hy_15 a_15 o_15 z_15 u_15 => ?_)
  show am_E _ (132, [vR y, vU, vU], [], aq_h (y + 16) (s + 2515) F_15 c_15) _
  have g1_15 : F_15 (y + 1) = (0, 992, fun _ => .inl 0) := by rw [o_15 (y + 1) (by omega) (by omega)]; exact g1_14
  have g2_15 : F_15 (y + 2) = (0, 124, fun _ => .inl 0) := by rw [o_15 (y + 2) (by omega) (by omega)]; exact g2_14
  have g3_15 : F_15 (y + 3) = (0, 124, fun _ => .inl 0) := by rw [o_15 (y + 3) (by omega) (by omega)]; exact g3_14
  have g4_15 : F_15 (y + 4) = (0, 124, fun _ => .inl 0) := by rw [o_15 (y + 4) (by omega) (by omega)]; exact g4_14
  have g5_15 : F_15 (y + 5) = (0, 8, fun _ => .inl 0) := by rw [o_15 (y + 5) (by omega) (by omega)]; exact g5_14
  have g6_15 : F_15 (y + 6) = (0, 8, fun _ => .inl 0) := by rw [o_15 (y + 6) (by omega) (by omega)]; exact g6_14
  have g7_15 : F_15 (y + 7) = (0, 320, fun _ => .inl 0) := by rw [o_15 (y + 7) (by omega) (by omega)]; exact g7_14
  have g8_15 : F_15 (y + 8) = (0, 320, fun _ => .inl 0) := by rw [o_15 (y + 8) (by omega) (by omega)]; exact g8_14
  have g9_15 : F_15 (y + 9) = (2, 320, fun _ => .inl 2) := by rw [o_15 (y + 9) (by omega) (by omega)]; exact g9_14
  have g10_15 : F_15 (y + 10) = (0, 8, fun _ => .inl 0) := by rw [o_15 (y + 10) (by omega) (by omega)]; exact g10_14
  have g11_15 : F_15 (y + 11) = (1, 8, fun _ => .inl 0) := by rw [o_15 (y + 11) (by omega) (by omega)]; exact g11_14
  have g12_15 : F_15 (y + 12) = (0, 8, fun _ => .inl 0) := by rw [o_15 (y + 12) (by omega) (by omega)]; exact g12_14
  have g13_15 : F_15 (y + 13) = (1, 4, fun _ => .inl 0) := by rw [o_15 (y + 13) (by omega) (by omega)]; exact g13_14
  have g14_15 : F_15 (y + 14) = (0, 105, fun _ => .inl 0) := by rw [o_15 (y + 14) (by omega) (by omega)]; exact g14_14
  have g15_15 : F_15 (y + 15) = (0, 42, fun _ => .inl 0) := a_15
  have f0_15 : ∀ a, a < y → F_15 a = F a := fun a ha => (o_15 a (by omega) (by omega)).trans (f0_14 a ha)
  have t_15 : c_15 y 10 = 0 := by rw [u_15 y (by omega)]; exact t_14
  have s_15 : aq_sm (fun a => y ≤ a) c c_15 := fun a ha i => (u_15 a (by omega) i).trans (s_14 a ha i)
  have r_15 : c_15 y 9 = 2 := by rw [u_15 y (by omega)]; exact r_14
  have z3_15 : ∀ j, c_15 (y + 3) j = 0 := fun j => by rw [u_15 (y + 3) (by omega)]; exact z3_14 j
  have z6_15 : ∀ j, c_15 (y + 6) j = 0 := fun j => by rw [u_15 (y + 6) (by omega)]; exact z6_14 j
  refine am_E.go (t2 := (133, [vR y, vU, vU], [vR y], aq_h (y + 16) (s + 2515) F_15 c_15)) rfl rfl ?_
  refine am_E.go (t2 := (135, [vR y, vU, vU], [vI 42, vR y], aq_h (y + 16) (s + 2515) F_15 c_15)) rfl rfl ?_
  refine aq_step (o := y) (n := 42) rfl rfl hy_15 (by omega) (by decide) rfl (by decide) rfl (by decide) (fun F_16 c_16 hy_16 a_16 o_16 z_16 u_16 => ?_)
  show am_E _ (140, [vR y, vU, vU], [], aq_h (y + 17) (s + 2557) F_16 c_16) _
  have g1_16 : F_16 (y + 1) = (0, 992, fun _ => .inl 0) := by rw [o_16 (y + 1) (by omega) (by omega)]; exact g1_15
  have g2_16 : F_16 (y + 2) = (0, 124, fun _ => .inl 0) := by rw [o_16 (y + 2) (by omega) (by omega)]; exact g2_15
  have g3_16 : F_16 (y + 3) = (0, 124, fun _ => .inl 0) := by rw [o_16 (y + 3) (by omega) (by omega)]; exact g3_15
  have g4_16 : F_16 (y + 4) = (0, 124, fun _ => .inl 0) := by rw [o_16 (y + 4) (by omega) (by omega)]; exact g4_15
  have g5_16 : F_16 (y + 5) = (0, 8, fun _ => .inl 0) := by rw [o_16 (y + 5) (by omega) (by omega)]; exact g5_15
  have g6_16 : F_16 (y + 6) = (0, 8, fun _ => .inl 0) := by rw [o_16 (y + 6) (by omega) (by omega)]; exact g6_15
  have g7_16 : F_16 (y + 7) = (0, 320, fun _ => .inl 0) := by rw [o_16 (y + 7) (by omega) (by omega)]; exact g7_15
  have g8_16 : F_16 (y + 8) = (0, 320, fun _ => .inl 0) := by rw [o_16 (y + 8) (by omega) (by omega)]; exact g8_15
  have g9_16 : F_16 (y + 9) = (2, 320, fun _ => .inl 2) := by rw [o_16 (y + 9) (by omega) (by omega)]; exact g9_15
  have g10_16 : F_16 (y + 10) = (0, 8, fun _ => .inl 0) := by rw [o_16 (y + 10) (by omega) (by omega)]; exact g10_15
  have g11_16 : F_16 (y + 11) = (1, 8, fun _ => .inl 0) := by rw [o_16 (y + 11) (by omega) (by omega)]; exact g11_15
  have g12_16 : F_16 (y + 12) = (0, 8, fun _ => .inl 0) := by rw [o_16 (y + 12) (by omega) (by omega)]; exact g12_15
  have g13_16 : F_16 (y + 13) = (1, 4, fun _ => .inl 0) := by rw [o_16 (y + 13) (by omega) (by omega)]; exact g13_15
  have g14_16 : F_16 (y + 14) = (0, 105, fun _ => .inl 0) := by rw [o_16 (y + 14) (by omega) (by omega)]; exact g14_15
  have g15_16 : F_16 (y + 15) = (0, 42, fun _ => .inl 0) := by rw [o_16 (y + 15) (by omega) (by omega)]; exact g15_15
  have g16_16 : F_16 (y + 16) = (0, 42, fun _ => .inl 0) := a_16
  have f0_16 : ∀ a, a < y → F_16 a = F a := fun a ha => (o_16 a (by omega) (by omega)).trans (f0_15 a ha)
  have t_16 : c_16 y 10 = 0 := by rw [u_16 y (by omega)]; exact t_15
  have s_16 : aq_sm (fun a => y ≤ a) c c_16 := fun a ha i => (u_16 a (by omega) i).trans (s_15 a ha i)
  have r_16 : c_16 y 9 = 2 := by rw [u_16 y (by omega)]; exact r_15
  have z3_16 : ∀ j, c_16 (y + 3) j = 0 := fun j => by rw [u_16 (y + 3) (by omega)]; exact z3_15 j
  have z6_16 : ∀ j, c_16 (y + 6) j = 0 := fun j => by rw [u_16 (y + 6) (by omega)]; exact z6_15 j
  refine am_E.go (t2 := (141, [vR y, vU, vU], [vR y], aq_h (y + 17) (s + 2557) F_16 c_16)) rfl rfl ?_
  refine am_E.go (t2 := (143, [vR y, vU, vU], [vI 42, vR y], aq_h (y + 17) (s + 2557) F_16 c_16)) rfl rfl ?_
  refine aq_step (o := y) (n := 42) rfl rfl hy_16 (by omega) (by decide) rfl (by decide) rfl (by decide) (fun F_17 c_17 hy_17 a_17 o_17 z_17 u_17 => ?_)
  show am_E _ (148, [vR y, vU, vU], [], aq_h (y + 18) (s + 2599) F_17 c_17) _
  have g1_17 : F_17 (y + 1) = (0, 992, fun _ => .inl 0) := by rw [o_17 (y + 1) (by omega) (by omega)]; exact g1_16
  have g2_17 : F_17 (y + 2) = (0, 124, fun _ => .inl 0) := by rw [o_17 (y + 2) (by omega) (by omega)]; exact g2_16
  have g3_17 : F_17 (y + 3) = (0, 124, fun _ => .inl 0) := by rw [o_17 (y + 3) (by omega) (by omega)]; exact g3_16
  have g4_17 : F_17 (y + 4) = (0, 124, fun _ => .inl 0) := by rw [o_17 (y + 4) (by omega) (by omega)]; exact g4_16
  have g5_17 : F_17 (y + 5) = (0, 8, fun _ => .inl 0) := by rw [o_17 (y + 5) (by omega) (by omega)]; exact g5_16
  have g6_17 : F_17 (y + 6) = (0, 8, fun _ => .inl 0) := by rw [o_17 (y + 6) (by omega) (by omega)]; exact g6_16
  have g7_17 : F_17 (y + 7) = (0, 320, fun _ => .inl 0) := by rw [o_17 (y + 7) (by omega) (by omega)]; exact g7_16
  have g8_17 : F_17 (y + 8) = (0, 320, fun _ => .inl 0) := by rw [o_17 (y + 8) (by omega) (by omega)]; exact g8_16
  have g9_17 : F_17 (y + 9) = (2, 320, fun _ => .inl 2) := by rw [o_17 (y + 9) (by omega) (by omega)]; exact g9_16
  have g10_17 : F_17 (y + 10) = (0, 8, fun _ => .inl 0) := by rw [o_17 (y + 10) (by omega) (by omega)]; exact g10_16
  have g11_17 : F_17 (y + 11) = (1, 8, fun _ => .inl 0) := by rw [o_17 (y + 11) (by omega) (by omega)]; exact g11_16
  have g12_17 : F_17 (y + 12) = (0, 8, fun _ => .inl 0) := by rw [o_17 (y + 12) (by omega) (by omega)]; exact g12_16
  have g13_17 : F_17 (y + 13) = (1, 4, fun _ => .inl 0) := by rw [o_17 (y + 13) (by omega) (by omega)]; exact g13_16
  have g14_17 : F_17 (y + 14) = (0, 105, fun _ => .inl 0) := by rw [o_17 (y + 14) (by omega) (by omega)]; exact g14_16
  have g15_17 : F_17 (y + 15) = (0, 42, fun _ => .inl 0) := by rw [o_17 (y + 15) (by omega) (by omega)]; exact g15_16
  have g16_17 : F_17 (y + 16) = (0, 42, fun _ => .inl 0) := by rw [o_17 (y + 16) (by omega) (by omega)]; exact g16_16
  have g17_17 : F_17 (y + 17) = (2, 42, fun _ => .inl 2) := a_17
  have f0_17 : ∀ a, a < y → F_17 a = F a := fun a ha => (o_17 a (by omega) (by omega)).trans (f0_16 a ha)
  have t_17 : c_17 y 10 = 0 := by rw [u_17 y (by omega)]; exact t_16
  have s_17 : aq_sm (fun a => y ≤ a) c c_17 := fun a ha i => (u_17 a (by omega) i).trans (s_16 a ha i)
  have r_17 : c_17 y 9 = 2 := by rw [u_17 y (by omega)]; exact r_16
  have z3_17 : ∀ j, c_17 (y + 3) j = 0 := fun j => by rw [u_17 (y + 3) (by omega)]; exact z3_16 j
  have z6_17 : ∀ j, c_17 (y + 6) j = 0 := fun j => by rw [u_17 (y + 6) (by omega)]; exact z6_16 j
  refine am_E.go (t2 := (149, [vR y, vU, vU], [vR y], aq_h (y + 18) (s + 2599) F_17 c_17)) rfl rfl ?_
  refine am_E.go (t2 := (150, [vR y, vU, vU], [vI 4, vR y], aq_h (y + 18) (s + 2599) F_17 c_17)) rfl rfl ?_
  refine aq_step (o := y) (n := 4) rfl rfl hy_17 (by omega) (by decide) rfl (by decide) rfl (by decide) (fun F_18 c_18 hy_18 a_18 o_18 z_18 u_18 => ?_)
  show am_E _ (155, [vR y, vU, vU], [], aq_h (y + 19) (s + 2603) F_18 c_18) _
  have g1_18 : F_18 (y + 1) = (0, 992, fun _ => .inl 0) := by rw [o_18 (y + 1) (by omega) (by omega)]; exact g1_17
  have g2_18 : F_18 (y + 2) = (0, 124, fun _ => .inl 0) := by rw [o_18 (y + 2) (by omega) (by omega)]; exact g2_17
  have g3_18 : F_18 (y + 3) = (0, 124, fun _ => .inl 0) := by rw [o_18 (y + 3) (by omega) (by omega)]; exact g3_17
  have g4_18 : F_18 (y + 4) = (0, 124, fun _ => .inl 0) := by rw [o_18 (y + 4) (by omega) (by omega)]; exact g4_17
  have g5_18 : F_18 (y + 5) = (0, 8, fun _ => .inl 0) := by rw [o_18 (y + 5) (by omega) (by omega)]; exact g5_17
  have g6_18 : F_18 (y + 6) = (0, 8, fun _ => .inl 0) := by rw [o_18 (y + 6) (by omega) (by omega)]; exact g6_17
  have g7_18 : F_18 (y + 7) = (0, 320, fun _ => .inl 0) := by rw [o_18 (y + 7) (by omega) (by omega)]; exact g7_17
  have g8_18 : F_18 (y + 8) = (0, 320, fun _ => .inl 0) := by rw [o_18 (y + 8) (by omega) (by omega)]; exact g8_17
  have g9_18 : F_18 (y + 9) = (2, 320, fun _ => .inl 2) := by rw [o_18 (y + 9) (by omega) (by omega)]; exact g9_17
  have g10_18 : F_18 (y + 10) = (0, 8, fun _ => .inl 0) := by rw [o_18 (y + 10) (by omega) (by omega)]; exact g10_17
  have g11_18 : F_18 (y + 11) = (1, 8, fun _ => .inl 0) := by rw [o_18 (y + 11) (by omega) (by omega)]; exact g11_17
  have g12_18 : F_18 (y + 12) = (0, 8, fun _ => .inl 0) := by rw [o_18 (y + 12) (by omega) (by omega)]; exact g12_17
  have g13_18 : F_18 (y + 13) = (1, 4, fun _ => .inl 0) := by rw [o_18 (y + 13) (by omega) (by omega)]; exact g13_17
  have g14_18 : F_18 (y + 14) = (0, 105, fun _ => .inl 0) := by rw [o_18 (y + 14) (by omega) (by omega)]; exact g14_17
  have g15_18 : F_18 (y + 15) = (0, 42, fun _ => .inl 0) := by rw [o_18 (y + 15) (by omega) (by omega)]; exact g15_17
  have g16_18 : F_18 (y + 16) = (0, 42, fun _ => .inl 0) := by rw [o_18 (y + 16) (by omega) (by omega)]; exact g16_17
  have g17_18 : F_18 (y + 17) = (2, 42, fun _ => .inl 2) := by rw [o_18 (y + 17) (by omega) (by omega)]; exact g17_17
  have g18_18 : F_18 (y + 18) = (0, 4, fun _ => .inl 0) := a_18
  have f0_18 : ∀ a, a < y → F_18 a = F a := fun a ha => (o_18 a (by omega) (by omega)).trans (f0_17 a ha)
  have t_18 : c_18 y 10 = 0 := by rw [u_18 y (by omega)]; exact t_17
  have s_18 : aq_sm (fun a => y ≤ a) c c_18 := fun a ha i => (u_18 a (by omega) i).trans (s_17 a ha i)
  have r_18 : c_18 y 9 = 2 := by rw [u_18 y (by omega)]; exact r_17
  have z3_18 : ∀ j, c_18 (y + 3) j = 0 := fun j => by rw [u_18 (y + 3) (by omega)]; exact z3_17 j
  have z6_18 : ∀ j, c_18 (y + 6) j = 0 := fun j => by rw [u_18 (y + 6) (by omega)]; exact z6_17 j
  refine am_E.go (t2 := (156, [vR y, vU, vU], [vR y], aq_h (y + 19) (s + 2603) F_18 c_18)) rfl rfl ?_
  refine am_E.go (t2 := (157, [vR y, vU, vU], [vI 4, vR y], aq_h (y + 19) (s + 2603) F_18 c_18)) rfl rfl ?_
  refine aq_step (o := y) (n := 4) rfl rfl hy_18 (by omega) (by decide) rfl (by decide) rfl (by decide) (fun F_19 c_19 hy_19 a_19 o_19 z_19 u_19 => ?_)
  show am_E _ (162, [vR y, vU, vU], [], aq_h (y + 20) (s + 2607) F_19 c_19) _
  have g1_19 : F_19 (y + 1) = (0, 992, fun _ => .inl 0) := by rw [o_19 (y + 1) (by omega) (by omega)]; exact g1_18
  have g2_19 : F_19 (y + 2) = (0, 124, fun _ => .inl 0) := by rw [o_19 (y + 2) (by omega) (by omega)]; exact g2_18
  have g3_19 : F_19 (y + 3) = (0, 124, fun _ => .inl 0) := by rw [o_19 (y + 3) (by omega) (by omega)]; exact g3_18
  have g4_19 : F_19 (y + 4) = (0, 124, fun _ => .inl 0) := by rw [o_19 (y + 4) (by omega) (by omega)]; exact g4_18
  have g5_19 : F_19 (y + 5) = (0, 8, fun _ => .inl 0) := by rw [o_19 (y + 5) (by omega) (by omega)]; exact g5_18
  have g6_19 : F_19 (y + 6) = (0, 8, fun _ => .inl 0) := by rw [o_19 (y + 6) (by omega) (by omega)]; exact g6_18
  have g7_19 : F_19 (y + 7) = (0, 320, fun _ => .inl 0) := by rw [o_19 (y + 7) (by omega) (by omega)]; exact g7_18
  have g8_19 : F_19 (y + 8) = (0, 320, fun _ => .inl 0) := by rw [o_19 (y + 8) (by omega) (by omega)]; exact g8_18
  have g9_19 : F_19 (y + 9) = (2, 320, fun _ => .inl 2) := by rw [o_19 (y + 9) (by omega) (by omega)]; exact g9_18
  have g10_19 : F_19 (y + 10) = (0, 8, fun _ => .inl 0) := by rw [o_19 (y + 10) (by omega) (by omega)]; exact g10_18
  have g11_19 : F_19 (y + 11) = (1, 8, fun _ => .inl 0) := by rw [o_19 (y + 11) (by omega) (by omega)]; exact g11_18
  have g12_19 : F_19 (y + 12) = (0, 8, fun _ => .inl 0) := by rw [o_19 (y + 12) (by omega) (by omega)]; exact g12_18
  have g13_19 : F_19 (y + 13) = (1, 4, fun _ => .inl 0) := by rw [o_19 (y + 13) (by omega) (by omega)]; exact g13_18
  have g14_19 : F_19 (y + 14) = (0, 105, fun _ => .inl 0) := by rw [o_19 (y + 14) (by omega) (by omega)]; exact g14_18
  have g15_19 : F_19 (y + 15) = (0, 42, fun _ => .inl 0) := by rw [o_19 (y + 15) (by omega) (by omega)]; exact g15_18
  have g16_19 : F_19 (y + 16) = (0, 42, fun _ => .inl 0) := by rw [o_19 (y + 16) (by omega) (by omega)]; exact g16_18
  have g17_19 : F_19 (y + 17) = (2, 42, fun _ => .inl 2) := by rw [o_19 (y + 17) (by omega) (by omega)]; exact g17_18
  have g18_19 : F_19 (y + 18) = (0, 4, fun _ => .inl 0) := by rw [o_19 (y + 18) (by omega) (by omega)]; exact g18_18
  have g19_19 : F_19 (y + 19) = (0, 4, fun _ => .inl 0) := a_19
  have f0_19 : ∀ a, a < y → F_19 a = F a := fun a ha => (o_19 a (by omega) (by omega)).trans (f0_18 a ha)
  have t_19 : c_19 y 10 = 0 := by rw [u_19 y (by omega)]; exact t_18
  have s_19 : aq_sm (fun a => y ≤ a) c c_19 := fun a ha i => (u_19 a (by omega) i).trans (s_18 a ha i)
  have r_19 : c_19 y 9 = 2 := by rw [u_19 y (by omega)]; exact r_18
  have z3_19 : ∀ j, c_19 (y + 3) j = 0 := fun j => by rw [u_19 (y + 3) (by omega)]; exact z3_18 j
  have z6_19 : ∀ j, c_19 (y + 6) j = 0 := fun j => by rw [u_19 (y + 6) (by omega)]; exact z6_18 j
  refine am_E.go (t2 := (163, [vR y, vU, vU], [vR y], aq_h (y + 20) (s + 2607) F_19 c_19)) rfl rfl ?_
  refine am_E.go (t2 := (165, [vR y, vU, vU], [vI 36, vR y], aq_h (y + 20) (s + 2607) F_19 c_19)) rfl rfl ?_
  refine aq_step (o := y) (n := 36) rfl rfl hy_19 (by omega) (by decide) rfl (by decide) rfl (by decide) (fun F_20 c_20 hy_20 a_20 o_20 z_20 u_20 => ?_)
  show am_E _ (170, [vR y, vU, vU], [], aq_h (y + 21) (s + 2643) F_20 c_20) _
  have g1_20 : F_20 (y + 1) = (0, 992, fun _ => .inl 0) := by rw [o_20 (y + 1) (by omega) (by omega)]; exact g1_19
  have g2_20 : F_20 (y + 2) = (0, 124, fun _ => .inl 0) := by rw [o_20 (y + 2) (by omega) (by omega)]; exact g2_19
  have g3_20 : F_20 (y + 3) = (0, 124, fun _ => .inl 0) := by rw [o_20 (y + 3) (by omega) (by omega)]; exact g3_19
  have g4_20 : F_20 (y + 4) = (0, 124, fun _ => .inl 0) := by rw [o_20 (y + 4) (by omega) (by omega)]; exact g4_19
  have g5_20 : F_20 (y + 5) = (0, 8, fun _ => .inl 0) := by rw [o_20 (y + 5) (by omega) (by omega)]; exact g5_19
  have g6_20 : F_20 (y + 6) = (0, 8, fun _ => .inl 0) := by rw [o_20 (y + 6) (by omega) (by omega)]; exact g6_19
  have g7_20 : F_20 (y + 7) = (0, 320, fun _ => .inl 0) := by rw [o_20 (y + 7) (by omega) (by omega)]; exact g7_19
  have g8_20 : F_20 (y + 8) = (0, 320, fun _ => .inl 0) := by rw [o_20 (y + 8) (by omega) (by omega)]; exact g8_19
  have g9_20 : F_20 (y + 9) = (2, 320, fun _ => .inl 2) := by rw [o_20 (y + 9) (by omega) (by omega)]; exact g9_19
  have g10_20 : F_20 (y + 10) = (0, 8, fun _ => .inl 0) := by rw [o_20 (y + 10) (by omega) (by omega)]; exact g10_19
  have g11_20 : F_20 (y + 11) = (1, 8, fun _ => .inl 0) := by rw [o_20 (y + 11) (by omega) (by omega)]; exact g11_19
  have g12_20 : F_20 (y + 12) = (0, 8, fun _ => .inl 0) := by rw [o_20 (y + 12) (by omega) (by omega)]; exact g12_19
  have g13_20 : F_20 (y + 13) = (1, 4, fun _ => .inl 0) := by rw [o_20 (y + 13) (by omega) (by omega)]; exact g13_19
  have g14_20 : F_20 (y + 14) = (0, 105, fun _ => .inl 0) := by rw [o_20 (y + 14) (by omega) (by omega)]; exact g14_19
  have g15_20 : F_20 (y + 15) = (0, 42, fun _ => .inl 0) := by rw [o_20 (y + 15) (by omega) (by omega)]; exact g15_19
  have g16_20 : F_20 (y + 16) = (0, 42, fun _ => .inl 0) := by rw [o_20 (y + 16) (by omega) (by omega)]; exact g16_19
  have g17_20 : F_20 (y + 17) = (2, 42, fun _ => .inl 2) := by rw [o_20 (y + 17) (by omega) (by omega)]; exact g17_19
  have g18_20 : F_20 (y + 18) = (0, 4, fun _ => .inl 0) := by rw [o_20 (y + 18) (by omega) (by omega)]; exact g18_19
  have g19_20 : F_20 (y + 19) = (0, 4, fun _ => .inl 0) := by rw [o_20 (y + 19) (by omega) (by omega)]; exact g19_19
  have g20_20 : F_20 (y + 20) = (0, 36, fun _ => .inl 0) := a_20
  have f0_20 : ∀ a, a < y → F_20 a = F a := fun a ha => (o_20 a (by omega) (by omega)).trans (f0_19 a ha)
  have t_20 : c_20 y 10 = 0 := by rw [u_20 y (by omega)]; exact t_19
  have s_20 : aq_sm (fun a => y ≤ a) c c_20 := fun a ha i => (u_20 a (by omega) i).trans (s_19 a ha i)
  have r_20 : c_20 y 9 = 2 := by rw [u_20 y (by omega)]; exact r_19
  have z3_20 : ∀ j, c_20 (y + 3) j = 0 := fun j => by rw [u_20 (y + 3) (by omega)]; exact z3_19 j
  have z6_20 : ∀ j, c_20 (y + 6) j = 0 := fun j => by rw [u_20 (y + 6) (by omega)]; exact z6_19 j
  refine am_E.go (t2 := (171, [vR y, vU, vU], [vR y], aq_h (y + 21) (s + 2643) F_20 c_20)) rfl rfl ?_
  refine am_E.go (t2 := (174, [vR y, vU, vU], [vI 201, vR y], aq_h (y + 21) (s + 2643) F_20 c_20)) rfl rfl ?_
  refine aq_step (o := y) (n := 201) rfl rfl hy_20 (by omega) (by decide) rfl (by decide) rfl (by decide) (fun F_21 c_21 hy_21 a_21 o_21 z_21 u_21 => ?_)
  show am_E _ (179, [vR y, vU, vU], [], aq_h (y + 22) (s + 2844) F_21 c_21) _
  have g1_21 : F_21 (y + 1) = (0, 992, fun _ => .inl 0) := by rw [o_21 (y + 1) (by omega) (by omega)]; exact g1_20
  have g2_21 : F_21 (y + 2) = (0, 124, fun _ => .inl 0) := by rw [o_21 (y + 2) (by omega) (by omega)]; exact g2_20
  have g3_21 : F_21 (y + 3) = (0, 124, fun _ => .inl 0) := by rw [o_21 (y + 3) (by omega) (by omega)]; exact g3_20
  have g4_21 : F_21 (y + 4) = (0, 124, fun _ => .inl 0) := by rw [o_21 (y + 4) (by omega) (by omega)]; exact g4_20
  have g5_21 : F_21 (y + 5) = (0, 8, fun _ => .inl 0) := by rw [o_21 (y + 5) (by omega) (by omega)]; exact g5_20
  have g6_21 : F_21 (y + 6) = (0, 8, fun _ => .inl 0) := by rw [o_21 (y + 6) (by omega) (by omega)]; exact g6_20
  have g7_21 : F_21 (y + 7) = (0, 320, fun _ => .inl 0) := by rw [o_21 (y + 7) (by omega) (by omega)]; exact g7_20
  have g8_21 : F_21 (y + 8) = (0, 320, fun _ => .inl 0) := by rw [o_21 (y + 8) (by omega) (by omega)]; exact g8_20
  have g9_21 : F_21 (y + 9) = (2, 320, fun _ => .inl 2) := by rw [o_21 (y + 9) (by omega) (by omega)]; exact g9_20
  have g10_21 : F_21 (y + 10) = (0, 8, fun _ => .inl 0) := by rw [o_21 (y + 10) (by omega) (by omega)]; exact g10_20
  have g11_21 : F_21 (y + 11) = (1, 8, fun _ => .inl 0) := by rw [o_21 (y + 11) (by omega) (by omega)]; exact g11_20
  have g12_21 : F_21 (y + 12) = (0, 8, fun _ => .inl 0) := by rw [o_21 (y + 12) (by omega) (by omega)]; exact g12_20
  have g13_21 : F_21 (y + 13) = (1, 4, fun _ => .inl 0) := by rw [o_21 (y + 13) (by omega) (by omega)]; exact g13_20
  have g14_21 : F_21 (y + 14) = (0, 105, fun _ => .inl 0) := by rw [o_21 (y + 14) (by omega) (by omega)]; exact g14_20
  have g15_21 : F_21 (y + 15) = (0, 42, fun _ => .inl 0) := by rw [o_21 (y + 15) (by omega) (by omega)]; exact g15_20
  have g16_21 : F_21 (y + 16) = (0, 42, fun _ => .inl 0) := by rw [o_21 (y + 16) (by omega) (by omega)]; exact g16_20
  have g17_21 : F_21 (y + 17) = (2, 42, fun _ => .inl 2) := by rw [o_21 (y + 17) (by omega) (by omega)]; exact g17_20
  have g18_21 : F_21 (y + 18) = (0, 4, fun _ => .inl 0) := by rw [o_21 (y + 18) (by omega) (by omega)]; exact g18_20
  have g19_21 : F_21 (y + 19) = (0, 4, fun _ => .inl 0) := by rw [o_21 (y + 19) (by omega) (by omega)]; exact g19_20
  have g20_21 : F_21 (y + 20) = (0, 36, fun _ => .inl 0) := by rw [o_21 (y + 20) (by omega) (by omega)]; exact g20_20
  have g21_21 : F_21 (y + 21) = (0, 201, fun _ => .inl 0) := a_21
  have f0_21 : ∀ a, a < y → F_21 a = F a := fun a ha => (o_21 a (by omega) (by omega)).trans (f0_20 a ha)
  have t_21 : c_21 y 10 = 0 := by rw [u_21 y (by omega)]; exact t_20
  have s_21 : aq_sm (fun a => y ≤ a) c c_21 := fun a ha i => (u_21 a (by omega) i).trans (s_20 a ha i)
  have r_21 : c_21 y 9 = 2 := by rw [u_21 y (by omega)]; exact r_20
  have z3_21 : ∀ j, c_21 (y + 3) j = 0 := fun j => by rw [u_21 (y + 3) (by omega)]; exact z3_20 j
  have z6_21 : ∀ j, c_21 (y + 6) j = 0 := fun j => by rw [u_21 (y + 6) (by omega)]; exact z6_20 j
  refine am_E.go (t2 := (180, [vR y, vU, vU], [vR y], aq_h (y + 22) (s + 2844) F_21 c_21)) rfl rfl ?_
  refine am_E.go (t2 := (183, [vR y, vU, vU], [vI 201, vR y], aq_h (y + 22) (s + 2844) F_21 c_21)) rfl rfl ?_
  refine aq_step (o := y) (n := 201) rfl rfl hy_21 (by omega) (by decide) rfl (by decide) rfl (by decide) (fun F_22 c_22 hy_22 a_22 o_22 z_22 u_22 => ?_)
  show am_E _ (188, [vR y, vU, vU], [], aq_h (y + 23) (s + 3045) F_22 c_22) _
  have g1_22 : F_22 (y + 1) = (0, 992, fun _ => .inl 0) := by rw [o_22 (y + 1) (by omega) (by omega)]; exact g1_21
  have g2_22 : F_22 (y + 2) = (0, 124, fun _ => .inl 0) := by rw [o_22 (y + 2) (by omega) (by omega)]; exact g2_21
  have g3_22 : F_22 (y + 3) = (0, 124, fun _ => .inl 0) := by rw [o_22 (y + 3) (by omega) (by omega)]; exact g3_21
  have g4_22 : F_22 (y + 4) = (0, 124, fun _ => .inl 0) := by rw [o_22 (y + 4) (by omega) (by omega)]; exact g4_21
  have g5_22 : F_22 (y + 5) = (0, 8, fun _ => .inl 0) := by rw [o_22 (y + 5) (by omega) (by omega)]; exact g5_21
  have g6_22 : F_22 (y + 6) = (0, 8, fun _ => .inl 0) := by rw [o_22 (y + 6) (by omega) (by omega)]; exact g6_21
  have g7_22 : F_22 (y + 7) = (0, 320, fun _ => .inl 0) := by rw [o_22 (y + 7) (by omega) (by omega)]; exact g7_21
  have g8_22 : F_22 (y + 8) = (0, 320, fun _ => .inl 0) := by rw [o_22 (y + 8) (by omega) (by omega)]; exact g8_21
  have g9_22 : F_22 (y + 9) = (2, 320, fun _ => .inl 2) := by rw [o_22 (y + 9) (by omega) (by omega)]; exact g9_21
  have g10_22 : F_22 (y + 10) = (0, 8, fun _ => .inl 0) := by rw [o_22 (y + 10) (by omega) (by omega)]; exact g10_21
  have g11_22 : F_22 (y + 11) = (1, 8, fun _ => .inl 0) := by rw [o_22 (y + 11) (by omega) (by omega)]; exact g11_21
  have g12_22 : F_22 (y + 12) = (0, 8, fun _ => .inl 0) := by rw [o_22 (y + 12) (by omega) (by omega)]; exact g12_21
  have g13_22 : F_22 (y + 13) = (1, 4, fun _ => .inl 0) := by rw [o_22 (y + 13) (by omega) (by omega)]; exact g13_21
  have g14_22 : F_22 (y + 14) = (0, 105, fun _ => .inl 0) := by rw [o_22 (y + 14) (by omega) (by omega)]; exact g14_21
  have g15_22 : F_22 (y + 15) = (0, 42, fun _ => .inl 0) := by rw [o_22 (y + 15) (by omega) (by omega)]; exact g15_21
  have g16_22 : F_22 (y + 16) = (0, 42, fun _ => .inl 0) := by rw [o_22 (y + 16) (by omega) (by omega)]; exact g16_21
  have g17_22 : F_22 (y + 17) = (2, 42, fun _ => .inl 2) := by rw [o_22 (y + 17) (by omega) (by omega)]; exact g17_21
  have g18_22 : F_22 (y + 18) = (0, 4, fun _ => .inl 0) := by rw [o_22 (y + 18) (by omega) (by omega)]; exact g18_21
  have g19_22 : F_22 (y + 19) = (0, 4, fun _ => .inl 0) := by rw [o_22 (y + 19) (by omega) (by omega)]; exact g19_21
  have g20_22 : F_22 (y + 20) = (0, 36, fun _ => .inl 0) := by rw [o_22 (y + 20) (by omega) (by omega)]; exact g20_21
  have g21_22 : F_22 (y + 21) = (0, 201, fun _ => .inl 0) := by rw [o_22 (y + 21) (by omega) (by omega)]; exact g21_21
  have g22_22 : F_22 (y + 22) = (0, 201, fun _ => .inl 0) := a_22
  have f0_22 : ∀ a, a < y → F_22 a = F a := fun a ha => (o_22 a (by omega) (by omega)).trans (f0_21 a ha)
  have t_22 : c_22 y 10 = 0 := by rw [u_22 y (by omega)]; exact t_21
  have s_22 : aq_sm (fun a => y ≤ a) c c_22 := fun a ha i => (u_22 a (by omega) i).trans (s_21 a ha i)
  have r_22 : c_22 y 9 = 2 := by rw [u_22 y (by omega)]; exact r_21
  have z3_22 : ∀ j, c_22 (y + 3) j = 0 := fun j => by rw [u_22 (y + 3) (by omega)]; exact z3_21 j
  have z6_22 : ∀ j, c_22 (y + 6) j = 0 := fun j => by rw [u_22 (y + 6) (by omega)]; exact z6_21 j
  refine am_E.go (t2 := (189, [vR y, vU, vU], [vR y], aq_h (y + 23) (s + 3045) F_22 c_22)) rfl rfl ?_
  refine am_E.go (t2 := (192, [vR y, vU, vU], [vI 201, vR y], aq_h (y + 23) (s + 3045) F_22 c_22)) rfl rfl ?_
  refine aq_step (o := y) (n := 201) rfl rfl hy_22 (by omega) (by decide) rfl (by decide) rfl (by decide) (fun F_23 c_23 hy_23 a_23 o_23 z_23 u_23 => ?_)
  show am_E _ (197, [vR y, vU, vU], [], aq_h (y + 24) (s + 3246) F_23 c_23) _
  have g1_23 : F_23 (y + 1) = (0, 992, fun _ => .inl 0) := by rw [o_23 (y + 1) (by omega) (by omega)]; exact g1_22
  have g2_23 : F_23 (y + 2) = (0, 124, fun _ => .inl 0) := by rw [o_23 (y + 2) (by omega) (by omega)]; exact g2_22
  have g3_23 : F_23 (y + 3) = (0, 124, fun _ => .inl 0) := by rw [o_23 (y + 3) (by omega) (by omega)]; exact g3_22
  have g4_23 : F_23 (y + 4) = (0, 124, fun _ => .inl 0) := by rw [o_23 (y + 4) (by omega) (by omega)]; exact g4_22
  have g5_23 : F_23 (y + 5) = (0, 8, fun _ => .inl 0) := by rw [o_23 (y + 5) (by omega) (by omega)]; exact g5_22
  have g6_23 : F_23 (y + 6) = (0, 8, fun _ => .inl 0) := by rw [o_23 (y + 6) (by omega) (by omega)]; exact g6_22
  have g7_23 : F_23 (y + 7) = (0, 320, fun _ => .inl 0) := by rw [o_23 (y + 7) (by omega) (by omega)]; exact g7_22
  have g8_23 : F_23 (y + 8) = (0, 320, fun _ => .inl 0) := by rw [o_23 (y + 8) (by omega) (by omega)]; exact g8_22
  have g9_23 : F_23 (y + 9) = (2, 320, fun _ => .inl 2) := by rw [o_23 (y + 9) (by omega) (by omega)]; exact g9_22
  have g10_23 : F_23 (y + 10) = (0, 8, fun _ => .inl 0) := by rw [o_23 (y + 10) (by omega) (by omega)]; exact g10_22
  have g11_23 : F_23 (y + 11) = (1, 8, fun _ => .inl 0) := by rw [o_23 (y + 11) (by omega) (by omega)]; exact g11_22
  have g12_23 : F_23 (y + 12) = (0, 8, fun _ => .inl 0) := by rw [o_23 (y + 12) (by omega) (by omega)]; exact g12_22
  have g13_23 : F_23 (y + 13) = (1, 4, fun _ => .inl 0) := by rw [o_23 (y + 13) (by omega) (by omega)]; exact g13_22
  have g14_23 : F_23 (y + 14) = (0, 105, fun _ => .inl 0) := by rw [o_23 (y + 14) (by omega) (by omega)]; exact g14_22
  have g15_23 : F_23 (y + 15) = (0, 42, fun _ => .inl 0) := by rw [o_23 (y + 15) (by omega) (by omega)]; exact g15_22
  have g16_23 : F_23 (y + 16) = (0, 42, fun _ => .inl 0) := by rw [o_23 (y + 16) (by omega) (by omega)]; exact g16_22
  have g17_23 : F_23 (y + 17) = (2, 42, fun _ => .inl 2) := by rw [o_23 (y + 17) (by omega) (by omega)]; exact g17_22
  have g18_23 : F_23 (y + 18) = (0, 4, fun _ => .inl 0) := by rw [o_23 (y + 18) (by omega) (by omega)]; exact g18_22
  have g19_23 : F_23 (y + 19) = (0, 4, fun _ => .inl 0) := by rw [o_23 (y + 19) (by omega) (by omega)]; exact g19_22
  have g20_23 : F_23 (y + 20) = (0, 36, fun _ => .inl 0) := by rw [o_23 (y + 20) (by omega) (by omega)]; exact g20_22
  have g21_23 : F_23 (y + 21) = (0, 201, fun _ => .inl 0) := by rw [o_23 (y + 21) (by omega) (by omega)]; exact g21_22
  have g22_23 : F_23 (y + 22) = (0, 201, fun _ => .inl 0) := by rw [o_23 (y + 22) (by omega) (by omega)]; exact g22_22
  have g23_23 : F_23 (y + 23) = (0, 201, fun _ => .inl 0) := a_23
  have f0_23 : ∀ a, a < y → F_23 a = F a := fun a ha => (o_23 a (by omega) (by omega)).trans (f0_22 a ha)
  have t_23 : c_23 y 10 = 0 := by rw [u_23 y (by omega)]; exact t_22
  have s_23 : aq_sm (fun a => y ≤ a) c c_23 := fun a ha i => (u_23 a (by omega) i).trans (s_22 a ha i)
  have r_23 : c_23 y 9 = 2 := by rw [u_23 y (by omega)]; exact r_22
  have z3_23 : ∀ j, c_23 (y + 3) j = 0 := fun j => by rw [u_23 (y + 3) (by omega)]; exact z3_22 j
  have z6_23 : ∀ j, c_23 (y + 6) j = 0 := fun j => by rw [u_23 (y + 6) (by omega)]; exact z6_22 j
  have et : am_up (am_up (am_up (am_up (am_up (am_up (am_up (am_up (am_up (am_up (am_up (am_up (am_up (am_up (am_up (am_up (am_up (am_up (am_up (am_up (am_up (am_up (am_up (mo_t0) 0 (.inr (vR (y + 1)))) 1 (.inr (vR (y + 2)))) 2 (.inr (vR (y + 3)))) 3 (.inr (vR (y + 4)))) 4 (.inr (vR (y + 5)))) 5 (.inr (vR (y + 6)))) 6 (.inr (vR (y + 7)))) 7 (.inr (vR (y + 8)))) 8 (.inr (vR (y + 9)))) 11 (.inr (vR (y + 10)))) 12 (.inr (vR (y + 11)))) 13 (.inr (vR (y + 12)))) 14 (.inr (vR (y + 13)))) 16 (.inr (vR (y + 14)))) 18 (.inr (vR (y + 15)))) 19 (.inr (vR (y + 16)))) 20 (.inr (vR (y + 17)))) 21 (.inr (vR (y + 18)))) 22 (.inr (vR (y + 19)))) 23 (.inr (vR (y + 20)))) 24 (.inr (vR (y + 21)))) 25 (.inr (vR (y + 22)))) 26 (.inr (vR (y + 23))) = mo_t y := by
    funext k
    have hk : k = 0 ∨ k = 1 ∨ k = 2 ∨ k = 3 ∨ k = 4 ∨ k = 5 ∨ k = 6 ∨ k = 7 ∨ k = 8 ∨ k = 9 ∨ k = 10 ∨ k = 11 ∨ k = 12 ∨ k = 13 ∨ k = 14 ∨ k = 15 ∨ k = 16 ∨ k = 17 ∨ k = 18 ∨ k = 19 ∨ k = 20 ∨ k = 21 ∨ k = 22 ∨ k = 23 ∨ k = 24 ∨ k = 25 ∨ k = 26 ∨ 27 ≤ k := by omega
    rcases hk with hk | hk | hk | hk | hk | hk | hk | hk | hk | hk | hk | hk | hk | hk | hk | hk | hk | hk | hk | hk | hk | hk | hk | hk | hk | hk | hk | hk
    · subst hk; rfl
    · subst hk; rfl
    · subst hk; rfl
    · subst hk; rfl
    · subst hk; rfl
    · subst hk; rfl
    · subst hk; rfl
    · subst hk; rfl
    · subst hk; rfl
    · subst hk; rfl
    · subst hk; rfl
    · subst hk; rfl
    · subst hk; rfl
    · subst hk; rfl
    · subst hk; rfl
    · subst hk; rfl
    · subst hk; rfl
    · subst hk; rfl
    · subst hk; rfl
    · subst hk; rfl
    · subst hk; rfl
    · subst hk; rfl
    · subst hk; rfl
    · subst hk; rfl
    · subst hk; rfl
    · subst hk; rfl
    · subst hk; rfl
    · obtain ⟨j, rfl⟩ : ∃ j, k = j + 27 := ⟨k - 27, by omega⟩
      repeat rw [am_up_n (by omega)]
      rfl
  have hyy : F_23 y = (15, 27, mo_t y) := by rw [← et]; exact hy_23
  refine am_E.go (t2 := (198, [vR y, vU, vU], [vI 0], aq_h (y + 24) (s + 3246) F_23 c_23)) rfl rfl ?_
  refine am_E.go (t2 := (199, [vR y, vI 0, vU], [], aq_h (y + 24) (s + 3246) F_23 c_23)) rfl rfl ?_
  exact qm_ini_s ⟨Nat.le_refl _, hyy, g5_23, g6_23, g7_23, g8_23, g9_23, g10_23, g11_23, g12_23, g13_23, g14_23, g15_23, g16_23, g17_23, g18_23, g19_23, g20_23, g21_23, g22_23, g23_23⟩ f0_23 g1_23 g2_23 g3_23 g4_23 10 0 _ c_23 s_23 (by omega) (by omega) ⟨r_23, t_23⟩ (fun s5 k0 k1 => absurd k1 (by omega)) z6_23 z3_23 (by omega)

theorem sh_r0 (w : Int) : am_shrL w 0 = ((Int64.ofInt w).toBitVec.sshiftRight 0).toInt := by
  unfold am_shrL
  have e : ((Int32.ofInt 0).toInt64 &&& 63) = (0 : Int64) := by decide
  rw [e]
  rfl
theorem sh_u0 (w : Int) : am_ushL w 0 = ((Int64.ofInt w).toBitVec >>> 0).toInt := by
  unfold am_ushL
  have e : ((Int32.ofInt 0).toInt64.toUInt64 &&& Int64.toUInt64 63) = (0 : UInt64) := by decide
  rw [e]
  rfl
theorem nb_r0 {w : Int} (h : am_r64 w) : am_shrL w 0 = w / 1 := by
  obtain ⟨h0, h1⟩ := h
  rw [sh_r0, BitVec.toInt_sshiftRight, Int.shiftRight_eq_div_pow]
  show (BitVec.ofInt 64 w).toInt / _ = _
  rw [BitVec.toInt_ofInt, Int.bmod_def]
  split <;> omega
theorem nb_u0 {w : Int} (h : am_r64 w) : am_ushL w 0 % 4294967296 = (w % 18446744073709551616) / 1 % 4294967296 ∧ (am_ushL w 0 = 0 ↔ (w % 18446744073709551616) / 1 = 0) := by
  obtain ⟨h0, h1⟩ := h
  rw [sh_u0, BitVec.toInt_eq_toNat_cond, BitVec.toNat_ushiftRight, Nat.shiftRight_eq_div_pow]
  have h4 : (Int64.ofInt w).toBitVec.toNat = (w % 18446744073709551616).toNat := by
    show (BitVec.ofInt 64 w).toNat = _
    rw [BitVec.toNat_ofInt]
    rfl
  rw [h4]
  split <;> omega

theorem sh_r4 (w : Int) : am_shrL w 4 = ((Int64.ofInt w).toBitVec.sshiftRight 4).toInt := by
  unfold am_shrL
  have e : ((Int32.ofInt 4).toInt64 &&& 63) = (4 : Int64) := by decide
  rw [e]
  rfl
theorem sh_u4 (w : Int) : am_ushL w 4 = ((Int64.ofInt w).toBitVec >>> 4).toInt := by
  unfold am_ushL
  have e : ((Int32.ofInt 4).toInt64.toUInt64 &&& Int64.toUInt64 63) = (4 : UInt64) := by decide
  rw [e]
  rfl
theorem nb_r4 {w : Int} (h : am_r64 w) : am_shrL w 4 = w / 16 := by
  obtain ⟨h0, h1⟩ := h
  rw [sh_r4, BitVec.toInt_sshiftRight, Int.shiftRight_eq_div_pow]
  show (BitVec.ofInt 64 w).toInt / _ = _
  rw [BitVec.toInt_ofInt, Int.bmod_def]
  split <;> omega
theorem nb_u4 {w : Int} (h : am_r64 w) : am_ushL w 4 % 4294967296 = (w % 18446744073709551616) / 16 % 4294967296 ∧ (am_ushL w 4 = 0 ↔ (w % 18446744073709551616) / 16 = 0) := by
  obtain ⟨h0, h1⟩ := h
  rw [sh_u4, BitVec.toInt_eq_toNat_cond, BitVec.toNat_ushiftRight, Nat.shiftRight_eq_div_pow]
  have h4 : (Int64.ofInt w).toBitVec.toNat = (w % 18446744073709551616).toNat := by
    show (BitVec.ofInt 64 w).toNat = _
    rw [BitVec.toNat_ofInt]
    rfl
  rw [h4]
  split <;> omega

theorem sh_r8 (w : Int) : am_shrL w 8 = ((Int64.ofInt w).toBitVec.sshiftRight 8).toInt := by
  unfold am_shrL
  have e : ((Int32.ofInt 8).toInt64 &&& 63) = (8 : Int64) := by decide
  rw [e]
  rfl
theorem sh_u8 (w : Int) : am_ushL w 8 = ((Int64.ofInt w).toBitVec >>> 8).toInt := by
  unfold am_ushL
  have e : ((Int32.ofInt 8).toInt64.toUInt64 &&& Int64.toUInt64 63) = (8 : UInt64) := by decide
  rw [e]
  rfl
theorem nb_r8 {w : Int} (h : am_r64 w) : am_shrL w 8 = w / 256 := by
  obtain ⟨h0, h1⟩ := h
  rw [sh_r8, BitVec.toInt_sshiftRight, Int.shiftRight_eq_div_pow]
  show (BitVec.ofInt 64 w).toInt / _ = _
  rw [BitVec.toInt_ofInt, Int.bmod_def]
  split <;> omega
theorem nb_u8 {w : Int} (h : am_r64 w) : am_ushL w 8 % 4294967296 = (w % 18446744073709551616) / 256 % 4294967296 ∧ (am_ushL w 8 = 0 ↔ (w % 18446744073709551616) / 256 = 0) := by
  obtain ⟨h0, h1⟩ := h
  rw [sh_u8, BitVec.toInt_eq_toNat_cond, BitVec.toNat_ushiftRight, Nat.shiftRight_eq_div_pow]
  have h4 : (Int64.ofInt w).toBitVec.toNat = (w % 18446744073709551616).toNat := by
    show (BitVec.ofInt 64 w).toNat = _
    rw [BitVec.toNat_ofInt]
    rfl
  rw [h4]
  split <;> omega

theorem sh_r12 (w : Int) : am_shrL w 12 = ((Int64.ofInt w).toBitVec.sshiftRight 12).toInt := by
  unfold am_shrL
  have e : ((Int32.ofInt 12).toInt64 &&& 63) = (12 : Int64) := by decide
  rw [e]
  rfl
theorem sh_u12 (w : Int) : am_ushL w 12 = ((Int64.ofInt w).toBitVec >>> 12).toInt := by
  unfold am_ushL
  have e : ((Int32.ofInt 12).toInt64.toUInt64 &&& Int64.toUInt64 63) = (12 : UInt64) := by decide
  rw [e]
  rfl
theorem nb_r12 {w : Int} (h : am_r64 w) : am_shrL w 12 = w / 4096 := by
  obtain ⟨h0, h1⟩ := h
  rw [sh_r12, BitVec.toInt_sshiftRight, Int.shiftRight_eq_div_pow]
  show (BitVec.ofInt 64 w).toInt / _ = _
  rw [BitVec.toInt_ofInt, Int.bmod_def]
  split <;> omega
theorem nb_u12 {w : Int} (h : am_r64 w) : am_ushL w 12 % 4294967296 = (w % 18446744073709551616) / 4096 % 4294967296 ∧ (am_ushL w 12 = 0 ↔ (w % 18446744073709551616) / 4096 = 0) := by
  obtain ⟨h0, h1⟩ := h
  rw [sh_u12, BitVec.toInt_eq_toNat_cond, BitVec.toNat_ushiftRight, Nat.shiftRight_eq_div_pow]
  have h4 : (Int64.ofInt w).toBitVec.toNat = (w % 18446744073709551616).toNat := by
    show (BitVec.ofInt 64 w).toNat = _
    rw [BitVec.toNat_ofInt]
    rfl
  rw [h4]
  split <;> omega

theorem sh_r16 (w : Int) : am_shrL w 16 = ((Int64.ofInt w).toBitVec.sshiftRight 16).toInt := by
  unfold am_shrL
  have e : ((Int32.ofInt 16).toInt64 &&& 63) = (16 : Int64) := by decide
  rw [e]
  rfl
theorem sh_u16 (w : Int) : am_ushL w 16 = ((Int64.ofInt w).toBitVec >>> 16).toInt := by
  unfold am_ushL
  have e : ((Int32.ofInt 16).toInt64.toUInt64 &&& Int64.toUInt64 63) = (16 : UInt64) := by decide
  rw [e]
  rfl
theorem nb_r16 {w : Int} (h : am_r64 w) : am_shrL w 16 = w / 65536 := by
  obtain ⟨h0, h1⟩ := h
  rw [sh_r16, BitVec.toInt_sshiftRight, Int.shiftRight_eq_div_pow]
  show (BitVec.ofInt 64 w).toInt / _ = _
  rw [BitVec.toInt_ofInt, Int.bmod_def]
  split <;> omega
theorem nb_u16 {w : Int} (h : am_r64 w) : am_ushL w 16 % 4294967296 = (w % 18446744073709551616) / 65536 % 4294967296 ∧ (am_ushL w 16 = 0 ↔ (w % 18446744073709551616) / 65536 = 0) := by
  obtain ⟨h0, h1⟩ := h
  rw [sh_u16, BitVec.toInt_eq_toNat_cond, BitVec.toNat_ushiftRight, Nat.shiftRight_eq_div_pow]
  have h4 : (Int64.ofInt w).toBitVec.toNat = (w % 18446744073709551616).toNat := by
    show (BitVec.ofInt 64 w).toNat = _
    rw [BitVec.toNat_ofInt]
    rfl
  rw [h4]
  split <;> omega

theorem sh_r20 (w : Int) : am_shrL w 20 = ((Int64.ofInt w).toBitVec.sshiftRight 20).toInt := by
  unfold am_shrL
  have e : ((Int32.ofInt 20).toInt64 &&& 63) = (20 : Int64) := by decide
  rw [e]
  rfl
theorem sh_u20 (w : Int) : am_ushL w 20 = ((Int64.ofInt w).toBitVec >>> 20).toInt := by
  unfold am_ushL
  have e : ((Int32.ofInt 20).toInt64.toUInt64 &&& Int64.toUInt64 63) = (20 : UInt64) := by decide
  rw [e]
  rfl
theorem nb_r20 {w : Int} (h : am_r64 w) : am_shrL w 20 = w / 1048576 := by
  obtain ⟨h0, h1⟩ := h
  rw [sh_r20, BitVec.toInt_sshiftRight, Int.shiftRight_eq_div_pow]
  show (BitVec.ofInt 64 w).toInt / _ = _
  rw [BitVec.toInt_ofInt, Int.bmod_def]
  split <;> omega
theorem nb_u20 {w : Int} (h : am_r64 w) : am_ushL w 20 % 4294967296 = (w % 18446744073709551616) / 1048576 % 4294967296 ∧ (am_ushL w 20 = 0 ↔ (w % 18446744073709551616) / 1048576 = 0) := by
  obtain ⟨h0, h1⟩ := h
  rw [sh_u20, BitVec.toInt_eq_toNat_cond, BitVec.toNat_ushiftRight, Nat.shiftRight_eq_div_pow]
  have h4 : (Int64.ofInt w).toBitVec.toNat = (w % 18446744073709551616).toNat := by
    show (BitVec.ofInt 64 w).toNat = _
    rw [BitVec.toNat_ofInt]
    rfl
  rw [h4]
  split <;> omega

theorem sh_r24 (w : Int) : am_shrL w 24 = ((Int64.ofInt w).toBitVec.sshiftRight 24).toInt := by
  unfold am_shrL
  have e : ((Int32.ofInt 24).toInt64 &&& 63) = (24 : Int64) := by decide
  rw [e]
  rfl
theorem sh_u24 (w : Int) : am_ushL w 24 = ((Int64.ofInt w).toBitVec >>> 24).toInt := by
  unfold am_ushL
  have e : ((Int32.ofInt 24).toInt64.toUInt64 &&& Int64.toUInt64 63) = (24 : UInt64) := by decide
  rw [e]
  rfl
theorem nb_r24 {w : Int} (h : am_r64 w) : am_shrL w 24 = w / 16777216 := by
  obtain ⟨h0, h1⟩ := h
  rw [sh_r24, BitVec.toInt_sshiftRight, Int.shiftRight_eq_div_pow]
  show (BitVec.ofInt 64 w).toInt / _ = _
  rw [BitVec.toInt_ofInt, Int.bmod_def]
  split <;> omega
theorem nb_u24 {w : Int} (h : am_r64 w) : am_ushL w 24 % 4294967296 = (w % 18446744073709551616) / 16777216 % 4294967296 ∧ (am_ushL w 24 = 0 ↔ (w % 18446744073709551616) / 16777216 = 0) := by
  obtain ⟨h0, h1⟩ := h
  rw [sh_u24, BitVec.toInt_eq_toNat_cond, BitVec.toNat_ushiftRight, Nat.shiftRight_eq_div_pow]
  have h4 : (Int64.ofInt w).toBitVec.toNat = (w % 18446744073709551616).toNat := by
    show (BitVec.ofInt 64 w).toNat = _
    rw [BitVec.toNat_ofInt]
    rfl
  rw [h4]
  split <;> omega

theorem sh_r28 (w : Int) : am_shrL w 28 = ((Int64.ofInt w).toBitVec.sshiftRight 28).toInt := by
  unfold am_shrL
  have e : ((Int32.ofInt 28).toInt64 &&& 63) = (28 : Int64) := by decide
  rw [e]
  rfl
theorem sh_u28 (w : Int) : am_ushL w 28 = ((Int64.ofInt w).toBitVec >>> 28).toInt := by
  unfold am_ushL
  have e : ((Int32.ofInt 28).toInt64.toUInt64 &&& Int64.toUInt64 63) = (28 : UInt64) := by decide
  rw [e]
  rfl
theorem nb_r28 {w : Int} (h : am_r64 w) : am_shrL w 28 = w / 268435456 := by
  obtain ⟨h0, h1⟩ := h
  rw [sh_r28, BitVec.toInt_sshiftRight, Int.shiftRight_eq_div_pow]
  show (BitVec.ofInt 64 w).toInt / _ = _
  rw [BitVec.toInt_ofInt, Int.bmod_def]
  split <;> omega
theorem nb_u28 {w : Int} (h : am_r64 w) : am_ushL w 28 % 4294967296 = (w % 18446744073709551616) / 268435456 % 4294967296 ∧ (am_ushL w 28 = 0 ↔ (w % 18446744073709551616) / 268435456 = 0) := by
  obtain ⟨h0, h1⟩ := h
  rw [sh_u28, BitVec.toInt_eq_toNat_cond, BitVec.toNat_ushiftRight, Nat.shiftRight_eq_div_pow]
  have h4 : (Int64.ofInt w).toBitVec.toNat = (w % 18446744073709551616).toNat := by
    show (BitVec.ofInt 64 w).toNat = _
    rw [BitVec.toNat_ofInt]
    rfl
  rw [h4]
  split <;> omega

theorem sh_r32 (w : Int) : am_shrL w 32 = ((Int64.ofInt w).toBitVec.sshiftRight 32).toInt := by
  unfold am_shrL
  have e : ((Int32.ofInt 32).toInt64 &&& 63) = (32 : Int64) := by decide
  rw [e]
  rfl
theorem sh_u32 (w : Int) : am_ushL w 32 = ((Int64.ofInt w).toBitVec >>> 32).toInt := by
  unfold am_ushL
  have e : ((Int32.ofInt 32).toInt64.toUInt64 &&& Int64.toUInt64 63) = (32 : UInt64) := by decide
  rw [e]
  rfl
theorem nb_r32 {w : Int} (h : am_r64 w) : am_shrL w 32 = w / 4294967296 := by
  obtain ⟨h0, h1⟩ := h
  rw [sh_r32, BitVec.toInt_sshiftRight, Int.shiftRight_eq_div_pow]
  show (BitVec.ofInt 64 w).toInt / _ = _
  rw [BitVec.toInt_ofInt, Int.bmod_def]
  split <;> omega
theorem nb_u32 {w : Int} (h : am_r64 w) : am_ushL w 32 % 4294967296 = (w % 18446744073709551616) / 4294967296 % 4294967296 ∧ (am_ushL w 32 = 0 ↔ (w % 18446744073709551616) / 4294967296 = 0) := by
  obtain ⟨h0, h1⟩ := h
  rw [sh_u32, BitVec.toInt_eq_toNat_cond, BitVec.toNat_ushiftRight, Nat.shiftRight_eq_div_pow]
  have h4 : (Int64.ofInt w).toBitVec.toNat = (w % 18446744073709551616).toNat := by
    show (BitVec.ofInt 64 w).toNat = _
    rw [BitVec.toNat_ofInt]
    rfl
  rw [h4]
  split <;> omega

theorem nb_and (x : Int) : am_and x 15 = x % 16 := by
  unfold am_and
  have h2 : (Int32.ofInt x &&& Int32.ofInt 15).toInt = ((Int32.ofInt x).toBitVec &&& 15#32).toInt := rfl
  rw [h2]
  have h3 : ((Int32.ofInt x).toBitVec &&& 15#32).toNat = (Int32.ofInt x).toBitVec.toNat % 16 := by
    rw [BitVec.toNat_and]
    exact Nat.and_two_pow_sub_one_eq_mod _ 4
  have h4 : (Int32.ofInt x).toBitVec.toNat = (x % 4294967296).toNat := by
    show (BitVec.ofInt 32 x).toNat = _
    rw [BitVec.toNat_ofInt]
    rfl
  rw [BitVec.toInt_eq_toNat_cond, h3, h4]
  split <;> omega
theorem nb_andl (x : Int) : am_andl x 15 = x % 16 := by
  unfold am_andl
  have h2 : (Int64.ofInt x &&& Int64.ofInt 15).toInt = ((Int64.ofInt x).toBitVec &&& 15#64).toInt := rfl
  rw [h2]
  have h3 : ((Int64.ofInt x).toBitVec &&& 15#64).toNat = (Int64.ofInt x).toBitVec.toNat % 16 := by
    rw [BitVec.toNat_and]
    exact Nat.and_two_pow_sub_one_eq_mod _ 4
  have h4 : (Int64.ofInt x).toBitVec.toNat = (x % 18446744073709551616).toNat := by
    show (BitVec.ofInt 64 x).toNat = _
    rw [BitVec.toNat_ofInt]
    rfl
  rw [BitVec.toInt_eq_toNat_cond, h3, h4]
  split <;> omega
/-- the nibble at place j -/
def nb_ (w j : Int) : Int := w / 16 ^ j.toNat % 16
theorem nb_b (w j : Int) : 0 ≤ nb_ w j ∧ nb_ w j < 16 := by
  unfold nb_
  omega

theorem nb_c0 {w k : Int} (h : am_r64 w) (h0 : 0 ≤ k) (h3 : k < 4) : am_and (am_w (am_ushL w (8 * k))) 15 = nb_ w (2 * k) := by
  have hk : k = 0 ∨ k = 1 ∨ k = 2 ∨ k = 3 := by omega
  rcases hk with hk | hk | hk | hk <;> subst hk
  · show am_and (am_w (am_ushL w (0))) 15 = w / 16 ^ (0 : Nat) % 16
    have e := (nb_u0 h).1
    rw [nb_and]
    unfold am_w
    rw [Int.bmod_def]
    split <;> omega
  · show am_and (am_w (am_ushL w (8))) 15 = w / 16 ^ (2 : Nat) % 16
    have e := (nb_u8 h).1
    rw [nb_and]
    unfold am_w
    rw [Int.bmod_def]
    split <;> omega
  · show am_and (am_w (am_ushL w (16))) 15 = w / 16 ^ (4 : Nat) % 16
    have e := (nb_u16 h).1
    rw [nb_and]
    unfold am_w
    rw [Int.bmod_def]
    split <;> omega
  · show am_and (am_w (am_ushL w (24))) 15 = w / 16 ^ (6 : Nat) % 16
    have e := (nb_u24 h).1
    rw [nb_and]
    unfold am_w
    rw [Int.bmod_def]
    split <;> omega
theorem nb_c1 {w k : Int} (h : am_r64 w) (h0 : 0 ≤ k) (h3 : k < 4) : am_and (am_w (am_ushL w (8 * k + 4))) 15 = nb_ w (2 * k + 1) := by
  have hk : k = 0 ∨ k = 1 ∨ k = 2 ∨ k = 3 := by omega
  rcases hk with hk | hk | hk | hk <;> subst hk
  · show am_and (am_w (am_ushL w (4))) 15 = w / 16 ^ (1 : Nat) % 16
    have e := (nb_u4 h).1
    rw [nb_and]
    unfold am_w
    rw [Int.bmod_def]
    split <;> omega
  · show am_and (am_w (am_ushL w (12))) 15 = w / 16 ^ (3 : Nat) % 16
    have e := (nb_u12 h).1
    rw [nb_and]
    unfold am_w
    rw [Int.bmod_def]
    split <;> omega
  · show am_and (am_w (am_ushL w (20))) 15 = w / 16 ^ (5 : Nat) % 16
    have e := (nb_u20 h).1
    rw [nb_and]
    unfold am_w
    rw [Int.bmod_def]
    split <;> omega
  · show am_and (am_w (am_ushL w (28))) 15 = w / 16 ^ (7 : Nat) % 16
    have e := (nb_u28 h).1
    rw [nb_and]
    unfold am_w
    rw [Int.bmod_def]
    split <;> omega
theorem nb_m0 {w k : Int} (h : am_r64 w) (h0 : 0 ≤ k) (h3 : k < 4) : am_w (am_andl (am_shrL w (8 * k)) 15) = nb_ w (2 * k) := by
  have hk : k = 0 ∨ k = 1 ∨ k = 2 ∨ k = 3 := by omega
  rcases hk with hk | hk | hk | hk <;> subst hk
  · show am_w (am_andl (am_shrL w (0)) 15) = w / 16 ^ (0 : Nat) % 16
    rw [nb_andl, nb_r0 h, am_w_id (am_ri (by omega) (by omega))]
    rfl
  · show am_w (am_andl (am_shrL w (8)) 15) = w / 16 ^ (2 : Nat) % 16
    rw [nb_andl, nb_r8 h, am_w_id (am_ri (by omega) (by omega))]
    rfl
  · show am_w (am_andl (am_shrL w (16)) 15) = w / 16 ^ (4 : Nat) % 16
    rw [nb_andl, nb_r16 h, am_w_id (am_ri (by omega) (by omega))]
    rfl
  · show am_w (am_andl (am_shrL w (24)) 15) = w / 16 ^ (6 : Nat) % 16
    rw [nb_andl, nb_r24 h, am_w_id (am_ri (by omega) (by omega))]
    rfl
theorem nb_m1 {w k : Int} (h : am_r64 w) (h0 : 0 ≤ k) (h3 : k < 4) : am_w (am_andl (am_shrL w (8 * k + 4)) 15) = nb_ w (2 * k + 1) := by
  have hk : k = 0 ∨ k = 1 ∨ k = 2 ∨ k = 3 := by omega
  rcases hk with hk | hk | hk | hk <;> subst hk
  · show am_w (am_andl (am_shrL w (4)) 15) = w / 16 ^ (1 : Nat) % 16
    rw [nb_andl, nb_r4 h, am_w_id (am_ri (by omega) (by omega))]
    rfl
  · show am_w (am_andl (am_shrL w (12)) 15) = w / 16 ^ (3 : Nat) % 16
    rw [nb_andl, nb_r12 h, am_w_id (am_ri (by omega) (by omega))]
    rfl
  · show am_w (am_andl (am_shrL w (20)) 15) = w / 16 ^ (5 : Nat) % 16
    rw [nb_andl, nb_r20 h, am_w_id (am_ri (by omega) (by omega))]
    rfl
  · show am_w (am_andl (am_shrL w (28)) 15) = w / 16 ^ (7 : Nat) % 16
    rw [nb_andl, nb_r28 h, am_w_id (am_ri (by omega) (by omega))]
    rfl
/-- the long's upper part is empty -/
abbrev bo_h (n w : Int) : Prop := 0 ≤ w ∧ w < (if n = 1 then 256 else if n = 2 then 65536 else if n = 3 then 16777216 else 4294967296)
theorem bo_c {n w : Int} (h : am_r64 w) (h1 : 1 ≤ n) (h4 : n ≤ 4) : am_ushL w (8 * n) = 0 ↔ bo_h n w := by
  have hn : n = 1 ∨ n = 2 ∨ n = 3 ∨ n = 4 := by omega
  have h5 := h
  obtain ⟨g0, g1⟩ := h5
  unfold bo_h
  rcases hn with hn | hn | hn | hn <;> subst hn
  · have e := (nb_u8 h).2
    show am_ushL w 8 = 0 ↔ 0 ≤ w ∧ w < 256
    omega
  · have e := (nb_u16 h).2
    show am_ushL w 16 = 0 ↔ 0 ≤ w ∧ w < 65536
    omega
  · have e := (nb_u24 h).2
    show am_ushL w 24 = 0 ↔ 0 ≤ w ∧ w < 16777216
    omega
  · have e := (nb_u32 h).2
    show am_ushL w 32 = 0 ↔ 0 ≤ w ∧ w < 4294967296
    omega
theorem bo_m {n w : Int} (h : am_r64 w) (h1 : 1 ≤ n) (h4 : n ≤ 4) : am_shrL w (8 * n) = 0 ↔ bo_h n w := by
  have hn : n = 1 ∨ n = 2 ∨ n = 3 ∨ n = 4 := by omega
  unfold bo_h
  rcases hn with hn | hn | hn | hn <;> subst hn
  · have e := nb_r8 h
    show am_shrL w 8 = 0 ↔ 0 ≤ w ∧ w < 256
    omega
  · have e := nb_r16 h
    show am_shrL w 16 = 0 ↔ 0 ≤ w ∧ w < 65536
    omega
  · have e := nb_r24 h
    show am_shrL w 24 = 0 ↔ 0 ≤ w ∧ w < 16777216
    omega
  · have e := nb_r32 h
    show am_shrL w 32 = 0 ↔ 0 ≤ w ∧ w < 4294967296
    omega
/-- a pair more -/
def up1 (m : Int → Int) (p v : Int) : Int → Int := fun i => if i = p then v else m i
def bm_ (n w : Int) : Nat → Int → (Int → Int) → Int
  | 0, _, m => nu_o m (2 * n) 9 0 0 (2 * n - 1)
  | d + 1, k, m => if k < n then (if (nb_ w (2 * k) < 2 * n ∧ nb_ w (2 * k + 1) < 2 * n ∧ nb_ w (2 * k) ≠ nb_ w (2 * k + 1)) ∧ m (nb_ w (2 * k)) = -4 ∧ m (nb_ w (2 * k + 1)) = -4 then bm_ n w d (k + 1) (up1 (up1 m (nb_ w (2 * k)) (nb_ w (2 * k + 1))) (nb_ w (2 * k + 1)) (nb_ w (2 * k))) else -1) else nu_o m (2 * n) 9 0 0 (2 * n - 1)
/-- box's answer -/
def bo_x (n w : Int) : Int := if (1 ≤ n ∧ n ≤ 4) ∧ bo_h n w then bm_ n w 6 0 (fun _ => -4) else -1
/-- k pairs are told, each place at most once -/
def bi_ (n k : Int) (m : Int → Int) : Prop := (∀ i, 0 ≤ i → i < 2 * n → m i = -4 ∨ (0 ≤ m i ∧ m i < 2 * n ∧ m i ≠ i ∧ m (m i) = i)) ∧ fw_n m (2 * n).toNat = 2 * k
theorem bi_0 {n : Int} (h : 0 ≤ n) : bi_ n 0 (fun _ => -4) := ⟨fun _ _ _ => Or.inl rfl, by rw [fw_z _ (fun _ _ _ => rfl)]; rfl⟩
theorem bi_u {n k p q : Int} {m : Int → Int} (h : bi_ n k m) (p0 : 0 ≤ p) (p1 : p < 2 * n) (q0 : 0 ≤ q) (q1 : q < 2 * n) (hpq : p ≠ q) (hp : m p = -4) (hq : m q = -4) : bi_ n (k + 1) (up1 (up1 m p q) q p) := by
  have ep : up1 (up1 m p q) q p p = q := by
    unfold up1
    rw [if_neg hpq, if_pos rfl]
  have eq : up1 (up1 m p q) q p q = p := by
    unfold up1
    rw [if_pos rfl]
  have eo : ∀ i, i ≠ p → i ≠ q → up1 (up1 m p q) q p i = m i := fun i h1 h2 => by
    unfold up1
    rw [if_neg h2, if_neg h1]
  refine ⟨fun i i0 i1 => ?_, ?_⟩
  · by_cases e1 : i = p
    · rw [e1, ep, eq]
      exact Or.inr ⟨q0, q1, Ne.symm hpq, rfl⟩
    · by_cases e2 : i = q
      · rw [e2, eq, ep]
        exact Or.inr ⟨p0, p1, hpq, rfl⟩
      · rw [eo i e1 e2]
        rcases h.1 i i0 i1 with k1 | ⟨k1, k2, k3, k4⟩
        · exact Or.inl k1
        · refine Or.inr ⟨k1, k2, k3, ?_⟩
          rw [eo (m i) (fun q5 => by rw [q5, hp] at k4; omega) (fun q5 => by rw [q5, hq] at k4; omega)]
          exact k4
  · have a1 := fw_ne (g := m) (g2 := up1 m p q) (b := p) hp (by unfold up1; rw [if_pos rfl]; omega) (fun i hi => by unfold up1; rw [if_neg hi]) (2 * n).toNat
    have a2 := fw_ne (g := up1 m p q) (g2 := up1 (up1 m p q) q p) (b := q) (by unfold up1; rw [if_neg (Ne.symm hpq)]; exact hq) (by rw [eq]; omega) (fun i hi => by show (if i = q then p else up1 m p q i) = _; rw [if_neg hi]) (2 * n).toNat
    rw [if_pos (by omega)] at a1
    rw [if_pos (by omega)] at a2
    have := h.2
    omega
theorem fw_all {g : Int → Int} : ∀ k : Nat, fw_n g k = (k : Int) → ∀ i, 0 ≤ i → i < (k : Int) → g i ≠ -4
  | 0, _, i, i0, i1 => absurd i1 (by omega)
  | k + 1, h, i, i0, i1 => by
    rw [fw_n] at h
    have l := fw_le (g := g) k
    by_cases e : g (k : Int) = -4
    · rw [if_pos e] at h
      exfalso
      omega
    · rw [if_neg e] at h
      by_cases e2 : i = (k : Int)
      · rw [e2]; exact e
      · exact fw_all k (by omega) i i0 (by omega)
theorem bi_e {n : Int} {m : Int → Int} (h1 : 0 ≤ n) (h : bi_ n n m) : fi n m := fun p p0 p1 => by
  have a := fw_all (g := m) (2 * n).toNat (by rw [h.2]; omega) p p0 (by omega)
  exact (h.1 p p0 p1).resolve_left a

def bo_M (aS aD : Nat) (N : Int) (m : Int → Int) (c : aq_C) : Prop := ∀ i, 0 ≤ i → i < N → (m i = -4 ∧ c aS i = 0) ∨ (m i ≠ -4 ∧ c aS i = 1 ∧ c aD i = m i)
theorem bo_w {aS aD : Nat} {N p q : Int} {m : Int → Int} {c c1 c2 c3 c4 : aq_C} (hne : aS ≠ aD) (hpq : p ≠ q) (p0 : 0 ≤ p) (q0 : 0 ≤ q) (hM : bo_M aS aD N m c) (e1 : aq_u c aS p 1 = c1) (e2 : aq_u c1 aS q 1 = c2) (e3 : aq_u c2 aD p q = c3) (e4 : aq_u c3 aD q p = c4) : bo_M aS aD N (up1 (up1 m p q) q p) c4 := by
  intro i i0 i1
  have s4 : c4 aS i = c2 aS i := by rw [← e4, aq_un (Or.inl hne), ← e3, aq_un (Or.inl hne)]
  by_cases h1 : i = q
  · right
    have eu : up1 (up1 m p q) q p i = p := by unfold up1; rw [if_pos h1]
    rw [eu, s4, ← e2, ← e4, h1, aq_us, aq_us]
    exact ⟨by omega, rfl, rfl⟩
  · by_cases h2 : i = p
    · right
      have eu : up1 (up1 m p q) q p i = q := by unfold up1; rw [if_neg h1, if_pos h2]
      rw [eu, s4, ← e2, aq_un (Or.inr h1), ← e1, ← e4, aq_un (Or.inr h1), ← e3, h2, aq_us, aq_us]
      exact ⟨by omega, rfl, rfl⟩
    · have eu : up1 (up1 m p q) q p i = m i := by unfold up1; rw [if_neg h1, if_neg h2]
      rw [eu, s4, ← e2, aq_un (Or.inr h1), ← e1, aq_un (Or.inr h2), ← e4, aq_un (Or.inr h1), ← e3, aq_un (Or.inr h2), ← e2, aq_un (Or.inl (Ne.symm hne)), ← e1, aq_un (Or.inl (Ne.symm hne))]
      exact hM i i0 i1

theorem qy_ofPairs_l {m s : Nat} {F : aq_F} {c0 : aq_C} {S : Nat → Prop} {o n K : Nat} (hB : bx_0 m F o n K) (hSd : S (o + 6 + 3 * K)) (hSs : S (o + 7 + 3 * K)) {w : Int} (hw : am_r64 w) {T : Int} : ∀ (d : Nat) (mm : Int → Int) (k : Int) (v4 : am_V) (v5 : am_V) (c : aq_C) (hs : aq_sm S c0 c) (h0 : 0 ≤ k) (h1 : k ≤ (n : Int)) (hr : aq_rg (o + 6 + 3 * K) (2 * (n : Int)) 0 (2 * (n : Int)) c) (hM : bo_M (o + 7 + 3 * K) (o + 6 + 3 * K) (2 * (n : Int)) mm c) (hbi : bi_ (n : Int) k mm) (hq : bm_ (n : Int) w d k mm = T) (hd : (n : Int) - k < (d : Int)), am_E ac_X0_ofPairs (22, [vR o, vL w, vU, vI k, v4, v5], [], aq_h m s F c) (aq_Z m s F S c0 (fun r d => r = some (vI T) ∧ aq_rg (o + 6 + 3 * K) (2 * (n : Int)) 0 (2 * (n : Int)) d))
  | 0, mm, k, v4, v5, c, hs, h0, h1, hr, hM, hbi, hq, hd => by exfalso; omega
  | d + 1, mm, k, v4, v5, c, hs, h0, h1, hr, hM, hbi, hq, hd => by
    obtain ⟨hm, hn1, hn4, hK, hFo, hFd, hFs⟩ := hB
    refine am_E.go (t2 := (23, [vR o, vL w, vU, vI k, v4, v5], [vI k], aq_h m s F c)) rfl rfl ?_
    refine am_E.go (t2 := (24, [vR o, vL w, vU, vI k, v4, v5], [vR o, vI k], aq_h m s F c)) rfl rfl ?_
    refine aq_gf (v := vI (n : Int)) rfl (by omega) hFo (by decide) rfl ?_
    show am_E _ (27, [vR o, vL w, vU, vI k, v4, v5], [vI (n : Int), vI k], aq_h m s F c) _
    refine ae_icmp rfl (fun (q_1 : (n : Int) ≤ k) => ?_) (fun (q_1 : k < (n : Int)) => ?_)
    · refine am_E.go (t2 := (137, [vR o, vL w, vU, vI k, v4, v5], [vR o], aq_h m s F c)) rfl rfl ?_
      refine am_E.go (t2 := (138, [vR o, vL w, vU, vI k, v4, v5], [vR o, vR o], aq_h m s F c)) rfl rfl ?_
      refine aq_gf (v := vR (o + 6 + 3 * K)) rfl (by omega) hFo (by decide) rfl ?_
      show am_E _ (141, [vR o, vL w, vU, vI k, v4, v5], [vR (o + 6 + 3 * K), vR o], aq_h m s F c) _
      refine aq_callv (y := 2) (as2 := [vR (o + 6 + 3 * K)]) (rest := []) rfl rfl (by decide) (Nat.le_of_ble_eq_true rfl) rfl rfl (Nat.le_of_ble_eq_true rfl) (by omega) hFo rfl (Nat.le_of_ble_eq_true rfl) (qn_X0_numberOf ⟨hm, hn1, hn4, hK, hFo, hFd, hFs⟩ hr) ?_
      rintro r5 h5 ⟨rfl, rfl⟩
      show am_E _ (144, [vR o, vL w, vU, vI k, v4, v5], [vI (nu_o (c (o + 6 + 3 * K)) (2 * (n : Int)) 9 0 0 (2 * (n : Int) - 1))], aq_h m s F c) _
      refine am_E.ret rfl rfl ?_
      have ek : k = (n : Int) := by omega
      rw [ek] at hbi
      have hfi := bi_e (by omega) hbi
      refine ⟨_, rfl, hs, ?_, hr⟩
      rw [← hq, bm_, if_neg (by omega), nu_oc (N := 2 * (n : Int)) (f := c (o + 6 + 3 * K)) (g := mm) (fun i i0 i1 => by have a1 := hM i i0 i1; have a2 := hfi i i0 i1; omega) (fun i i0 i1 => by have := hr i i0 i1; omega) 9 0 0 (2 * (n : Int) - 1) (by omega)]
    · refine am_E.go (t2 := (31, [vR o, vL w, vU, vI k, v4, v5], [vL w], aq_h m s F c)) rfl rfl ?_
      refine am_E.go (t2 := (33, [vR o, vL w, vU, vI k, v4, v5], [vI 8, vL w], aq_h m s F c)) rfl rfl ?_
      refine am_E.go (t2 := (34, [vR o, vL w, vU, vI k, v4, v5], [vI k, vI 8, vL w], aq_h m s F c)) rfl rfl ?_
      refine ae_mul rfl (am_ri (by omega) (by omega)) ?_
      show am_E _ (35, [vR o, vL w, vU, vI k, v4, v5], [vI (8 * k), vL w], aq_h m s F c) _
      refine am_E.go (t2 := (36, [vR o, vL w, vU, vI k, v4, v5], [vL (am_ushL w (8 * k))], aq_h m s F c)) rfl rfl ?_
      refine am_E.go (t2 := (37, [vR o, vL w, vU, vI k, v4, v5], [vI (am_w (am_ushL w (8 * k)))], aq_h m s F c)) rfl rfl ?_
      refine am_E.go (t2 := (39, [vR o, vL w, vU, vI k, v4, v5], [vI 15, vI (am_w (am_ushL w (8 * k)))], aq_h m s F c)) rfl rfl ?_
      have e_2 := nb_c0 (w := w) (k := k) hw h0 (by omega)
      have be_2 := nb_b w (2 * k)
      refine ae_bin (z := nb_ w (2 * k)) rfl rfl (congrArg some e_2) ?_
      refine am_E.go (t2 := (42, [vR o, vL w, vU, vI k, vI (nb_ w (2 * k)), v5], [], aq_h m s F c)) rfl rfl ?_
      refine am_E.go (t2 := (43, [vR o, vL w, vU, vI k, vI (nb_ w (2 * k)), v5], [vL w], aq_h m s F c)) rfl rfl ?_
      refine am_E.go (t2 := (45, [vR o, vL w, vU, vI k, vI (nb_ w (2 * k)), v5], [vI 8, vL w], aq_h m s F c)) rfl rfl ?_
      refine am_E.go (t2 := (46, [vR o, vL w, vU, vI k, vI (nb_ w (2 * k)), v5], [vI k, vI 8, vL w], aq_h m s F c)) rfl rfl ?_
      refine ae_mul rfl (am_ri (by omega) (by omega)) ?_
      show am_E _ (47, [vR o, vL w, vU, vI k, vI (nb_ w (2 * k)), v5], [vI (8 * k), vL w], aq_h m s F c) _
      refine am_E.go (t2 := (48, [vR o, vL w, vU, vI k, vI (nb_ w (2 * k)), v5], [vI 4, vI (8 * k), vL w], aq_h m s F c)) rfl rfl ?_
      refine ae_add rfl (am_ri (by omega) (by omega)) ?_
      show am_E _ (49, [vR o, vL w, vU, vI k, vI (nb_ w (2 * k)), v5], [vI ((8 * k) + 4), vL w], aq_h m s F c) _
      refine am_E.go (t2 := (50, [vR o, vL w, vU, vI k, vI (nb_ w (2 * k)), v5], [vL (am_ushL w ((8 * k) + 4))], aq_h m s F c)) rfl rfl ?_
      refine am_E.go (t2 := (51, [vR o, vL w, vU, vI k, vI (nb_ w (2 * k)), v5], [vI (am_w (am_ushL w ((8 * k) + 4)))], aq_h m s F c)) rfl rfl ?_
      refine am_E.go (t2 := (53, [vR o, vL w, vU, vI k, vI (nb_ w (2 * k)), v5], [vI 15, vI (am_w (am_ushL w ((8 * k) + 4)))], aq_h m s F c)) rfl rfl ?_
      have e_3 := nb_c1 (w := w) (k := k) hw h0 (by omega)
      have be_3 := nb_b w (2 * k + 1)
      refine ae_bin (z := nb_ w (2 * k + 1)) rfl rfl (congrArg some e_3) ?_
      refine am_E.go (t2 := (56, [vR o, vL w, vU, vI k, vI (nb_ w (2 * k)), vI (nb_ w (2 * k + 1))], [], aq_h m s F c)) rfl rfl ?_
      refine am_E.go (t2 := (58, [vR o, vL w, vU, vI k, vI (nb_ w (2 * k)), vI (nb_ w (2 * k + 1))], [vI (nb_ w (2 * k))], aq_h m s F c)) rfl rfl ?_
      refine am_E.go (t2 := (59, [vR o, vL w, vU, vI k, vI (nb_ w (2 * k)), vI (nb_ w (2 * k + 1))], [vR o, vI (nb_ w (2 * k))], aq_h m s F c)) rfl rfl ?_
      refine aq_gf (v := vI (2 * (n : Int))) rfl (by omega) hFo (by decide) rfl ?_
      show am_E _ (62, [vR o, vL w, vU, vI k, vI (nb_ w (2 * k)), vI (nb_ w (2 * k + 1))], [vI (2 * (n : Int)), vI (nb_ w (2 * k))], aq_h m s F c) _
      refine ae_icmp rfl (fun (q_4 : (2 * (n : Int)) ≤ (nb_ w (2 * k))) => ?_) (fun (q_4 : (nb_ w (2 * k)) < (2 * (n : Int))) => ?_)
      · refine am_E.go (t2 := (102, [vR o, vL w, vU, vI k, vI (nb_ w (2 * k)), vI (nb_ w (2 * k + 1))], [vI (-1)], aq_h m s F c)) rfl rfl ?_
        refine am_E.ret rfl rfl ?_
        exact ⟨_, rfl, hs, by rw [← hq, bm_, if_pos (by omega), if_neg (by omega)], hr⟩
      · refine am_E.go (t2 := (67, [vR o, vL w, vU, vI k, vI (nb_ w (2 * k)), vI (nb_ w (2 * k + 1))], [vI (nb_ w (2 * k + 1))], aq_h m s F c)) rfl rfl ?_
        refine am_E.go (t2 := (68, [vR o, vL w, vU, vI k, vI (nb_ w (2 * k)), vI (nb_ w (2 * k + 1))], [vR o, vI (nb_ w (2 * k + 1))], aq_h m s F c)) rfl rfl ?_
        refine aq_gf (v := vI (2 * (n : Int))) rfl (by omega) hFo (by decide) rfl ?_
        show am_E _ (71, [vR o, vL w, vU, vI k, vI (nb_ w (2 * k)), vI (nb_ w (2 * k + 1))], [vI (2 * (n : Int)), vI (nb_ w (2 * k + 1))], aq_h m s F c) _
        refine ae_icmp rfl (fun (q_5 : (2 * (n : Int)) ≤ (nb_ w (2 * k + 1))) => ?_) (fun (q_5 : (nb_ w (2 * k + 1)) < (2 * (n : Int))) => ?_)
        · refine am_E.go (t2 := (102, [vR o, vL w, vU, vI k, vI (nb_ w (2 * k)), vI (nb_ w (2 * k + 1))], [vI (-1)], aq_h m s F c)) rfl rfl ?_
          refine am_E.ret rfl rfl ?_
          exact ⟨_, rfl, hs, by rw [← hq, bm_, if_pos (by omega), if_neg (by omega)], hr⟩
        · refine am_E.go (t2 := (76, [vR o, vL w, vU, vI k, vI (nb_ w (2 * k)), vI (nb_ w (2 * k + 1))], [vI (nb_ w (2 * k))], aq_h m s F c)) rfl rfl ?_
          refine am_E.go (t2 := (78, [vR o, vL w, vU, vI k, vI (nb_ w (2 * k)), vI (nb_ w (2 * k + 1))], [vI (nb_ w (2 * k + 1)), vI (nb_ w (2 * k))], aq_h m s F c)) rfl rfl ?_
          refine ae_icmp rfl (fun (q_6 : (nb_ w (2 * k)) = (nb_ w (2 * k + 1))) => ?_) (fun (q_6 : (nb_ w (2 * k)) ≠ (nb_ w (2 * k + 1))) => ?_)
          · refine am_E.go (t2 := (102, [vR o, vL w, vU, vI k, vI (nb_ w (2 * k)), vI (nb_ w (2 * k + 1))], [vI (-1)], aq_h m s F c)) rfl rfl ?_
            refine am_E.ret rfl rfl ?_
            exact ⟨_, rfl, hs, by rw [← hq, bm_, if_pos (by omega), if_neg (by omega)], hr⟩
          · refine am_E.go (t2 := (82, [vR o, vL w, vU, vI k, vI (nb_ w (2 * k)), vI (nb_ w (2 * k + 1))], [vR o], aq_h m s F c)) rfl rfl ?_
            refine aq_gf (v := vR (o + 7 + 3 * K)) rfl (by omega) hFo (by decide) rfl ?_
            show am_E _ (85, [vR o, vL w, vU, vI k, vI (nb_ w (2 * k)), vI (nb_ w (2 * k + 1))], [vR (o + 7 + 3 * K)], aq_h m s F c) _
            refine am_E.go (t2 := (87, [vR o, vL w, vU, vI k, vI (nb_ w (2 * k)), vI (nb_ w (2 * k + 1))], [vI (nb_ w (2 * k)), vR (o + 7 + 3 * K)], aq_h m s F c)) rfl rfl ?_
            refine aq_al (ok := fun k => k == 1) (v := vI (c (o + 7 + 3 * K) (nb_ w (2 * k)))) rfl rfl (by omega) hFs rfl (by omega) (by omega) rfl ?_
            show am_E _ (88, [vR o, vL w, vU, vI k, vI (nb_ w (2 * k)), vI (nb_ w (2 * k + 1))], [vI (c (o + 7 + 3 * K) (nb_ w (2 * k)))], aq_h m s F c) _
            have f_7 := hM (nb_ w (2 * k)) (by omega) (by omega)
            refine ae_if0 rfl (fun (q_8 : (c (o + 7 + 3 * K) (nb_ w (2 * k))) ≠ 0) => ?_) (fun (q_8 : (c (o + 7 + 3 * K) (nb_ w (2 * k))) = 0) => ?_)
            · refine am_E.go (t2 := (102, [vR o, vL w, vU, vI k, vI (nb_ w (2 * k)), vI (nb_ w (2 * k + 1))], [vI (-1)], aq_h m s F c)) rfl rfl ?_
              refine am_E.ret rfl rfl ?_
              exact ⟨_, rfl, hs, by rw [← hq, bm_, if_pos (by omega), if_neg (by omega)], hr⟩
            · refine am_E.go (t2 := (92, [vR o, vL w, vU, vI k, vI (nb_ w (2 * k)), vI (nb_ w (2 * k + 1))], [vR o], aq_h m s F c)) rfl rfl ?_
              refine aq_gf (v := vR (o + 7 + 3 * K)) rfl (by omega) hFo (by decide) rfl ?_
              show am_E _ (95, [vR o, vL w, vU, vI k, vI (nb_ w (2 * k)), vI (nb_ w (2 * k + 1))], [vR (o + 7 + 3 * K)], aq_h m s F c) _
              refine am_E.go (t2 := (97, [vR o, vL w, vU, vI k, vI (nb_ w (2 * k)), vI (nb_ w (2 * k + 1))], [vI (nb_ w (2 * k + 1)), vR (o + 7 + 3 * K)], aq_h m s F c)) rfl rfl ?_
              refine aq_al (ok := fun k => k == 1) (v := vI (c (o + 7 + 3 * K) (nb_ w (2 * k + 1)))) rfl rfl (by omega) hFs rfl (by omega) (by omega) rfl ?_
              show am_E _ (98, [vR o, vL w, vU, vI k, vI (nb_ w (2 * k)), vI (nb_ w (2 * k + 1))], [vI (c (o + 7 + 3 * K) (nb_ w (2 * k + 1)))], aq_h m s F c) _
              have f_9 := hM (nb_ w (2 * k + 1)) (by omega) (by omega)
              refine ae_if0 rfl (fun (q_10 : (c (o + 7 + 3 * K) (nb_ w (2 * k + 1))) = 0) => ?_) (fun (q_10 : (c (o + 7 + 3 * K) (nb_ w (2 * k + 1))) ≠ 0) => ?_)
              · refine am_E.go (t2 := (104, [vR o, vL w, vU, vI k, vI (nb_ w (2 * k)), vI (nb_ w (2 * k + 1))], [vR o], aq_h m s F c)) rfl rfl ?_
                refine aq_gf (v := vR (o + 7 + 3 * K)) rfl (by omega) hFo (by decide) rfl ?_
                show am_E _ (107, [vR o, vL w, vU, vI k, vI (nb_ w (2 * k)), vI (nb_ w (2 * k + 1))], [vR (o + 7 + 3 * K)], aq_h m s F c) _
                refine am_E.go (t2 := (109, [vR o, vL w, vU, vI k, vI (nb_ w (2 * k)), vI (nb_ w (2 * k + 1))], [vI (nb_ w (2 * k)), vR (o + 7 + 3 * K)], aq_h m s F c)) rfl rfl ?_
                refine am_E.go (t2 := (110, [vR o, vL w, vU, vI k, vI (nb_ w (2 * k)), vI (nb_ w (2 * k + 1))], [vI 1, vI (nb_ w (2 * k)), vR (o + 7 + 3 * K)], aq_h m s F c)) rfl rfl ?_
                refine aq_as (kd := 1) rfl rfl (by omega) hFs (by omega) (by omega) rfl rfl ?_
                show am_E _ (111, [vR o, vL w, vU, vI k, vI (nb_ w (2 * k)), vI (nb_ w (2 * k + 1))], [], aq_h m s F (aq_u c (o + 7 + 3 * K) (nb_ w (2 * k)) 1)) _
                generalize hdc_11 : aq_u c (o + 7 + 3 * K) (nb_ w (2 * k)) 1 = c_11
                have sc_11 := aq_smu hs hdc_11 hSs
                have hdrc_11 := aq_rgn hr hdc_11 (by omega)
                refine am_E.go (t2 := (112, [vR o, vL w, vU, vI k, vI (nb_ w (2 * k)), vI (nb_ w (2 * k + 1))], [vR o], aq_h m s F c_11)) rfl rfl ?_
                refine aq_gf (v := vR (o + 7 + 3 * K)) rfl (by omega) hFo (by decide) rfl ?_
                show am_E _ (115, [vR o, vL w, vU, vI k, vI (nb_ w (2 * k)), vI (nb_ w (2 * k + 1))], [vR (o + 7 + 3 * K)], aq_h m s F c_11) _
                refine am_E.go (t2 := (117, [vR o, vL w, vU, vI k, vI (nb_ w (2 * k)), vI (nb_ w (2 * k + 1))], [vI (nb_ w (2 * k + 1)), vR (o + 7 + 3 * K)], aq_h m s F c_11)) rfl rfl ?_
                refine am_E.go (t2 := (118, [vR o, vL w, vU, vI k, vI (nb_ w (2 * k)), vI (nb_ w (2 * k + 1))], [vI 1, vI (nb_ w (2 * k + 1)), vR (o + 7 + 3 * K)], aq_h m s F c_11)) rfl rfl ?_
                refine aq_as (kd := 1) rfl rfl (by omega) hFs (by omega) (by omega) rfl rfl ?_
                show am_E _ (119, [vR o, vL w, vU, vI k, vI (nb_ w (2 * k)), vI (nb_ w (2 * k + 1))], [], aq_h m s F (aq_u c_11 (o + 7 + 3 * K) (nb_ w (2 * k + 1)) 1)) _
                generalize hdc_12 : aq_u c_11 (o + 7 + 3 * K) (nb_ w (2 * k + 1)) 1 = c_12
                have sc_12 := aq_smu sc_11 hdc_12 hSs
                have hdrc_12 := aq_rgn hdrc_11 hdc_12 (by omega)
                refine am_E.go (t2 := (120, [vR o, vL w, vU, vI k, vI (nb_ w (2 * k)), vI (nb_ w (2 * k + 1))], [vR o], aq_h m s F c_12)) rfl rfl ?_
                refine aq_gf (v := vR (o + 6 + 3 * K)) rfl (by omega) hFo (by decide) rfl ?_
                show am_E _ (123, [vR o, vL w, vU, vI k, vI (nb_ w (2 * k)), vI (nb_ w (2 * k + 1))], [vR (o + 6 + 3 * K)], aq_h m s F c_12) _
                refine am_E.go (t2 := (125, [vR o, vL w, vU, vI k, vI (nb_ w (2 * k)), vI (nb_ w (2 * k + 1))], [vI (nb_ w (2 * k)), vR (o + 6 + 3 * K)], aq_h m s F c_12)) rfl rfl ?_
                refine am_E.go (t2 := (127, [vR o, vL w, vU, vI k, vI (nb_ w (2 * k)), vI (nb_ w (2 * k + 1))], [vI (nb_ w (2 * k + 1)), vI (nb_ w (2 * k)), vR (o + 6 + 3 * K)], aq_h m s F c_12)) rfl rfl ?_
                refine am_E.call rfl rfl rfl (Nat.le_of_ble_eq_true rfl) (qn_X0_pair (by omega) hFd (by omega) (by omega) (by omega) (by omega)) ?_
                rintro r5 h5 ⟨rfl, rfl⟩
                show am_E _ (130, [vR o, vL w, vU, vI k, vI (nb_ w (2 * k)), vI (nb_ w (2 * k + 1))], [], aq_h m s F (aq_u (aq_u c_12 (o + 6 + 3 * K) (nb_ w (2 * k)) (nb_ w (2 * k + 1))) (o + 6 + 3 * K) (nb_ w (2 * k + 1)) (nb_ w (2 * k)))) _
                generalize hdc_13 : aq_u c_12 (o + 6 + 3 * K) (nb_ w (2 * k)) (nb_ w (2 * k + 1)) = c_13
                have sc_13 := aq_smu sc_12 hdc_13 hSd
                have hdrc_13 := aq_rgu hdrc_12 hdc_13 (by omega) (by omega)
                generalize hdc_14 : aq_u c_13 (o + 6 + 3 * K) (nb_ w (2 * k + 1)) (nb_ w (2 * k)) = c_14
                have sc_14 := aq_smu sc_13 hdc_14 hSd
                have hdrc_14 := aq_rgu hdrc_13 hdc_14 (by omega) (by omega)
                refine ae_iinc rfl rfl (am_ri (by omega) (by omega)) ?_
                show am_E _ (133, [vR o, vL w, vU, vI (k + 1), vI (nb_ w (2 * k)), vI (nb_ w (2 * k + 1))], [], aq_h m s F c_14) _
                refine am_E.go (t2 := (22, [vR o, vL w, vU, vI (k + 1), vI (nb_ w (2 * k)), vI (nb_ w (2 * k + 1))], [], aq_h m s F c_14)) rfl rfl ?_
                exact qy_ofPairs_l ⟨hm, hn1, hn4, hK, hFo, hFd, hFs⟩ hSd hSs hw d (up1 (up1 mm (nb_ w (2 * k)) (nb_ w (2 * k + 1))) (nb_ w (2 * k + 1)) (nb_ w (2 * k))) (k + 1) (vI (nb_ w (2 * k))) (vI (nb_ w (2 * k + 1))) c_14 sc_14 (by omega) (by omega) hdrc_14 (bo_w (by omega) (by omega) (by omega) (by omega) hM hdc_11 hdc_12 hdc_13 hdc_14) (bi_u hbi (by omega) (by omega) (by omega) (by omega) (by omega) (by omega) (by omega)) (by rw [← hq, bm_, if_pos (by omega), if_pos ⟨⟨by omega, by omega, by omega⟩, by omega, by omega⟩]) (by omega)
              · refine am_E.go (t2 := (102, [vR o, vL w, vU, vI k, vI (nb_ w (2 * k)), vI (nb_ w (2 * k + 1))], [vI (-1)], aq_h m s F c)) rfl rfl ?_
                refine am_E.ret rfl rfl ?_
                exact ⟨_, rfl, hs, by rw [← hq, bm_, if_pos (by omega), if_neg (by omega)], hr⟩

theorem qy_ofPairs {m s : Nat} {F : aq_F} {c : aq_C} {S : Nat → Prop} {o n K : Nat} (hB : bx_0 m F o n K) (hSd : S (o + 6 + 3 * K)) (hSs : S (o + 7 + 3 * K)) {w : Int} (hw : am_r64 w) (hr : aq_rg (o + 6 + 3 * K) (2 * (n : Int)) 0 (2 * (n : Int)) c) : am_E ac_X0_ofPairs (0, [vR o, vL w, vU, vU, vU, vU], [], aq_h m s F c) (aq_Z m s F S c (fun r d => r = some (vI (if bo_h (n : Int) w then bm_ (n : Int) w 6 0 (fun _ => -4) else -1)) ∧ aq_rg (o + 6 + 3 * K) (2 * (n : Int)) 0 (2 * (n : Int)) d)) := by
  obtain ⟨hm, hn1, hn4, hK, hFo, hFd, hFs⟩ := hB
  have hbc := bo_c (n := (n : Int)) hw (by omega) (by omega)
  refine am_E.go (t2 := (1, [vR o, vL w, vU, vU, vU, vU], [vL w], aq_h m s F c)) rfl rfl ?_
  refine am_E.go (t2 := (3, [vR o, vL w, vU, vU, vU, vU], [vI 8, vL w], aq_h m s F c)) rfl rfl ?_
  refine am_E.go (t2 := (4, [vR o, vL w, vU, vU, vU, vU], [vR o, vI 8, vL w], aq_h m s F c)) rfl rfl ?_
  refine aq_gf (v := vI (n : Int)) rfl (by omega) hFo (by decide) rfl ?_
  show am_E _ (7, [vR o, vL w, vU, vU, vU, vU], [vI (n : Int), vI 8, vL w], aq_h m s F c) _
  refine ae_mul rfl (am_ri (by omega) (by omega)) ?_
  show am_E _ (8, [vR o, vL w, vU, vU, vU, vU], [vI (8 * (n : Int)), vL w], aq_h m s F c) _
  refine am_E.go (t2 := (9, [vR o, vL w, vU, vU, vU, vU], [vL (am_ushL w (8 * (n : Int)))], aq_h m s F c)) rfl rfl ?_
  refine am_E.go (t2 := (10, [vR o, vL w, vU, vU, vU, vU], [vL 0, vL (am_ushL w (8 * (n : Int)))], aq_h m s F c)) rfl rfl ?_
  have ez_1 := am_lcf (am_ushL w (8 * (n : Int))) 0
  refine am_E.go (t2 := (11, [vR o, vL w, vU, vU, vU, vU], [vI (if (am_ushL w (8 * (n : Int))) < 0 then -1 else if (am_ushL w (8 * (n : Int))) = 0 then 0 else 1)], aq_h m s F c)) rfl rfl ?_
  generalize (if (am_ushL w (8 * (n : Int))) < 0 then -1 else if (am_ushL w (8 * (n : Int))) = 0 then 0 else 1) = z_1 at ez_1 ⊢
  refine ae_if0 rfl (fun (q_2 : z_1 = 0) => ?_) (fun (q_2 : z_1 ≠ 0) => ?_)
  · have hbo : bo_h (n : Int) w := hbc.mp (by omega)
    refine am_E.go (t2 := (17, [vR o, vL w, vU, vU, vU, vU], [vR o], aq_h m s F c)) rfl rfl ?_
    refine aq_callv (y := 1) (as2 := []) (rest := []) rfl rfl (by decide) (Nat.le_of_ble_eq_true rfl) rfl rfl (Nat.le_of_ble_eq_true rfl) (by omega) hFo rfl (Nat.le_of_ble_eq_true rfl) (qn_X0_forgetSeen ⟨hm, hn1, hn4, hK, hFo, hFd, hFs⟩) ?_
    rintro r5 h5 ⟨c_z, rfl, s_z, rfl, hz_z⟩
    show am_E _ (20, [vR o, vL w, vU, vU, vU, vU], [], aq_h m s F c_z) _
    refine am_E.go (t2 := (21, [vR o, vL w, vU, vU, vU, vU], [vI 0], aq_h m s F c_z)) rfl rfl ?_
    refine am_E.go (t2 := (22, [vR o, vL w, vU, vI 0, vU, vU], [], aq_h m s F c_z)) rfl rfl ?_
    exact qy_ofPairs_l ⟨hm, hn1, hn4, hK, hFo, hFd, hFs⟩ hSd hSs hw 6 (fun _ => -4) 0 (vU) (vU) c_z (aq_smt aq_sm0 (aq_smi s_z (fun a h => by rw [h]; exact hSs))) (by omega) (by omega) (aq_rgs hr s_z (by omega)) (fun i i0 i1 => Or.inl ⟨rfl, hz_z i i0 i1⟩) (bi_0 (by omega)) (by rw [if_pos hbo]) (by omega)
  · refine am_E.go (t2 := (15, [vR o, vL w, vU, vU, vU, vU], [vI (-1)], aq_h m s F c)) rfl rfl ?_
    refine am_E.ret rfl rfl ?_
    exact ⟨_, rfl, aq_sm0, by rw [if_neg (fun q5 => by have := hbc.mpr q5; omega)], hr⟩

theorem qe_X4_box {m s : Nat} {F : aq_F} {c : aq_C} (hC : sb_C m F) (hI : cl_I c) {nn w : Int} (hw : am_r64 w) : am_E ac_X4_box (0, [vR 0, vI nn, vL w, vU], [], aq_h m s F c) (aq_Z m s F (fun a => a < 527) c (fun r d => r = some (vI (bo_x nn w)) ∧ cl_I d)) := by
  obtain ⟨hCm, hC0, hC1, hC2, hC3, ⟨hma4, hFa4, hFn4, hFp4, hFf4⟩, ⟨hmx, hFx, hFl, hFw⟩, hCs, hCb, hCh⟩ := id hC
  refine am_E.go (t2 := (1, [vR 0, vI nn, vL w, vU], [vI nn], aq_h m s F c)) rfl rfl ?_
  refine am_E.call rfl rfl rfl (Nat.le_of_ble_eq_true rfl) (qn_X4_isStrands) ?_
  rintro r5 h5 ⟨rfl, v_1, rfl, hv_1⟩
  show am_E _ (4, [vR 0, vI nn, vL w, vU], [vI v_1], aq_h m s F c) _
  refine ae_if0 rfl (fun (q_2 : v_1 ≠ 0) => ?_) (fun (q_2 : v_1 = 0) => ?_)
  · refine am_E.go (t2 := (10, [vR 0, vI nn, vL w, vU], [vR 0], aq_h m s F c)) rfl rfl ?_
    refine aq_gf (v := vR 1) rfl (by omega) hC0 (by decide) rfl ?_
    show am_E _ (13, [vR 0, vI nn, vL w, vU], [vR 1], aq_h m s F c) _
    refine am_E.go (t2 := (14, [vR 0, vI nn, vL w, vU], [vI nn, vR 1], aq_h m s F c)) rfl rfl ?_
    refine am_E.go (t2 := (15, [vR 0, vI nn, vL w, vU], [vI 1, vI nn, vR 1], aq_h m s F c)) rfl rfl ?_
    refine ae_sub rfl (am_ri (by omega) (by omega)) ?_
    show am_E _ (16, [vR 0, vI nn, vL w, vU], [vI (nn - 1), vR 1], aq_h m s F c) _
    obtain ⟨o, n, K, e_o, e_n, e_K, e_j, e_k, tP, tG, tN, tR, tL, ⟨hm, hn1, hn4, hK, hFo, hFd, hFs⟩, ⟨hPg, hPr, hPt⟩, ⟨hL, hGg, hGr, hNg, hNr, hLt, hGt, hNt⟩, ⟨hR, hRt⟩, hst, hex⟩ := sb_box hC (i := (nn - 1)) (by omega) (by omega)
    have hb := sb_bnd ((nn - 1)).toNat (by omega)
    rw [e_o, e_k] at hb
    have hbK : (K : Int) = bx_K nn := by rw [e_K]; congr 1; omega
    refine aq_al (ok := fun k => decide (3 ≤ k) && decide (k < 7)) (v := vR o) rfl rfl (by omega) hC1 rfl (by omega) (by omega) (aq_gi2 (by omega) e_o) ?_
    show am_E _ (17, [vR 0, vI nn, vL w, vU], [vR o], aq_h m s F c) _
    refine am_E.go (t2 := (18, [vR 0, vI nn, vL w, vU], [vL w, vR o], aq_h m s F c)) rfl rfl ?_
    refine aq_callv (y := 2) (as2 := [vL w]) (rest := []) rfl rfl (by decide) (Nat.le_of_ble_eq_true rfl) rfl rfl (Nat.le_of_ble_eq_true rfl) (by omega) hFo rfl (Nat.le_of_ble_eq_true rfl) (qy_ofPairs (S := fun a => a = o + 6 + 3 * K ∨ a = o + 7 + 3 * K) ⟨hm, hn1, hn4, hK, hFo, hFd, hFs⟩ (Or.inl rfl) (Or.inr rfl) hw (by have h9 := hI.1 ((nn - 1)).toNat (by omega); rw [e_o, e_k, ← e_j] at h9; exact h9)) ?_
    rintro r5 h5 ⟨c_b, rfl, s_b, rfl, hr_b⟩
    show am_E _ (21, [vR 0, vI nn, vL w, vU], [vI (if bo_h (n : Int) w then bm_ (n : Int) w 6 0 (fun _ => -4) else -1)], aq_h m s F c_b) _
    refine am_E.ret rfl rfl ?_
    refine ⟨_, rfl, (aq_smt (aq_sm0 (S := fun a => a < 527)) (aq_smi s_b (fun a h => by omega))), ?_, cl_b hI (j := ((nn - 1)).toNat) (by omega) (by rw [e_o, e_k]; exact s_b) (by rw [e_o, e_k, ← e_j]; exact hr_b)⟩
    have e2 : (n : Int) = nn := by omega
    have e3 : bo_x nn w = (if bo_h nn w then bm_ nn w 6 0 (fun _ => -4) else -1) := by
      unfold bo_x
      by_cases q5 : bo_h nn w
      · rw [if_pos ⟨by omega, q5⟩, if_pos q5]
      · rw [if_neg (fun q6 => q5 q6.2), if_neg q5]
    rw [e3, e2]
  · refine am_E.go (t2 := (8, [vR 0, vI nn, vL w, vU], [vI (-1)], aq_h m s F c)) rfl rfl ?_
    refine am_E.ret rfl rfl ?_
    exact ⟨_, rfl, (aq_sm0 (S := fun a => a < 527)), by unfold bo_x; rw [if_neg (fun q5 => by omega)], hI⟩
