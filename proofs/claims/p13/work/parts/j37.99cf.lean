/-! The reference's constructor. Printed by wip/p20/sx/gINI.py. -/

theorem qm_ini_w {s : Nat} {F F0 : aq_F} {c0 : aq_C} {y : Nat} (hO : mo_0 (y + 24) F y) (hF0 : ∀ a, a < y → F a = F0 a) {tbl : Int → Int} (hT : mo_T F y tbl) (hG2 : F (y + 2) = (0, 124, fun _ => .inl 0)) (hG3 : F (y + 3) = (0, 124, fun _ => .inl 0)) (hG4 : F (y + 4) = (0, 124, fun _ => .inl 0)) : ∀ (d : Nat) (n : Int) (v2 : am_V) (c : aq_C) (hs : aq_sm (fun a => y ≤ a) c0 c) (h0 : 1 ≤ n) (h1 : n ≤ 5) (hb : mo_b y c) (hw : ∀ n2 b : Int, 1 ≤ n2 → n2 < n → 0 ≤ b → b < bx_K n2 → (c (y + 4) (mo_f n2 + b) = ln_ n2 b ∧ (0 < ix_ n2 b → c (y + 3) (mo_f n2 + b) = pa_ n2 b ∧ c (y + 2) (mo_f n2 + b) = ll_ n2 b)) ∧ 0 ≤ c (y + 3) (mo_f n2 + b) ∧ c (y + 3) (mo_f n2 + b) < bx_K n2) (hz : n ≤ 4 → ∀ j, mo_f n ≤ j → c (y + 3) j = 0) (hd : 5 - n < (d : Int)), am_E ac_X5_init (255, [vR y, vI n, v2], [], aq_h (y + 24) s F c) (mo_Z y s F0 c0)
  | 0, n, v2, c, hs, h0, h1, hb, hw, hz, hd => by exfalso; omega
  | d + 1, n, v2, c, hs, h0, h1, hb, hw, hz, hd => by
    obtain ⟨hm, hFo, hG5, hG6, hG7, hG8, hG9, hG10, hG11, hG12, hG13, hG14, hG15, hG16, hG17, hG18, hG19, hG20, hG21, hG22, hG23⟩ := hO
    obtain ⟨hT1, hTt⟩ := hT
    refine am_E.go (t2 := (256, [vR y, vI n, v2], [vI n], aq_h (y + 24) s F c)) rfl rfl ?_
    refine am_E.go (t2 := (257, [vR y, vI n, v2], [vI 5, vI n], aq_h (y + 24) s F c)) rfl rfl ?_
    refine ae_icmp rfl (fun (q_1 : 5 ≤ n) => ?_) (fun (q_1 : n < 5) => ?_)
    · refine am_E.ret rfl rfl ?_
      have e5 : n = 5 := by omega
      refine ⟨am_up (am_up (am_up F (y + 2) (0, 124, fun j => .inr (vI (c (y + 2) (j : Int))))) (y + 3) (0, 124, fun j => .inr (vI (c (y + 3) (j : Int))))) (y + 4) (0, 124, fun j => .inr (vI (c (y + 4) (j : Int)))), c, rfl, ?_, ⟨?_, ⟨tbl, ?_, hTt⟩, c (y + 2), c (y + 3), c (y + 4), ?_, ?_, ?_, ?_⟩, ⟨mo_bI hb, hb⟩, fun a ha => ⟨?_, fun i => hs a (by omega) i⟩⟩
      · rw [aq_frz hG2, aq_frz (a := y + 3) (n := 124) (by rw [am_up_n (by omega)]; exact hG3), aq_frz (a := y + 4) (n := 124) (by rw [am_up_n (by omega), am_up_n (by omega)]; exact hG4)]
      · exact mo_0f (mo_0f (mo_0f ⟨hm, hFo, hG5, hG6, hG7, hG8, hG9, hG10, hG11, hG12, hG13, hG14, hG15, hG16, hG17, hG18, hG19, hG20, hG21, hG22, hG23⟩ (by omega) (by omega)) (by omega) (by omega)) (by omega) (by omega)
      · rw [am_up_n (by omega), am_up_n (by omega), am_up_n (by omega)]; exact hT1
      · rw [am_up_n (by omega), am_up_n (by omega), am_up_s]
      · rw [am_up_n (by omega), am_up_s]
      · rw [am_up_s]
      · intro n2 b k0 k1 k2 k3
        have k4 := hw n2 b k0 (by omega) k2 k3
        have k5 := (tb_A_a (n := n2) (x := b) k0 k1 k2 (by omega)).1
        exact ⟨k4.2.1, k4.2.2, by omega, by omega, k4.1⟩
      · rw [am_up_n (by omega), am_up_n (by omega), am_up_n (by omega)]; exact hF0 a ha
    · refine am_E.go (t2 := (261, [vR y, vI n, v2], [vR y], aq_h (y + 24) s F c)) rfl rfl ?_
      refine am_E.go (t2 := (262, [vR y, vI n, v2], [vI n, vR y], aq_h (y + 24) s F c)) rfl rfl ?_
      refine aq_callv (y := 2) (as2 := [vI n]) (rest := []) rfl rfl (by decide) (Nat.le_of_ble_eq_true rfl) rfl rfl (Nat.le_of_ble_eq_true rfl) (by omega) hFo rfl (Nat.le_of_ble_eq_true rfl) (qz_findWords ⟨hm, hFo, hG5, hG6, hG7, hG8, hG9, hG10, hG11, hG12, hG13, hG14, hG15, hG16, hG17, hG18, hG19, hG20, hG21, hG22, hG23⟩ ⟨hT1, hTt⟩ hG2 hG3 hG4 h0 (by omega) (fun b h5 h6 => by rw [hz (by omega) _ (by omega)]; omega)) ?_
      rintro r5 h5 ⟨c_w, rfl, s_w, rfl, k_w, w_⟩
      show am_E _ (265, [vR y, vI n, v2], [], aq_h (y + 24) s F c_w) _
      refine ae_iinc rfl rfl (am_ri (by omega) (by omega)) ?_
      show am_E _ (268, [vR y, vI (n + 1), v2], [], aq_h (y + 24) s F c_w) _
      refine am_E.go (t2 := (255, [vR y, vI (n + 1), v2], [], aq_h (y + 24) s F c_w)) rfl rfl ?_
      exact qm_ini_w ⟨hm, hFo, hG5, hG6, hG7, hG8, hG9, hG10, hG11, hG12, hG13, hG14, hG15, hG16, hG17, hG18, hG19, hG20, hG21, hG22, hG23⟩ hF0 ⟨hT1, hTt⟩ hG2 hG3 hG4 d (n + 1) (v2) c_w (aq_smt hs (aq_smi s_w (fun a h => by omega))) (by omega) (by omega) (mo_bs hb s_w k_w (by omega) (by omega)) (fun n2 b k0 k1 k2 k3 => by by_cases e : n2 = n; (subst e; exact ⟨(w_.2.1 b k2 k3).1 (tb_A_a (n := n2) (x := b) k0 (by omega) k2 (by omega)).2.1.2.1, w_.2.2.1 b k2 k3⟩); have k5 := mo_fm k0 (show n2 < n by omega) (by omega); have k6 := w_.2.2.2 (mo_f n2 + b) (by omega); rw [k6.1, k6.2.1, k6.2.2]; exact hw n2 b k0 (by omega) k2 k3) (fun k9 j k0 => by have k5 := mo_fm h0 (show n < n + 1 by omega) k9; rw [(w_.2.2.2 j (by omega)).2.1]; exact hz (by omega) j (by have := mo_fs n; omega)) (by omega)

theorem qm_ini_b {s : Nat} {F F0 : aq_F} {c0 : aq_C} {y : Nat} (hO : mo_0 (y + 24) F y) (hF0 : ∀ a, a < y → F a = F0 a) (hG1 : F (y + 1) = (0, 992, fun _ => .inl 0)) (hG2 : F (y + 2) = (0, 124, fun _ => .inl 0)) (hG3 : F (y + 3) = (0, 124, fun _ => .inl 0)) (hG4 : F (y + 4) = (0, 124, fun _ => .inl 0)) : ∀ (d : Nat) (n : Int) (b : Int) (c : aq_C) (hs : aq_sm (fun a => y ≤ a) c0 c) (h0 : 1 ≤ n) (h1 : n ≤ 4) (h2 : 0 ≤ b) (h4 : b ≤ bx_K n) (hb : mo_b y c) (h3 : ∀ j, c (y + 3) j = 0) (hdd : ∀ n2 b2 p : Int, 1 ≤ n2 → n2 ≤ 4 → 0 ≤ b2 → b2 < bx_K n2 → 0 ≤ p → p < 2 * n2 → (n2 < n ∨ (n2 = n ∧ b2 < b)) → c (y + 1) (8 * (mo_f n2 + b2) + p) = prt n2 b2 p) (hd : bx_K n - b < (d : Int)) (K0 : ∀ (b2 : Int) (c2 : aq_C) (hs2 : aq_sm (fun a => y ≤ a) c0 c2) (hb2 : mo_b y c2) (h32 : ∀ j, c2 (y + 3) j = 0) (hd2 : ∀ n2 b5 p : Int, 1 ≤ n2 → n2 ≤ 4 → 0 ≤ b5 → b5 < bx_K n2 → 0 ≤ p → p < 2 * n2 → (n2 < n ∨ n2 = n) → c2 (y + 1) (8 * (mo_f n2 + b5) + p) = prt n2 b5 p), am_E ac_X5_init (247, [vR y, vI n, vI b2], [], aq_h (y + 24) s F c2) (mo_Z y s F0 c0)), am_E ac_X5_init (227, [vR y, vI n, vI b], [], aq_h (y + 24) s F c) (mo_Z y s F0 c0)
  | 0, n, b, c, hs, h0, h1, h2, h4, hb, h3, hdd, hd, K0 => by exfalso; omega
  | d + 1, n, b, c, hs, h0, h1, h2, h4, hb, h3, hdd, hd, K0 => by
    obtain ⟨hm, hFo, hG5, hG6, hG7, hG8, hG9, hG10, hG11, hG12, hG13, hG14, hG15, hG16, hG17, hG18, hG19, hG20, hG21, hG22, hG23⟩ := hO
    have hfs := mo_fs n
    refine am_E.go (t2 := (228, [vR y, vI n, vI b], [vI b], aq_h (y + 24) s F c)) rfl rfl ?_
    refine am_E.go (t2 := (229, [vR y, vI n, vI b], [vI n, vI b], aq_h (y + 24) s F c)) rfl rfl ?_
    refine am_E.call rfl rfl rfl (Nat.le_of_ble_eq_true rfl) (qm_boxes) ?_
    rintro r5 h5 ⟨rfl, v_bx, rfl, hv_bx⟩
    show am_E _ (232, [vR y, vI n, vI b], [vI v_bx, vI b], aq_h (y + 24) s F c) _
    refine ae_icmp rfl (fun (q_1 : v_bx ≤ b) => ?_) (fun (q_1 : b < v_bx) => ?_)
    · exact K0 b c hs hb h3 (fun n2 b5 p k0 k1 k2 k3 k4 k5 k6 => hdd n2 b5 p k0 k1 k2 k3 k4 k5 (by rcases k6 with k6 | k6; exact Or.inl k6; exact Or.inr ⟨k6, by rw [k6] at k3; omega⟩))
    · refine am_E.go (t2 := (236, [vR y, vI n, vI b], [vR y], aq_h (y + 24) s F c)) rfl rfl ?_
      refine am_E.go (t2 := (237, [vR y, vI n, vI b], [vI n, vR y], aq_h (y + 24) s F c)) rfl rfl ?_
      refine am_E.go (t2 := (238, [vR y, vI n, vI b], [vI b, vI n, vR y], aq_h (y + 24) s F c)) rfl rfl ?_
      refine aq_callv (y := 3) (as2 := [vI n, vI b]) (rest := []) rfl rfl (by decide) (Nat.le_of_ble_eq_true rfl) rfl rfl (Nat.le_of_ble_eq_true rfl) (by omega) hFo rfl (Nat.le_of_ble_eq_true rfl) (qm_decode ⟨hm, hFo, hG5, hG6, hG7, hG8, hG9, hG10, hG11, hG12, hG13, hG14, hG15, hG16, hG17, hG18, hG19, hG20, hG21, hG22, hG23⟩ hG1 h0 h1 h2 (by omega)) ?_
      rintro r5 h5 ⟨c_d, rfl, s_d, rfl, w1, w2⟩
      show am_E _ (241, [vR y, vI n, vI b], [], aq_h (y + 24) s F c_d) _
      refine ae_iinc rfl rfl (am_ri (by omega) (by omega)) ?_
      show am_E _ (244, [vR y, vI n, vI (b + 1)], [], aq_h (y + 24) s F c_d) _
      refine am_E.go (t2 := (227, [vR y, vI n, vI (b + 1)], [], aq_h (y + 24) s F c_d)) rfl rfl ?_
      exact qm_ini_b ⟨hm, hFo, hG5, hG6, hG7, hG8, hG9, hG10, hG11, hG12, hG13, hG14, hG15, hG16, hG17, hG18, hG19, hG20, hG21, hG22, hG23⟩ hF0 hG1 hG2 hG3 hG4 d n (b + 1) c_d (aq_smt hs (aq_smi s_d (fun a h => by omega))) (by omega) (by omega) (by omega) (by omega) (mo_bs hb s_d (mo_ks mo_k0 s_d (by omega)) (by omega) (by omega)) (fun j => by rw [s_d _ (by omega)]; exact h3 j) (fun n2 b2 p k0 k1 k2 k3 k4 k5 k6 => by
      by_cases e : n2 = n ∧ b2 = b
      · rw [e.1, e.2]
        rw [e.1] at k5
        exact w1 p k4 k5
      · have q1 : n2 < n → mo_f n2 + bx_K n2 ≤ mo_f n := fun q => mo_fm k0 q h1
        have q2 : n2 = n → mo_f n2 = mo_f n := fun q => by rw [q]
        rw [w2 _ (by omega)]
        exact hdd n2 b2 p k0 k1 k2 k3 k4 k5 (by omega)) (by omega) K0

theorem qm_ini_n {s : Nat} {F F0 : aq_F} {c0 : aq_C} {y : Nat} (hO : mo_0 (y + 24) F y) (hF0 : ∀ a, a < y → F a = F0 a) (hG1 : F (y + 1) = (0, 992, fun _ => .inl 0)) (hG2 : F (y + 2) = (0, 124, fun _ => .inl 0)) (hG3 : F (y + 3) = (0, 124, fun _ => .inl 0)) (hG4 : F (y + 4) = (0, 124, fun _ => .inl 0)) : ∀ (d : Nat) (n : Int) (v2 : am_V) (c : aq_C) (hs : aq_sm (fun a => y ≤ a) c0 c) (h0 : 1 ≤ n) (h1 : n ≤ 5) (hb : mo_b y c) (h3 : ∀ j, c (y + 3) j = 0) (hdd : ∀ n2 b2 p : Int, 1 ≤ n2 → n2 ≤ 4 → 0 ≤ b2 → b2 < bx_K n2 → 0 ≤ p → p < 2 * n2 → n2 < n → c (y + 1) (8 * (mo_f n2 + b2) + p) = prt n2 b2 p) (hd : 5 - n < (d : Int)), am_E ac_X5_init (220, [vR y, vI n, v2], [], aq_h (y + 24) s F c) (mo_Z y s F0 c0)
  | 0, n, v2, c, hs, h0, h1, hb, h3, hdd, hd => by exfalso; omega
  | d + 1, n, v2, c, hs, h0, h1, hb, h3, hdd, hd => by
    obtain ⟨hm, hFo, hG5, hG6, hG7, hG8, hG9, hG10, hG11, hG12, hG13, hG14, hG15, hG16, hG17, hG18, hG19, hG20, hG21, hG22, hG23⟩ := hO
    have hfs := mo_fs n
    refine am_E.go (t2 := (221, [vR y, vI n, v2], [vI n], aq_h (y + 24) s F c)) rfl rfl ?_
    refine am_E.go (t2 := (222, [vR y, vI n, v2], [vI 5, vI n], aq_h (y + 24) s F c)) rfl rfl ?_
    refine ae_icmp rfl (fun (q_1 : 5 ≤ n) => ?_) (fun (q_1 : n < 5) => ?_)
    · refine am_E.go (t2 := (254, [vR y, vI n, v2], [vI 1], aq_h (y + 24) s F c)) rfl rfl ?_
      refine am_E.go (t2 := (255, [vR y, vI 1, v2], [], aq_h (y + 24) s F c)) rfl rfl ?_
      have en : n = 5 := by omega
      rw [aq_frz hG1]
      exact qm_ini_w (mo_0f ⟨hm, hFo, hG5, hG6, hG7, hG8, hG9, hG10, hG11, hG12, hG13, hG14, hG15, hG16, hG17, hG18, hG19, hG20, hG21, hG22, hG23⟩ (by omega) (by omega)) (fun a ha => by rw [am_up_n (by omega)]; exact hF0 a ha) (tbl := c (y + 1)) ⟨am_up_s, fun n2 b2 p k0 k1 k2 k3 k4 k5 => hdd n2 b2 p k0 k1 k2 k3 k4 k5 (by omega)⟩ (by rw [am_up_n (by omega)]; exact hG2) (by rw [am_up_n (by omega)]; exact hG3) (by rw [am_up_n (by omega)]; exact hG4) 6 1 _ c hs (by omega) (by omega) hb (fun n2 b k0 k1 => absurd k1 (by omega)) (fun _ j _ => h3 j) (by omega)
    · refine am_E.go (t2 := (226, [vR y, vI n, v2], [vI 0], aq_h (y + 24) s F c)) rfl rfl ?_
      refine am_E.go (t2 := (227, [vR y, vI n, vI 0], [], aq_h (y + 24) s F c)) rfl rfl ?_
      refine qm_ini_b ⟨hm, hFo, hG5, hG6, hG7, hG8, hG9, hG10, hG11, hG12, hG13, hG14, hG15, hG16, hG17, hG18, hG19, hG20, hG21, hG22, hG23⟩ hF0 hG1 hG2 hG3 hG4 107 n 0 c hs (by omega) (by omega) (by omega) (by have := mo_fs n; omega) hb h3 (fun n2 b2 p k0 k1 k2 k3 k4 k5 k6 => hdd n2 b2 p k0 k1 k2 k3 k4 k5 (by omega)) (by omega) ?_
      · intro b2_227 c_2 sc_2 hb2_227 h32_227 hd2_227
        refine ae_iinc rfl rfl (am_ri (by omega) (by omega)) ?_
        show am_E _ (250, [vR y, vI (n + 1), vI b2_227], [], aq_h (y + 24) s F c_2) _
        refine am_E.go (t2 := (220, [vR y, vI (n + 1), vI b2_227], [], aq_h (y + 24) s F c_2)) rfl rfl ?_
        exact qm_ini_n ⟨hm, hFo, hG5, hG6, hG7, hG8, hG9, hG10, hG11, hG12, hG13, hG14, hG15, hG16, hG17, hG18, hG19, hG20, hG21, hG22, hG23⟩ hF0 hG1 hG2 hG3 hG4 d (n + 1) (vI b2_227) c_2 sc_2 (by omega) (by omega) hb2_227 h32_227 (fun n2 b2 p k0 k1 k2 k3 k4 k5 k6 => hd2_227 n2 b2 p k0 k1 k2 k3 k4 k5 (by omega)) (by omega)

theorem qm_ini_s {s : Nat} {F F0 : aq_F} {c0 : aq_C} {y : Nat} (hO : mo_0 (y + 24) F y) (hF0 : ∀ a, a < y → F a = F0 a) (hG1 : F (y + 1) = (0, 992, fun _ => .inl 0)) (hG2 : F (y + 2) = (0, 124, fun _ => .inl 0)) (hG3 : F (y + 3) = (0, 124, fun _ => .inl 0)) (hG4 : F (y + 4) = (0, 124, fun _ => .inl 0)) : ∀ (d : Nat) (k : Int) (v2 : am_V) (c : aq_C) (hs : aq_sm (fun a => y ≤ a) c0 c) (h0 : 0 ≤ k) (h1 : k ≤ 8) (h9 : c y 9 = 2 ∧ c y 10 = 0) (h5 : ∀ s, 0 ≤ s → s < k → c (y + 5) s = 2) (h6 : ∀ s, c (y + 6) s = 0) (h3 : ∀ j, c (y + 3) j = 0) (hd : 8 - k < (d : Int)), am_E ac_X5_init (199, [vR y, vI k, v2], [], aq_h (y + 24) s F c) (mo_Z y s F0 c0)
  | 0, k, v2, c, hs, h0, h1, h9, h5, h6, h3, hd => by exfalso; omega
  | d + 1, k, v2, c, hs, h0, h1, h9, h5, h6, h3, hd => by
    obtain ⟨hm, hFo, hG5, hG6, hG7, hG8, hG9, hG10, hG11, hG12, hG13, hG14, hG15, hG16, hG17, hG18, hG19, hG20, hG21, hG22, hG23⟩ := hO
    refine am_E.go (t2 := (200, [vR y, vI k, v2], [vI k], aq_h (y + 24) s F c)) rfl rfl ?_
    refine am_E.go (t2 := (202, [vR y, vI k, v2], [vI 8, vI k], aq_h (y + 24) s F c)) rfl rfl ?_
    refine ae_icmp rfl (fun (q_1 : 8 ≤ k) => ?_) (fun (q_1 : k < 8) => ?_)
    · refine am_E.go (t2 := (219, [vR y, vI k, v2], [vI 1], aq_h (y + 24) s F c)) rfl rfl ?_
      refine am_E.go (t2 := (220, [vR y, vI 1, v2], [], aq_h (y + 24) s F c)) rfl rfl ?_
      exact qm_ini_n ⟨hm, hFo, hG5, hG6, hG7, hG8, hG9, hG10, hG11, hG12, hG13, hG14, hG15, hG16, hG17, hG18, hG19, hG20, hG21, hG22, hG23⟩ hF0 hG1 hG2 hG3 hG4 6 1 (v2) c hs (by omega) (by omega) ⟨h9.1, h9.2, fun s5 k0 k1 => h5 s5 k0 (by omega), h6⟩ h3 (fun n2 b2 p k0 k1 k2 k3 k4 k5 k6 => absurd k6 (by omega)) (by omega)
    · refine am_E.go (t2 := (206, [vR y, vI k, v2], [vR y], aq_h (y + 24) s F c)) rfl rfl ?_
      refine aq_gf (v := vR (y + 5)) rfl (by omega) hFo (by decide) rfl ?_
      show am_E _ (209, [vR y, vI k, v2], [vR (y + 5)], aq_h (y + 24) s F c) _
      refine am_E.go (t2 := (210, [vR y, vI k, v2], [vI k, vR (y + 5)], aq_h (y + 24) s F c)) rfl rfl ?_
      refine am_E.go (t2 := (211, [vR y, vI k, v2], [vI 2, vI k, vR (y + 5)], aq_h (y + 24) s F c)) rfl rfl ?_
      refine aq_as (kd := 0) rfl rfl (by omega) hG5 (by omega) (by omega) rfl rfl ?_
      show am_E _ (212, [vR y, vI k, v2], [], aq_h (y + 24) s F (aq_u c (y + 5) k 2)) _
      generalize hdc_2 : aq_u c (y + 5) k 2 = c_2
      have sc_2 := aq_smu hs hdc_2 (by omega)
      refine ae_iinc rfl rfl (am_ri (by omega) (by omega)) ?_
      show am_E _ (215, [vR y, vI (k + 1), v2], [], aq_h (y + 24) s F c_2) _
      refine am_E.go (t2 := (199, [vR y, vI (k + 1), v2], [], aq_h (y + 24) s F c_2)) rfl rfl ?_
      exact qm_ini_s ⟨hm, hFo, hG5, hG6, hG7, hG8, hG9, hG10, hG11, hG12, hG13, hG14, hG15, hG16, hG17, hG18, hG19, hG20, hG21, hG22, hG23⟩ hF0 hG1 hG2 hG3 hG4 d (k + 1) (v2) c_2 sc_2 (by omega) (by omega) (by rw [← hdc_2, aq_un (Or.inl (by omega)), aq_un (Or.inl (by omega))]; exact h9) (aq_fl (g := fun _ => 2) h5 hdc_2 rfl) (fun s5 => by rw [← hdc_2, aq_un (Or.inl (by omega))]; exact h6 s5) (fun j => by rw [← hdc_2, aq_un (Or.inl (by omega))]; exact h3 j) (by omega)
/-! The reference's constructor, whole. Printed by wip/p20/sx/gINI2.py. -/

/-- a new object of the reference: no array is there yet -/
def mo_t0 : Nat → aq_T := fun k => match k with
  | 0 => .inr vN
  | 1 => .inr vN
  | 2 => .inr vN
  | 3 => .inr vN
  | 4 => .inr vN
  | 5 => .inr vN
  | 6 => .inr vN
  | 7 => .inr vN
  | 8 => .inr vN
  | 11 => .inr vN
  | 12 => .inr vN
  | 13 => .inr vN
  | 14 => .inr vN
  | 16 => .inr vN
  | 18 => .inr vN
  | 19 => .inr vN
  | 20 => .inr vN
  | 21 => .inr vN
  | 22 => .inr vN
  | 23 => .inr vN
  | 24 => .inr vN
  | 25 => .inr vN
  | 26 => .inr vN
  | _ => .inl 0

theorem qm_init {s : Nat} {F : aq_F} {c : aq_C} {y : Nat} (hy : F y = (15, 27, mo_t0)) (h10 : c y 10 = 0) : am_E ac_X5_init (0, [vR y, vU, vU], [], aq_h (y + 1) s F c) (mo_Z y (s + 3246) F c) := by
  refine am_E.go (t2 := (1, [vR y, vU, vU], [vR y], aq_h (y + 1) s F c)) rfl rfl ?_
  refine am_E.go (t2 := (4, [vR y, vU, vU], [], aq_h (y + 1) s F c)) rfl rfl ?_
  have f0_0 : ∀ a, a < y → F a = F a := fun _ _ => rfl
  have s_0 : aq_sm (fun a => y ≤ a) c c := aq_sm0
  have t_0 := h10
  refine am_E.go (t2 := (5, [vR y, vU, vU], [vR y], aq_h (y + 1) s F c)) rfl rfl ?_
  refine am_E.go (t2 := (8, [vR y, vU, vU], [vI 992, vR y], aq_h (y + 1) s F c)) rfl rfl ?_
  refine aq_step (o := y) (n := 992) rfl rfl hy (by omega) (by decide) rfl (by decide) rfl (by decide) (fun F_1 c_1 hy_1 a_1 o_1 z_1 u_1 => ?_)
  show am_E _ (13, [vR y, vU, vU], [], aq_h (y + 2) (s + 992) F_1 c_1) _
  have g1_1 : F_1 (y + 1) = (0, 992, fun _ => .inl 0) := a_1
  have f0_1 : ∀ a, a < y → F_1 a = F a := fun a ha => (o_1 a (by omega) (by omega)).trans (f0_0 a ha)
  have t_1 : c_1 y 10 = 0 := by rw [u_1 y (by omega)]; exact t_0
  have s_1 : aq_sm (fun a => y ≤ a) c c_1 := fun a ha i => (u_1 a (by omega) i).trans (s_0 a ha i)
  refine am_E.go (t2 := (14, [vR y, vU, vU], [vR y], aq_h (y + 2) (s + 992) F_1 c_1)) rfl rfl ?_
  refine am_E.go (t2 := (16, [vR y, vU, vU], [vI 124, vR y], aq_h (y + 2) (s + 992) F_1 c_1)) rfl rfl ?_
  refine aq_step (o := y) (n := 124) rfl rfl hy_1 (by omega) (by decide) rfl (by decide) rfl (by decide) (fun F_2 c_2 hy_2 a_2 o_2 z_2 u_2 => ?_)
  show am_E _ (21, [vR y, vU, vU], [], aq_h (y + 3) (s + 1116) F_2 c_2) _
  have g1_2 : F_2 (y + 1) = (0, 992, fun _ => .inl 0) := by rw [o_2 (y + 1) (by omega) (by omega)]; exact g1_1
  have g2_2 : F_2 (y + 2) = (0, 124, fun _ => .inl 0) := a_2
  have f0_2 : ∀ a, a < y → F_2 a = F a := fun a ha => (o_2 a (by omega) (by omega)).trans (f0_1 a ha)
  have t_2 : c_2 y 10 = 0 := by rw [u_2 y (by omega)]; exact t_1
  have s_2 : aq_sm (fun a => y ≤ a) c c_2 := fun a ha i => (u_2 a (by omega) i).trans (s_1 a ha i)
  refine am_E.go (t2 := (22, [vR y, vU, vU], [vR y], aq_h (y + 3) (s + 1116) F_2 c_2)) rfl rfl ?_
  refine am_E.go (t2 := (24, [vR y, vU, vU], [vI 124, vR y], aq_h (y + 3) (s + 1116) F_2 c_2)) rfl rfl ?_
  refine aq_step (o := y) (n := 124) rfl rfl hy_2 (by omega) (by decide) rfl (by decide) rfl (by decide) (fun F_3 c_3 hy_3 a_3 o_3 z_3 u_3 => ?_)
  show am_E _ (29, [vR y, vU, vU], [], aq_h (y + 4) (s + 1240) F_3 c_3) _
  have g1_3 : F_3 (y + 1) = (0, 992, fun _ => .inl 0) := by rw [o_3 (y + 1) (by omega) (by omega)]; exact g1_2
  have g2_3 : F_3 (y + 2) = (0, 124, fun _ => .inl 0) := by rw [o_3 (y + 2) (by omega) (by omega)]; exact g2_2
  have g3_3 : F_3 (y + 3) = (0, 124, fun _ => .inl 0) := a_3
  have f0_3 : ∀ a, a < y → F_3 a = F a := fun a ha => (o_3 a (by omega) (by omega)).trans (f0_2 a ha)
  have t_3 : c_3 y 10 = 0 := by rw [u_3 y (by omega)]; exact t_2
  have s_3 : aq_sm (fun a => y ≤ a) c c_3 := fun a ha i => (u_3 a (by omega) i).trans (s_2 a ha i)
  have z3_3 : ∀ j, c_3 (y + 3) j = 0 := z_3
  refine am_E.go (t2 := (30, [vR y, vU, vU], [vR y], aq_h (y + 4) (s + 1240) F_3 c_3)) rfl rfl ?_
  refine am_E.go (t2 := (32, [vR y, vU, vU], [vI 124, vR y], aq_h (y + 4) (s + 1240) F_3 c_3)) rfl rfl ?_
  refine aq_step (o := y) (n := 124) rfl rfl hy_3 (by omega) (by decide) rfl (by decide) rfl (by decide) (fun F_4 c_4 hy_4 a_4 o_4 z_4 u_4 => ?_)
  show am_E _ (37, [vR y, vU, vU], [], aq_h (y + 5) (s + 1364) F_4 c_4) _
  have g1_4 : F_4 (y + 1) = (0, 992, fun _ => .inl 0) := by rw [o_4 (y + 1) (by omega) (by omega)]; exact g1_3
  have g2_4 : F_4 (y + 2) = (0, 124, fun _ => .inl 0) := by rw [o_4 (y + 2) (by omega) (by omega)]; exact g2_3
  have g3_4 : F_4 (y + 3) = (0, 124, fun _ => .inl 0) := by rw [o_4 (y + 3) (by omega) (by omega)]; exact g3_3
  have g4_4 : F_4 (y + 4) = (0, 124, fun _ => .inl 0) := a_4
  have f0_4 : ∀ a, a < y → F_4 a = F a := fun a ha => (o_4 a (by omega) (by omega)).trans (f0_3 a ha)
  have t_4 : c_4 y 10 = 0 := by rw [u_4 y (by omega)]; exact t_3
  have s_4 : aq_sm (fun a => y ≤ a) c c_4 := fun a ha i => (u_4 a (by omega) i).trans (s_3 a ha i)
  have z3_4 : ∀ j, c_4 (y + 3) j = 0 := fun j => by rw [u_4 (y + 3) (by omega)]; exact z3_3 j
  refine am_E.go (t2 := (38, [vR y, vU, vU], [vR y], aq_h (y + 5) (s + 1364) F_4 c_4)) rfl rfl ?_
  refine am_E.go (t2 := (40, [vR y, vU, vU], [vI 8, vR y], aq_h (y + 5) (s + 1364) F_4 c_4)) rfl rfl ?_
  refine aq_step (o := y) (n := 8) rfl rfl hy_4 (by omega) (by decide) rfl (by decide) rfl (by decide) (fun F_5 c_5 hy_5 a_5 o_5 z_5 u_5 => ?_)
  show am_E _ (45, [vR y, vU, vU], [], aq_h (y + 6) (s + 1372) F_5 c_5) _
  have g1_5 : F_5 (y + 1) = (0, 992, fun _ => .inl 0) := by rw [o_5 (y + 1) (by omega) (by omega)]; exact g1_4
  have g2_5 : F_5 (y + 2) = (0, 124, fun _ => .inl 0) := by rw [o_5 (y + 2) (by omega) (by omega)]; exact g2_4
  have g3_5 : F_5 (y + 3) = (0, 124, fun _ => .inl 0) := by rw [o_5 (y + 3) (by omega) (by omega)]; exact g3_4
  have g4_5 : F_5 (y + 4) = (0, 124, fun _ => .inl 0) := by rw [o_5 (y + 4) (by omega) (by omega)]; exact g4_4
  have g5_5 : F_5 (y + 5) = (0, 8, fun _ => .inl 0) := a_5
  have f0_5 : ∀ a, a < y → F_5 a = F a := fun a ha => (o_5 a (by omega) (by omega)).trans (f0_4 a ha)
  have t_5 : c_5 y 10 = 0 := by rw [u_5 y (by omega)]; exact t_4
  have s_5 : aq_sm (fun a => y ≤ a) c c_5 := fun a ha i => (u_5 a (by omega) i).trans (s_4 a ha i)
  have z3_5 : ∀ j, c_5 (y + 3) j = 0 := fun j => by rw [u_5 (y + 3) (by omega)]; exact z3_4 j
  refine am_E.go (t2 := (46, [vR y, vU, vU], [vR y], aq_h (y + 6) (s + 1372) F_5 c_5)) rfl rfl ?_
  refine am_E.go (t2 := (48, [vR y, vU, vU], [vI 8, vR y], aq_h (y + 6) (s + 1372) F_5 c_5)) rfl rfl ?_
  refine aq_step (o := y) (n := 8) rfl rfl hy_5 (by omega) (by decide) rfl (by decide) rfl (by decide) (fun F_6 c_6 hy_6 a_6 o_6 z_6 u_6 => ?_)
  show am_E _ (53, [vR y, vU, vU], [], aq_h (y + 7) (s + 1380) F_6 c_6) _
  have g1_6 : F_6 (y + 1) = (0, 992, fun _ => .inl 0) := by rw [o_6 (y + 1) (by omega) (by omega)]; exact g1_5
  have g2_6 : F_6 (y + 2) = (0, 124, fun _ => .inl 0) := by rw [o_6 (y + 2) (by omega) (by omega)]; exact g2_5
  have g3_6 : F_6 (y + 3) = (0, 124, fun _ => .inl 0) := by rw [o_6 (y + 3) (by omega) (by omega)]; exact g3_5
  have g4_6 : F_6 (y + 4) = (0, 124, fun _ => .inl 0) := by rw [o_6 (y + 4) (by omega) (by omega)]; exact g4_5
  have g5_6 : F_6 (y + 5) = (0, 8, fun _ => .inl 0) := by rw [o_6 (y + 5) (by omega) (by omega)]; exact g5_5
  have g6_6 : F_6 (y + 6) = (0, 8, fun _ => .inl 0) := a_6
  have f0_6 : ∀ a, a < y → F_6 a = F a := fun a ha => (o_6 a (by omega) (by omega)).trans (f0_5 a ha)
  have t_6 : c_6 y 10 = 0 := by rw [u_6 y (by omega)]; exact t_5
  have s_6 : aq_sm (fun a => y ≤ a) c c_6 := fun a ha i => (u_6 a (by omega) i).trans (s_5 a ha i)
  have z3_6 : ∀ j, c_6 (y + 3) j = 0 := fun j => by rw [u_6 (y + 3) (by omega)]; exact z3_5 j
  have z6_6 : ∀ j, c_6 (y + 6) j = 0 := z_6
  refine am_E.go (t2 := (54, [vR y, vU, vU], [vR y], aq_h (y + 7) (s + 1380) F_6 c_6)) rfl rfl ?_
  refine am_E.go (t2 := (57, [vR y, vU, vU], [vI 320, vR y], aq_h (y + 7) (s + 1380) F_6 c_6)) rfl rfl ?_
  refine aq_step (o := y) (n := 320) rfl rfl hy_6 (by omega) (by decide) rfl (by decide) rfl (by decide) (fun F_7 c_7 hy_7 a_7 o_7 z_7 u_7 => ?_)
  show am_E _ (62, [vR y, vU, vU], [], aq_h (y + 8) (s + 1700) F_7 c_7) _
  have g1_7 : F_7 (y + 1) = (0, 992, fun _ => .inl 0) := by rw [o_7 (y + 1) (by omega) (by omega)]; exact g1_6
  have g2_7 : F_7 (y + 2) = (0, 124, fun _ => .inl 0) := by rw [o_7 (y + 2) (by omega) (by omega)]; exact g2_6
  have g3_7 : F_7 (y + 3) = (0, 124, fun _ => .inl 0) := by rw [o_7 (y + 3) (by omega) (by omega)]; exact g3_6
  have g4_7 : F_7 (y + 4) = (0, 124, fun _ => .inl 0) := by rw [o_7 (y + 4) (by omega) (by omega)]; exact g4_6
  have g5_7 : F_7 (y + 5) = (0, 8, fun _ => .inl 0) := by rw [o_7 (y + 5) (by omega) (by omega)]; exact g5_6
  have g6_7 : F_7 (y + 6) = (0, 8, fun _ => .inl 0) := by rw [o_7 (y + 6) (by omega) (by omega)]; exact g6_6
  have g7_7 : F_7 (y + 7) = (0, 320, fun _ => .inl 0) := a_7
  have f0_7 : ∀ a, a < y → F_7 a = F a := fun a ha => (o_7 a (by omega) (by omega)).trans (f0_6 a ha)
  have t_7 : c_7 y 10 = 0 := by rw [u_7 y (by omega)]; exact t_6
  have s_7 : aq_sm (fun a => y ≤ a) c c_7 := fun a ha i => (u_7 a (by omega) i).trans (s_6 a ha i)
  have z3_7 : ∀ j, c_7 (y + 3) j = 0 := fun j => by rw [u_7 (y + 3) (by omega)]; exact z3_6 j
  have z6_7 : ∀ j, c_7 (y + 6) j = 0 := fun j => by rw [u_7 (y + 6) (by omega)]; exact z6_6 j
  refine am_E.go (t2 := (63, [vR y, vU, vU], [vR y], aq_h (y + 8) (s + 1700) F_7 c_7)) rfl rfl ?_
  refine am_E.go (t2 := (66, [vR y, vU, vU], [vI 320, vR y], aq_h (y + 8) (s + 1700) F_7 c_7)) rfl rfl ?_
  refine aq_step (o := y) (n := 320) rfl rfl hy_7 (by omega) (by decide) rfl (by decide) rfl (by decide) (fun F_8 c_8 hy_8 a_8 o_8 z_8 u_8 => ?_)
  show am_E _ (71, [vR y, vU, vU], [], aq_h (y + 9) (s + 2020) F_8 c_8) _
  have g1_8 : F_8 (y + 1) = (0, 992, fun _ => .inl 0) := by rw [o_8 (y + 1) (by omega) (by omega)]; exact g1_7
  have g2_8 : F_8 (y + 2) = (0, 124, fun _ => .inl 0) := by rw [o_8 (y + 2) (by omega) (by omega)]; exact g2_7
  have g3_8 : F_8 (y + 3) = (0, 124, fun _ => .inl 0) := by rw [o_8 (y + 3) (by omega) (by omega)]; exact g3_7
  have g4_8 : F_8 (y + 4) = (0, 124, fun _ => .inl 0) := by rw [o_8 (y + 4) (by omega) (by omega)]; exact g4_7
  have g5_8 : F_8 (y + 5) = (0, 8, fun _ => .inl 0) := by rw [o_8 (y + 5) (by omega) (by omega)]; exact g5_7
  have g6_8 : F_8 (y + 6) = (0, 8, fun _ => .inl 0) := by rw [o_8 (y + 6) (by omega) (by omega)]; exact g6_7
  have g7_8 : F_8 (y + 7) = (0, 320, fun _ => .inl 0) := by rw [o_8 (y + 7) (by omega) (by omega)]; exact g7_7
  have g8_8 : F_8 (y + 8) = (0, 320, fun _ => .inl 0) := a_8
  have f0_8 : ∀ a, a < y → F_8 a = F a := fun a ha => (o_8 a (by omega) (by omega)).trans (f0_7 a ha)
  have t_8 : c_8 y 10 = 0 := by rw [u_8 y (by omega)]; exact t_7
  have s_8 : aq_sm (fun a => y ≤ a) c c_8 := fun a ha i => (u_8 a (by omega) i).trans (s_7 a ha i)
  have z3_8 : ∀ j, c_8 (y + 3) j = 0 := fun j => by rw [u_8 (y + 3) (by omega)]; exact z3_7 j
  have z6_8 : ∀ j, c_8 (y + 6) j = 0 := fun j => by rw [u_8 (y + 6) (by omega)]; exact z6_7 j
  refine am_E.go (t2 := (72, [vR y, vU, vU], [vR y], aq_h (y + 9) (s + 2020) F_8 c_8)) rfl rfl ?_
  refine am_E.go (t2 := (75, [vR y, vU, vU], [vI 320, vR y], aq_h (y + 9) (s + 2020) F_8 c_8)) rfl rfl ?_
  refine aq_step (o := y) (n := 320) rfl rfl hy_8 (by omega) (by decide) rfl (by decide) rfl (by decide) (fun F_9 c_9 hy_9 a_9 o_9 z_9 u_9 => ?_)
  show am_E _ (80, [vR y, vU, vU], [], aq_h (y + 10) (s + 2340) F_9 c_9) _
  have g1_9 : F_9 (y + 1) = (0, 992, fun _ => .inl 0) := by rw [o_9 (y + 1) (by omega) (by omega)]; exact g1_8
  have g2_9 : F_9 (y + 2) = (0, 124, fun _ => .inl 0) := by rw [o_9 (y + 2) (by omega) (by omega)]; exact g2_8
  have g3_9 : F_9 (y + 3) = (0, 124, fun _ => .inl 0) := by rw [o_9 (y + 3) (by omega) (by omega)]; exact g3_8
  have g4_9 : F_9 (y + 4) = (0, 124, fun _ => .inl 0) := by rw [o_9 (y + 4) (by omega) (by omega)]; exact g4_8
  have g5_9 : F_9 (y + 5) = (0, 8, fun _ => .inl 0) := by rw [o_9 (y + 5) (by omega) (by omega)]; exact g5_8
  have g6_9 : F_9 (y + 6) = (0, 8, fun _ => .inl 0) := by rw [o_9 (y + 6) (by omega) (by omega)]; exact g6_8
  have g7_9 : F_9 (y + 7) = (0, 320, fun _ => .inl 0) := by rw [o_9 (y + 7) (by omega) (by omega)]; exact g7_8
  have g8_9 : F_9 (y + 8) = (0, 320, fun _ => .inl 0) := by rw [o_9 (y + 8) (by omega) (by omega)]; exact g8_8
  have g9_9 : F_9 (y + 9) = (2, 320, fun _ => .inl 2) := a_9
  have f0_9 : ∀ a, a < y → F_9 a = F a := fun a ha => (o_9 a (by omega) (by omega)).trans (f0_8 a ha)
  have t_9 : c_9 y 10 = 0 := by rw [u_9 y (by omega)]; exact t_8
  have s_9 : aq_sm (fun a => y ≤ a) c c_9 := fun a ha i => (u_9 a (by omega) i).trans (s_8 a ha i)
  have z3_9 : ∀ j, c_9 (y + 3) j = 0 := fun j => by rw [u_9 (y + 3) (by omega)]; exact z3_8 j
  have z6_9 : ∀ j, c_9 (y + 6) j = 0 := fun j => by rw [u_9 (y + 6) (by omega)]; exact z6_8 j
  refine am_E.go (t2 := (81, [vR y, vU, vU], [vR y], aq_h (y + 10) (s + 2340) F_9 c_9)) rfl rfl ?_
  refine am_E.go (t2 := (82, [vR y, vU, vU], [vI 2, vR y], aq_h (y + 10) (s + 2340) F_9 c_9)) rfl rfl ?_
  refine aq_pf rfl (by omega) hy_9 (by decide) rfl rfl ?_
  show am_E _ (85, [vR y, vU, vU], [], aq_h (y + 10) (s + 2340) F_9 (aq_u c_9 y 9 2)) _
  generalize hd9 : aq_u c_9 y 9 2 = d_9
  have r_9 : d_9 y 9 = 2 := by rw [← hd9, aq_us]
  have t_9b : d_9 y 10 = 0 := by rw [← hd9, aq_un (Or.inr (by decide))]; exact t_9
  have s_9b : aq_sm (fun a => y ≤ a) c d_9 := aq_smu s_9 hd9 (Nat.le_refl y)
  have z3_9b : ∀ j, d_9 (y + 3) j = 0 := fun j => by rw [← hd9, aq_un (Or.inl (by omega))]; exact z3_9 j
  have z6_9b : ∀ j, d_9 (y + 6) j = 0 := fun j => by rw [← hd9, aq_un (Or.inl (by omega))]; exact z6_9 j
  have t_9 := t_9b
  have s_9 := s_9b
  have z3_9 := z3_9b
  have z6_9 := z6_9b
  refine am_E.go (t2 := (86, [vR y, vU, vU], [vR y], aq_h (y + 10) (s + 2340) F_9 d_9)) rfl rfl ?_
  refine am_E.go (t2 := (88, [vR y, vU, vU], [vI 8, vR y], aq_h (y + 10) (s + 2340) F_9 d_9)) rfl rfl ?_
  refine aq_step (o := y) (n := 8) rfl rfl hy_9 (by omega) (by decide) rfl (by decide) rfl (by decide) (fun F_10 c_10 hy_10 a_10 o_10 z_10 u_10 => ?_)
  show am_E _ (93, [vR y, vU, vU], [], aq_h (y + 11) (s + 2348) F_10 c_10) _
  have g1_10 : F_10 (y + 1) = (0, 992, fun _ => .inl 0) := by rw [o_10 (y + 1) (by omega) (by omega)]; exact g1_9
  have g2_10 : F_10 (y + 2) = (0, 124, fun _ => .inl 0) := by rw [o_10 (y + 2) (by omega) (by omega)]; exact g2_9
  have g3_10 : F_10 (y + 3) = (0, 124, fun _ => .inl 0) := by rw [o_10 (y + 3) (by omega) (by omega)]; exact g3_9
  have g4_10 : F_10 (y + 4) = (0, 124, fun _ => .inl 0) := by rw [o_10 (y + 4) (by omega) (by omega)]; exact g4_9
  have g5_10 : F_10 (y + 5) = (0, 8, fun _ => .inl 0) := by rw [o_10 (y + 5) (by omega) (by omega)]; exact g5_9
  have g6_10 : F_10 (y + 6) = (0, 8, fun _ => .inl 0) := by rw [o_10 (y + 6) (by omega) (by omega)]; exact g6_9
  have g7_10 : F_10 (y + 7) = (0, 320, fun _ => .inl 0) := by rw [o_10 (y + 7) (by omega) (by omega)]; exact g7_9
  have g8_10 : F_10 (y + 8) = (0, 320, fun _ => .inl 0) := by rw [o_10 (y + 8) (by omega) (by omega)]; exact g8_9
  have g9_10 : F_10 (y + 9) = (2, 320, fun _ => .inl 2) := by rw [o_10 (y + 9) (by omega) (by omega)]; exact g9_9
  have g10_10 : F_10 (y + 10) = (0, 8, fun _ => .inl 0) := a_10
  have f0_10 : ∀ a, a < y → F_10 a = F a := fun a ha => (o_10 a (by omega) (by omega)).trans (f0_9 a ha)
  have t_10 : c_10 y 10 = 0 := by rw [u_10 y (by omega)]; exact t_9
  have s_10 : aq_sm (fun a => y ≤ a) c c_10 := fun a ha i => (u_10 a (by omega) i).trans (s_9 a ha i)
  have r_10 : c_10 y 9 = 2 := by rw [u_10 y (by omega)]; exact r_9
  have z3_10 : ∀ j, c_10 (y + 3) j = 0 := fun j => by rw [u_10 (y + 3) (by omega)]; exact z3_9 j
  have z6_10 : ∀ j, c_10 (y + 6) j = 0 := fun j => by rw [u_10 (y + 6) (by omega)]; exact z6_9 j
  refine am_E.go (t2 := (94, [vR y, vU, vU], [vR y], aq_h (y + 11) (s + 2348) F_10 c_10)) rfl rfl ?_
  refine am_E.go (t2 := (96, [vR y, vU, vU], [vI 8, vR y], aq_h (y + 11) (s + 2348) F_10 c_10)) rfl rfl ?_
  refine aq_step (o := y) (n := 8) rfl rfl hy_10 (by omega) (by decide) rfl (by decide) rfl (by decide) (fun F_11 c_11 hy_11 a_11 o_11 z_11 u_11 => ?_)
  show am_E _ (101, [vR y, vU, vU], [], aq_h (y + 12) (s + 2356) F_11 c_11) _
  have g1_11 : F_11 (y + 1) = (0, 992, fun _ => .inl 0) := by rw [o_11 (y + 1) (by omega) (by omega)]; exact g1_10
  have g2_11 : F_11 (y + 2) = (0, 124, fun _ => .inl 0) := by rw [o_11 (y + 2) (by omega) (by omega)]; exact g2_10
  have g3_11 : F_11 (y + 3) = (0, 124, fun _ => .inl 0) := by rw [o_11 (y + 3) (by omega) (by omega)]; exact g3_10
  have g4_11 : F_11 (y + 4) = (0, 124, fun _ => .inl 0) := by rw [o_11 (y + 4) (by omega) (by omega)]; exact g4_10
  have g5_11 : F_11 (y + 5) = (0, 8, fun _ => .inl 0) := by rw [o_11 (y + 5) (by omega) (by omega)]; exact g5_10
  have g6_11 : F_11 (y + 6) = (0, 8, fun _ => .inl 0) := by rw [o_11 (y + 6) (by omega) (by omega)]; exact g6_10
  have g7_11 : F_11 (y + 7) = (0, 320, fun _ => .inl 0) := by rw [o_11 (y + 7) (by omega) (by omega)]; exact g7_10
  have g8_11 : F_11 (y + 8) = (0, 320, fun _ => .inl 0) := by rw [o_11 (y + 8) (by omega) (by omega)]; exact g8_10
  have g9_11 : F_11 (y + 9) = (2, 320, fun _ => .inl 2) := by rw [o_11 (y + 9) (by omega) (by omega)]; exact g9_10
  have g10_11 : F_11 (y + 10) = (0, 8, fun _ => .inl 0) := by rw [o_11 (y + 10) (by omega) (by omega)]; exact g10_10
  have g11_11 : F_11 (y + 11) = (1, 8, fun _ => .inl 0) := a_11
  have f0_11 : ∀ a, a < y → F_11 a = F a := fun a ha => (o_11 a (by omega) (by omega)).trans (f0_10 a ha)
  have t_11 : c_11 y 10 = 0 := by rw [u_11 y (by omega)]; exact t_10
  have s_11 : aq_sm (fun a => y ≤ a) c c_11 := fun a ha i => (u_11 a (by omega) i).trans (s_10 a ha i)
  have r_11 : c_11 y 9 = 2 := by rw [u_11 y (by omega)]; exact r_10
  have z3_11 : ∀ j, c_11 (y + 3) j = 0 := fun j => by rw [u_11 (y + 3) (by omega)]; exact z3_10 j
  have z6_11 : ∀ j, c_11 (y + 6) j = 0 := fun j => by rw [u_11 (y + 6) (by omega)]; exact z6_10 j
  refine am_E.go (t2 := (102, [vR y, vU, vU], [vR y], aq_h (y + 12) (s + 2356) F_11 c_11)) rfl rfl ?_
  refine am_E.go (t2 := (104, [vR y, vU, vU], [vI 8, vR y], aq_h (y + 12) (s + 2356) F_11 c_11)) rfl rfl ?_
  refine aq_step (o := y) (n := 8) rfl rfl hy_11 (by omega) (by decide) rfl (by decide) rfl (by decide) (fun F_12 c_12 hy_12 a_12 o_12 z_12 u_12 => ?_)
  show am_E _ (109, [vR y, vU, vU], [], aq_h (y + 13) (s + 2364) F_12 c_12) _
  have g1_12 : F_12 (y + 1) = (0, 992, fun _ => .inl 0) := by rw [o_12 (y + 1) (by omega) (by omega)]; exact g1_11
  have g2_12 : F_12 (y + 2) = (0, 124, fun _ => .inl 0) := by rw [o_12 (y + 2) (by omega) (by omega)]; exact g2_11
  have g3_12 : F_12 (y + 3) = (0, 124, fun _ => .inl 0) := by rw [o_12 (y + 3) (by omega) (by omega)]; exact g3_11
  have g4_12 : F_12 (y + 4) = (0, 124, fun _ => .inl 0) := by rw [o_12 (y + 4) (by omega) (by omega)]; exact g4_11
  have g5_12 : F_12 (y + 5) = (0, 8, fun _ => .inl 0) := by rw [o_12 (y + 5) (by omega) (by omega)]; exact g5_11
  have g6_12 : F_12 (y + 6) = (0, 8, fun _ => .inl 0) := by rw [o_12 (y + 6) (by omega) (by omega)]; exact g6_11
  have g7_12 : F_12 (y + 7) = (0, 320, fun _ => .inl 0) := by rw [o_12 (y + 7) (by omega) (by omega)]; exact g7_11
  have g8_12 : F_12 (y + 8) = (0, 320, fun _ => .inl 0) := by rw [o_12 (y + 8) (by omega) (by omega)]; exact g8_11
  have g9_12 : F_12 (y + 9) = (2, 320, fun _ => .inl 2) := by rw [o_12 (y + 9) (by omega) (by omega)]; exact g9_11
  have g10_12 : F_12 (y + 10) = (0, 8, fun _ => .inl 0) := by rw [o_12 (y + 10) (by omega) (by omega)]; exact g10_11
  have g11_12 : F_12 (y + 11) = (1, 8, fun _ => .inl 0) := by rw [o_12 (y + 11) (by omega) (by omega)]; exact g11_11
  have g12_12 : F_12 (y + 12) = (0, 8, fun _ => .inl 0) := a_12
  have f0_12 : ∀ a, a < y → F_12 a = F a := fun a ha => (o_12 a (by omega) (by omega)).trans (f0_11 a ha)
  have t_12 : c_12 y 10 = 0 := by rw [u_12 y (by omega)]; exact t_11
  have s_12 : aq_sm (fun a => y ≤ a) c c_12 := fun a ha i => (u_12 a (by omega) i).trans (s_11 a ha i)
  have r_12 : c_12 y 9 = 2 := by rw [u_12 y (by omega)]; exact r_11
  have z3_12 : ∀ j, c_12 (y + 3) j = 0 := fun j => by rw [u_12 (y + 3) (by omega)]; exact z3_11 j
  have z6_12 : ∀ j, c_12 (y + 6) j = 0 := fun j => by rw [u_12 (y + 6) (by omega)]; exact z6_11 j
  refine am_E.go (t2 := (110, [vR y, vU, vU], [vR y], aq_h (y + 13) (s + 2364) F_12 c_12)) rfl rfl ?_
  refine am_E.go (t2 := (111, [vR y, vU, vU], [vI 4, vR y], aq_h (y + 13) (s + 2364) F_12 c_12)) rfl rfl ?_
  refine aq_step (o := y) (n := 4) rfl rfl hy_12 (by omega) (by decide) rfl (by decide) rfl (by decide) (fun F_13 c_13 hy_13 a_13 o_13 z_13 u_13 => ?_)
  show am_E _ (116, [vR y, vU, vU], [], aq_h (y + 14) (s + 2368) F_13 c_13) _
  have g1_13 : F_13 (y + 1) = (0, 992, fun _ => .inl 0) := by rw [o_13 (y + 1) (by omega) (by omega)]; exact g1_12
  have g2_13 : F_13 (y + 2) = (0, 124, fun _ => .inl 0) := by rw [o_13 (y + 2) (by omega) (by omega)]; exact g2_12
  have g3_13 : F_13 (y + 3) = (0, 124, fun _ => .inl 0) := by rw [o_13 (y + 3) (by omega) (by omega)]; exact g3_12
  have g4_13 : F_13 (y + 4) = (0, 124, fun _ => .inl 0) := by rw [o_13 (y + 4) (by omega) (by omega)]; exact g4_12
  have g5_13 : F_13 (y + 5) = (0, 8, fun _ => .inl 0) := by rw [o_13 (y + 5) (by omega) (by omega)]; exact g5_12
  have g6_13 : F_13 (y + 6) = (0, 8, fun _ => .inl 0) := by rw [o_13 (y + 6) (by omega) (by omega)]; exact g6_12
  have g7_13 : F_13 (y + 7) = (0, 320, fun _ => .inl 0) := by rw [o_13 (y + 7) (by omega) (by omega)]; exact g7_12
  have g8_13 : F_13 (y + 8) = (0, 320, fun _ => .inl 0) := by rw [o_13 (y + 8) (by omega) (by omega)]; exact g8_12
  have g9_13 : F_13 (y + 9) = (2, 320, fun _ => .inl 2) := by rw [o_13 (y + 9) (by omega) (by omega)]; exact g9_12
  have g10_13 : F_13 (y + 10) = (0, 8, fun _ => .inl 0) := by rw [o_13 (y + 10) (by omega) (by omega)]; exact g10_12
  have g11_13 : F_13 (y + 11) = (1, 8, fun _ => .inl 0) := by rw [o_13 (y + 11) (by omega) (by omega)]; exact g11_12
  have g12_13 : F_13 (y + 12) = (0, 8, fun _ => .inl 0) := by rw [o_13 (y + 12) (by omega) (by omega)]; exact g12_12
  have g13_13 : F_13 (y + 13) = (1, 4, fun _ => .inl 0) := a_13
  have f0_13 : ∀ a, a < y → F_13 a = F a := fun a ha => (o_13 a (by omega) (by omega)).trans (f0_12 a ha)
  have t_13 : c_13 y 10 = 0 := by rw [u_13 y (by omega)]; exact t_12
  have s_13 : aq_sm (fun a => y ≤ a) c c_13 := fun a ha i => (u_13 a (by omega) i).trans (s_12 a ha i)
  have r_13 : c_13 y 9 = 2 := by rw [u_13 y (by omega)]; exact r_12
  have z3_13 : ∀ j, c_13 (y + 3) j = 0 := fun j => by rw [u_13 (y + 3) (by omega)]; exact z3_12 j
  have z6_13 : ∀ j, c_13 (y + 6) j = 0 := fun j => by rw [u_13 (y + 6) (by omega)]; exact z6_12 j
  refine am_E.go (t2 := (117, [vR y, vU, vU], [vR y], aq_h (y + 14) (s + 2368) F_13 c_13)) rfl rfl ?_
  refine am_E.go (t2 := (119, [vR y, vU, vU], [vI 105, vR y], aq_h (y + 14) (s + 2368) F_13 c_13)) rfl rfl ?_
  refine aq_step (o := y) (n := 105) rfl rfl hy_13 (by omega) (by decide) rfl (by decide) rfl (by decide) (fun F_14 c_14 hy_14 a_14 o_14 z_14 u_14 => ?_)
  show am_E _ (124, [vR y, vU, vU], [], aq_h (y + 15) (s + 2473) F_14 c_14) _
  have g1_14 : F_14 (y + 1) = (0, 992, fun _ => .inl 0) := by rw [o_14 (y + 1) (by omega) (by omega)]; exact g1_13
  have g2_14 : F_14 (y + 2) = (0, 124, fun _ => .inl 0) := by rw [o_14 (y + 2) (by omega) (by omega)]; exact g2_13
  have g3_14 : F_14 (y + 3) = (0, 124, fun _ => .inl 0) := by rw [o_14 (y + 3) (by omega) (by omega)]; exact g3_13
  have g4_14 : F_14 (y + 4) = (0, 124, fun _ => .inl 0) := by rw [o_14 (y + 4) (by omega) (by omega)]; exact g4_13
  have g5_14 : F_14 (y + 5) = (0, 8, fun _ => .inl 0) := by rw [o_14 (y + 5) (by omega) (by omega)]; exact g5_13
  have g6_14 : F_14 (y + 6) = (0, 8, fun _ => .inl 0) := by rw [o_14 (y + 6) (by omega) (by omega)]; exact g6_13
  have g7_14 : F_14 (y + 7) = (0, 320, fun _ => .inl 0) := by rw [o_14 (y + 7) (by omega) (by omega)]; exact g7_13
  have g8_14 : F_14 (y + 8) = (0, 320, fun _ => .inl 0) := by rw [o_14 (y + 8) (by omega) (by omega)]; exact g8_13
  have g9_14 : F_14 (y + 9) = (2, 320, fun _ => .inl 2) := by rw [o_14 (y + 9) (by omega) (by omega)]; exact g9_13
  have g10_14 : F_14 (y + 10) = (0, 8, fun _ => .inl 0) := by rw [o_14 (y + 10) (by omega) (by omega)]; exact g10_13
  have g11_14 : F_14 (y + 11) = (1, 8, fun _ => .inl 0) := by rw [o_14 (y + 11) (by omega) (by omega)]; exact g11_13
  have g12_14 : F_14 (y + 12) = (0, 8, fun _ => .inl 0) := by rw [o_14 (y + 12) (by omega) (by omega)]; exact g12_13
  have g13_14 : F_14 (y + 13) = (1, 4, fun _ => .inl 0) := by rw [o_14 (y + 13) (by omega) (by omega)]; exact g13_13
  have g14_14 : F_14 (y + 14) = (0, 105, fun _ => .inl 0) := a_14
  have f0_14 : ∀ a, a < y → F_14 a = F a := fun a ha => (o_14 a (by omega) (by omega)).trans (f0_13 a ha)
  have t_14 : c_14 y 10 = 0 := by rw [u_14 y (by omega)]; exact t_13
  have s_14 : aq_sm (fun a => y ≤ a) c c_14 := fun a ha i => (u_14 a (by omega) i).trans (s_13 a ha i)
  have r_14 : c_14 y 9 = 2 := by rw [u_14 y (by omega)]; exact r_13
  have z3_14 : ∀ j, c_14 (y + 3) j = 0 := fun j => by rw [u_14 (y + 3) (by omega)]; exact z3_13 j
  have z6_14 : ∀ j, c_14 (y + 6) j = 0 := fun j => by rw [u_14 (y + 6) (by omega)]; exact z6_13 j
  refine am_E.go (t2 := (125, [vR y, vU, vU], [vR y], aq_h (y + 15) (s + 2473) F_14 c_14)) rfl rfl ?_
  refine am_E.go (t2 := (127, [vR y, vU, vU], [vI 42, vR y], aq_h (y + 15) (s + 2473) F_14 c_14)) rfl rfl ?_
  refine aq_step (o := y) (n := 42) rfl rfl hy_14 (by omega) (by decide) rfl (by decide) rfl (by decide) (fun F_15 c_15 hy_15 a_15 o_15 z_15 u_15 => ?_)
  show am_E _ (132, [vR y, vU, vU], [], aq_h (y + 16) (s + 2515) F_15 c_15) _
  have g1_15 : F_15 (y + 1) = (0, 992, fun _ => .inl 0) := by rw [o_15 (y + 1) (by omega) (by omega)]; exact g1_14
  have g2_15 : F_15 (y + 2) = (0, 124, fun _ => .inl 0) := by rw [o_15 (y + 2) (by omega) (by omega)]; exact g2_14
  have g3_15 : F_15 (y + 3) = (0, 124, fun _ => .inl 0) := by rw [o_15 (y + 3) (by omega) (by omega)]; exact g3_14
  have g4_15 : F_15 (y + 4) = (0, 124, fun _ => .inl 0) := by rw [o_15 (y + 4) (by omega) (by omega)]; exact g4_14
  have g5_15 : F_15 (y + 5) = (0, 8, fun _ => .inl 0) := by rw [o_15 (y + 5) (by omega) (by omega)]; exact g5_14
  have g6_15 : F_15 (y + 6) = (0, 8, fun _ => .inl 0) := by rw [o_15 (y + 6) (by omega) (by omega)]; exact g6_14
  have g7_15 : F_15 (y + 7) = (0, 320, fun _ => .inl 0) := by rw [o_15 (y + 7) (by omega) (by omega)]; exact g7_14
  have g8_15 : F_15 (y + 8) = (0, 320, fun _ => .inl 0) := by rw [o_15 (y + 8) (by omega) (by omega)]; exact g8_14
  have g9_15 : F_15 (y + 9) = (2, 320, fun _ => .inl 2) := by rw [o_15 (y + 9) (by omega) (by omega)]; exact g9_14
  have g10_15 : F_15 (y + 10) = (0, 8, fun _ => .inl 0) := by rw [o_15 (y + 10) (by omega) (by omega)]; exact g10_14
  have g11_15 : F_15 (y + 11) = (1, 8, fun _ => .inl 0) := by rw [o_15 (y + 11) (by omega) (by omega)]; exact g11_14
  have g12_15 : F_15 (y + 12) = (0, 8, fun _ => .inl 0) := by rw [o_15 (y + 12) (by omega) (by omega)]; exact g12_14
  have g13_15 : F_15 (y + 13) = (1, 4, fun _ => .inl 0) := by rw [o_15 (y + 13) (by omega) (by omega)]; exact g13_14
  have g14_15 : F_15 (y + 14) = (0, 105, fun _ => .inl 0) := by rw [o_15 (y + 14) (by omega) (by omega)]; exact g14_14
  have g15_15 : F_15 (y + 15) = (0, 42, fun _ => .inl 0) := a_15
  have f0_15 : ∀ a, a < y → F_15 a = F a := fun a ha => (o_15 a (by omega) (by omega)).trans (f0_14 a ha)
  have t_15 : c_15 y 10 = 0 := by rw [u_15 y (by omega)]; exact t_14
  have s_15 : aq_sm (fun a => y ≤ a) c c_15 := fun a ha i => (u_15 a (by omega) i).trans (s_14 a ha i)
  have r_15 : c_15 y 9 = 2 := by rw [u_15 y (by omega)]; exact r_14
  have z3_15 : ∀ j, c_15 (y + 3) j = 0 := fun j => by rw [u_15 (y + 3) (by omega)]; exact z3_14 j
  have z6_15 : ∀ j, c_15 (y + 6) j = 0 := fun j => by rw [u_15 (y + 6) (by omega)]; exact z6_14 j
  refine am_E.go (t2 := (133, [vR y, vU, vU], [vR y], aq_h (y + 16) (s + 2515) F_15 c_15)) rfl rfl ?_
  refine am_E.go (t2 := (135, [vR y, vU, vU], [vI 42, vR y], aq_h (y + 16) (s + 2515) F_15 c_15)) rfl rfl ?_
  refine aq_step (o := y) (n := 42) rfl rfl hy_15 (by omega) (by decide) rfl (by decide) rfl (by decide) (fun F_16 c_16 hy_16 a_16 o_16 z_16 u_16 => ?_)
  show am_E _ (140, [vR y, vU, vU], [], aq_h (y + 17) (s + 2557) F_16 c_16) _
  have g1_16 : F_16 (y + 1) = (0, 992, fun _ => .inl 0) := by rw [o_16 (y + 1) (by omega) (by omega)]; exact g1_15
  have g2_16 : F_16 (y + 2) = (0, 124, fun _ => .inl 0) := by rw [o_16 (y + 2) (by omega) (by omega)]; exact g2_15
  have g3_16 : F_16 (y + 3) = (0, 124, fun _ => .inl 0) := by rw [o_16 (y + 3) (by omega) (by omega)]; exact g3_15
  have g4_16 : F_16 (y + 4) = (0, 124, fun _ => .inl 0) := by rw [o_16 (y + 4) (by omega) (by omega)]; exact g4_15
  have g5_16 : F_16 (y + 5) = (0, 8, fun _ => .inl 0) := by rw [o_16 (y + 5) (by omega) (by omega)]; exact g5_15
  have g6_16 : F_16 (y + 6) = (0, 8, fun _ => .inl 0) := by rw [o_16 (y + 6) (by omega) (by omega)]; exact g6_15
  have g7_16 : F_16 (y + 7) = (0, 320, fun _ => .inl 0) := by rw [o_16 (y + 7) (by omega) (by omega)]; exact g7_15
  have g8_16 : F_16 (y + 8) = (0, 320, fun _ => .inl 0) := by rw [o_16 (y + 8) (by omega) (by omega)]; exact g8_15
  have g9_16 : F_16 (y + 9) = (2, 320, fun _ => .inl 2) := by rw [o_16 (y + 9) (by omega) (by omega)]; exact g9_15
  have g10_16 : F_16 (y + 10) = (0, 8, fun _ => .inl 0) := by rw [o_16 (y + 10) (by omega) (by omega)]; exact g10_15
  have g11_16 : F_16 (y + 11) = (1, 8, fun _ => .inl 0) := by rw [o_16 (y + 11) (by omega) (by omega)]; exact g11_15
  have g12_16 : F_16 (y + 12) = (0, 8, fun _ => .inl 0) := by rw [o_16 (y + 12) (by omega) (by omega)]; exact g12_15
  have g13_16 : F_16 (y + 13) = (1, 4, fun _ => .inl 0) := by rw [o_16 (y + 13) (by omega) (by omega)]; exact g13_15
  have g14_16 : F_16 (y + 14) = (0, 105, fun _ => .inl 0) := by rw [o_16 (y + 14) (by omega) (by omega)]; exact g14_15
  have g15_16 : F_16 (y + 15) = (0, 42, fun _ => .inl 0) := by rw [o_16 (y + 15) (by omega) (by omega)]; exact g15_15
  have g16_16 : F_16 (y + 16) = (0, 42, fun _ => .inl 0) := a_16
  have f0_16 : ∀ a, a < y → F_16 a = F a := fun a ha => (o_16 a (by omega) (by omega)).trans (f0_15 a ha)
  have t_16 : c_16 y 10 = 0 := by rw [u_16 y (by omega)]; exact t_15
  have s_16 : aq_sm (fun a => y ≤ a) c c_16 := fun a ha i => (u_16 a (by omega) i).trans (s_15 a ha i)
  have r_16 : c_16 y 9 = 2 := by rw [u_16 y (by omega)]; exact r_15
  have z3_16 : ∀ j, c_16 (y + 3) j = 0 := fun j => by rw [u_16 (y + 3) (by omega)]; exact z3_15 j
  have z6_16 : ∀ j, c_16 (y + 6) j = 0 := fun j => by rw [u_16 (y + 6) (by omega)]; exact z6_15 j
  refine am_E.go (t2 := (141, [vR y, vU, vU], [vR y], aq_h (y + 17) (s + 2557) F_16 c_16)) rfl rfl ?_
  refine am_E.go (t2 := (143, [vR y, vU, vU], [vI 42, vR y], aq_h (y + 17) (s + 2557) F_16 c_16)) rfl rfl ?_
  refine aq_step (o := y) (n := 42) rfl rfl hy_16 (by omega) (by decide) rfl (by decide) rfl (by decide) (fun F_17 c_17 hy_17 a_17 o_17 z_17 u_17 => ?_)
  show am_E _ (148, [vR y, vU, vU], [], aq_h (y + 18) (s + 2599) F_17 c_17) _
  have g1_17 : F_17 (y + 1) = (0, 992, fun _ => .inl 0) := by rw [o_17 (y + 1) (by omega) (by omega)]; exact g1_16
  have g2_17 : F_17 (y + 2) = (0, 124, fun _ => .inl 0) := by rw [o_17 (y + 2) (by omega) (by omega)]; exact g2_16
  have g3_17 : F_17 (y + 3) = (0, 124, fun _ => .inl 0) := by rw [o_17 (y + 3) (by omega) (by omega)]; exact g3_16
  have g4_17 : F_17 (y + 4) = (0, 124, fun _ => .inl 0) := by rw [o_17 (y + 4) (by omega) (by omega)]; exact g4_16
  have g5_17 : F_17 (y + 5) = (0, 8, fun _ => .inl 0) := by rw [o_17 (y + 5) (by omega) (by omega)]; exact g5_16
  have g6_17 : F_17 (y + 6) = (0, 8, fun _ => .inl 0) := by rw [o_17 (y + 6) (by omega) (by omega)]; exact g6_16
  have g7_17 : F_17 (y + 7) = (0, 320, fun _ => .inl 0) := by rw [o_17 (y + 7) (by omega) (by omega)]; exact g7_16
  have g8_17 : F_17 (y + 8) = (0, 320, fun _ => .inl 0) := by rw [o_17 (y + 8) (by omega) (by omega)]; exact g8_16
  have g9_17 : F_17 (y + 9) = (2, 320, fun _ => .inl 2) := by rw [o_17 (y + 9) (by omega) (by omega)]; exact g9_16
  have g10_17 : F_17 (y + 10) = (0, 8, fun _ => .inl 0) := by rw [o_17 (y + 10) (by omega) (by omega)]; exact g10_16
  have g11_17 : F_17 (y + 11) = (1, 8, fun _ => .inl 0) := by rw [o_17 (y + 11) (by omega) (by omega)]; exact g11_16
  have g12_17 : F_17 (y + 12) = (0, 8, fun _ => .inl 0) := by rw [o_17 (y + 12) (by omega) (by omega)]; exact g12_16
  have g13_17 : F_17 (y + 13) = (1, 4, fun _ => .inl 0) := by rw [o_17 (y + 13) (by omega) (by omega)]; exact g13_16
  have g14_17 : F_17 (y + 14) = (0, 105, fun _ => .inl 0) := by rw [o_17 (y + 14) (by omega) (by omega)]; exact g14_16
  have g15_17 : F_17 (y + 15) = (0, 42, fun _ => .inl 0) := by rw [o_17 (y + 15) (by omega) (by omega)]; exact g15_16
  have g16_17 : F_17 (y + 16) = (0, 42, fun _ => .inl 0) := by rw [o_17 (y + 16) (by omega) (by omega)]; exact g16_16
  have g17_17 : F_17 (y + 17) = (2, 42, fun _ => .inl 2) := a_17
  have f0_17 : ∀ a, a < y → F_17 a = F a := fun a ha => (o_17 a (by omega) (by omega)).trans (f0_16 a ha)
  have t_17 : c_17 y 10 = 0 := by rw [u_17 y (by omega)]; exact t_16
  have s_17 : aq_sm (fun a => y ≤ a) c c_17 := fun a ha i => (u_17 a (by omega) i).trans (s_16 a ha i)
  have r_17 : c_17 y 9 = 2 := by rw [u_17 y (by omega)]; exact r_16
  have z3_17 : ∀ j, c_17 (y + 3) j = 0 := fun j => by rw [u_17 (y + 3) (by omega)]; exact z3_16 j
  have z6_17 : ∀ j, c_17 (y + 6) j = 0 := fun j => by rw [u_17 (y + 6) (by omega)]; exact z6_16 j
  refine am_E.go (t2 := (149, [vR y, vU, vU], [vR y], aq_h (y + 18) (s + 2599) F_17 c_17)) rfl rfl ?_
  refine am_E.go (t2 := (150, [vR y, vU, vU], [vI 4, vR y], aq_h (y + 18) (s + 2599) F_17 c_17)) rfl rfl ?_
  refine aq_step (o := y) (n := 4) rfl rfl hy_17 (by omega) (by decide) rfl (by decide) rfl (by decide) (fun F_18 c_18 hy_18 a_18 o_18 z_18 u_18 => ?_)
  show am_E _ (155, [vR y, vU, vU], [], aq_h (y + 19) (s + 2603) F_18 c_18) _
  have g1_18 : F_18 (y + 1) = (0, 992, fun _ => .inl 0) := by rw [o_18 (y + 1) (by omega) (by omega)]; exact g1_17
  have g2_18 : F_18 (y + 2) = (0, 124, fun _ => .inl 0) := by rw [o_18 (y + 2) (by omega) (by omega)]; exact g2_17
  have g3_18 : F_18 (y + 3) = (0, 124, fun _ => .inl 0) := by rw [o_18 (y + 3) (by omega) (by omega)]; exact g3_17
  have g4_18 : F_18 (y + 4) = (0, 124, fun _ => .inl 0) := by rw [o_18 (y + 4) (by omega) (by omega)]; exact g4_17
  have g5_18 : F_18 (y + 5) = (0, 8, fun _ => .inl 0) := by rw [o_18 (y + 5) (by omega) (by omega)]; exact g5_17
  have g6_18 : F_18 (y + 6) = (0, 8, fun _ => .inl 0) := by rw [o_18 (y + 6) (by omega) (by omega)]; exact g6_17
  have g7_18 : F_18 (y + 7) = (0, 320, fun _ => .inl 0) := by rw [o_18 (y + 7) (by omega) (by omega)]; exact g7_17
  have g8_18 : F_18 (y + 8) = (0, 320, fun _ => .inl 0) := by rw [o_18 (y + 8) (by omega) (by omega)]; exact g8_17
  have g9_18 : F_18 (y + 9) = (2, 320, fun _ => .inl 2) := by rw [o_18 (y + 9) (by omega) (by omega)]; exact g9_17
  have g10_18 : F_18 (y + 10) = (0, 8, fun _ => .inl 0) := by rw [o_18 (y + 10) (by omega) (by omega)]; exact g10_17
  have g11_18 : F_18 (y + 11) = (1, 8, fun _ => .inl 0) := by rw [o_18 (y + 11) (by omega) (by omega)]; exact g11_17
  have g12_18 : F_18 (y + 12) = (0, 8, fun _ => .inl 0) := by rw [o_18 (y + 12) (by omega) (by omega)]; exact g12_17
  have g13_18 : F_18 (y + 13) = (1, 4, fun _ => .inl 0) := by rw [o_18 (y + 13) (by omega) (by omega)]; exact g13_17
  have g14_18 : F_18 (y + 14) = (0, 105, fun _ => .inl 0) := by rw [o_18 (y + 14) (by omega) (by omega)]; exact g14_17
  have g15_18 : F_18 (y + 15) = (0, 42, fun _ => .inl 0) := by rw [o_18 (y + 15) (by omega) (by omega)]; exact g15_17
  have g16_18 : F_18 (y + 16) = (0, 42, fun _ => .inl 0) := by rw [o_18 (y + 16) (by omega) (by omega)]; exact g16_17
  have g17_18 : F_18 (y + 17) = (2, 42, fun _ => .inl 2) := by rw [o_18 (y + 17) (by omega) (by omega)]; exact g17_17
  have g18_18 : F_18 (y + 18) = (0, 4, fun _ => .inl 0) := a_18
  have f0_18 : ∀ a, a < y → F_18 a = F a := fun a ha => (o_18 a (by omega) (by omega)).trans (f0_17 a ha)
  have t_18 : c_18 y 10 = 0 := by rw [u_18 y (by omega)]; exact t_17
  have s_18 : aq_sm (fun a => y ≤ a) c c_18 := fun a ha i => (u_18 a (by omega) i).trans (s_17 a ha i)
  have r_18 : c_18 y 9 = 2 := by rw [u_18 y (by omega)]; exact r_17
  have z3_18 : ∀ j, c_18 (y + 3) j = 0 := fun j => by rw [u_18 (y + 3) (by omega)]; exact z3_17 j
  have z6_18 : ∀ j, c_18 (y + 6) j = 0 := fun j => by rw [u_18 (y + 6) (by omega)]; exact z6_17 j
  refine am_E.go (t2 := (156, [vR y, vU, vU], [vR y], aq_h (y + 19) (s + 2603) F_18 c_18)) rfl rfl ?_
  refine am_E.go (t2 := (157, [vR y, vU, vU], [vI 4, vR y], aq_h (y + 19) (s + 2603) F_18 c_18)) rfl rfl ?_
  refine aq_step (o := y) (n := 4) rfl rfl hy_18 (by omega) (by decide) rfl (by decide) rfl (by decide) (fun F_19 c_19 hy_19 a_19 o_19 z_19 u_19 => ?_)
  show am_E _ (162, [vR y, vU, vU], [], aq_h (y + 20) (s + 2607) F_19 c_19) _
  have g1_19 : F_19 (y + 1) = (0, 992, fun _ => .inl 0) := by rw [o_19 (y + 1) (by omega) (by omega)]; exact g1_18
  have g2_19 : F_19 (y + 2) = (0, 124, fun _ => .inl 0) := by rw [o_19 (y + 2) (by omega) (by omega)]; exact g2_18
  have g3_19 : F_19 (y + 3) = (0, 124, fun _ => .inl 0) := by rw [o_19 (y + 3) (by omega) (by omega)]; exact g3_18
  have g4_19 : F_19 (y + 4) = (0, 124, fun _ => .inl 0) := by rw [o_19 (y + 4) (by omega) (by omega)]; exact g4_18
  have g5_19 : F_19 (y + 5) = (0, 8, fun _ => .inl 0) := by rw [o_19 (y + 5) (by omega) (by omega)]; exact g5_18
  have g6_19 : F_19 (y + 6) = (0, 8, fun _ => .inl 0) := by rw [o_19 (y + 6) (by omega) (by omega)]; exact g6_18
  have g7_19 : F_19 (y + 7) = (0, 320, fun _ => .inl 0) := by rw [o_19 (y + 7) (by omega) (by omega)]; exact g7_18
  have g8_19 : F_19 (y + 8) = (0, 320, fun _ => .inl 0) := by rw [o_19 (y + 8) (by omega) (by omega)]; exact g8_18
  have g9_19 : F_19 (y + 9) = (2, 320, fun _ => .inl 2) := by rw [o_19 (y + 9) (by omega) (by omega)]; exact g9_18
  have g10_19 : F_19 (y + 10) = (0, 8, fun _ => .inl 0) := by rw [o_19 (y + 10) (by omega) (by omega)]; exact g10_18
  have g11_19 : F_19 (y + 11) = (1, 8, fun _ => .inl 0) := by rw [o_19 (y + 11) (by omega) (by omega)]; exact g11_18
  have g12_19 : F_19 (y + 12) = (0, 8, fun _ => .inl 0) := by rw [o_19 (y + 12) (by omega) (by omega)]; exact g12_18
  have g13_19 : F_19 (y + 13) = (1, 4, fun _ => .inl 0) := by rw [o_19 (y + 13) (by omega) (by omega)]; exact g13_18
  have g14_19 : F_19 (y + 14) = (0, 105, fun _ => .inl 0) := by rw [o_19 (y + 14) (by omega) (by omega)]; exact g14_18
  have g15_19 : F_19 (y + 15) = (0, 42, fun _ => .inl 0) := by rw [o_19 (y + 15) (by omega) (by omega)]; exact g15_18
  have g16_19 : F_19 (y + 16) = (0, 42, fun _ => .inl 0) := by rw [o_19 (y + 16) (by omega) (by omega)]; exact g16_18
  have g17_19 : F_19 (y + 17) = (2, 42, fun _ => .inl 2) := by rw [o_19 (y + 17) (by omega) (by omega)]; exact g17_18
  have g18_19 : F_19 (y + 18) = (0, 4, fun _ => .inl 0) := by rw [o_19 (y + 18) (by omega) (by omega)]; exact g18_18
  have g19_19 : F_19 (y + 19) = (0, 4, fun _ => .inl 0) := a_19
  have f0_19 : ∀ a, a < y → F_19 a = F a := fun a ha => (o_19 a (by omega) (by omega)).trans (f0_18 a ha)
  have t_19 : c_19 y 10 = 0 := by rw [u_19 y (by omega)]; exact t_18
  have s_19 : aq_sm (fun a => y ≤ a) c c_19 := fun a ha i => (u_19 a (by omega) i).trans (s_18 a ha i)
  have r_19 : c_19 y 9 = 2 := by rw [u_19 y (by omega)]; exact r_18
  have z3_19 : ∀ j, c_19 (y + 3) j = 0 := fun j => by rw [u_19 (y + 3) (by omega)]; exact z3_18 j
  have z6_19 : ∀ j, c_19 (y + 6) j = 0 := fun j => by rw [u_19 (y + 6) (by omega)]; exact z6_18 j
  refine am_E.go (t2 := (163, [vR y, vU, vU], [vR y], aq_h (y + 20) (s + 2607) F_19 c_19)) rfl rfl ?_
  refine am_E.go (t2 := (165, [vR y, vU, vU], [vI 36, vR y], aq_h (y + 20) (s + 2607) F_19 c_19)) rfl rfl ?_
  refine aq_step (o := y) (n := 36) rfl rfl hy_19 (by omega) (by decide) rfl (by decide) rfl (by decide) (fun F_20 c_20 hy_20 a_20 o_20 z_20 u_20 => ?_)
  show am_E _ (170, [vR y, vU, vU], [], aq_h (y + 21) (s + 2643) F_20 c_20) _
  have g1_20 : F_20 (y + 1) = (0, 992, fun _ => .inl 0) := by rw [o_20 (y + 1) (by omega) (by omega)]; exact g1_19
  have g2_20 : F_20 (y + 2) = (0, 124, fun _ => .inl 0) := by rw [o_20 (y + 2) (by omega) (by omega)]; exact g2_19
  have g3_20 : F_20 (y + 3) = (0, 124, fun _ => .inl 0) := by rw [o_20 (y + 3) (by omega) (by omega)]; exact g3_19
  have g4_20 : F_20 (y + 4) = (0, 124, fun _ => .inl 0) := by rw [o_20 (y + 4) (by omega) (by omega)]; exact g4_19
  have g5_20 : F_20 (y + 5) = (0, 8, fun _ => .inl 0) := by rw [o_20 (y + 5) (by omega) (by omega)]; exact g5_19
  have g6_20 : F_20 (y + 6) = (0, 8, fun _ => .inl 0) := by rw [o_20 (y + 6) (by omega) (by omega)]; exact g6_19
  have g7_20 : F_20 (y + 7) = (0, 320, fun _ => .inl 0) := by rw [o_20 (y + 7) (by omega) (by omega)]; exact g7_19
  have g8_20 : F_20 (y + 8) = (0, 320, fun _ => .inl 0) := by rw [o_20 (y + 8) (by omega) (by omega)]; exact g8_19
  have g9_20 : F_20 (y + 9) = (2, 320, fun _ => .inl 2) := by rw [o_20 (y + 9) (by omega) (by omega)]; exact g9_19
  have g10_20 : F_20 (y + 10) = (0, 8, fun _ => .inl 0) := by rw [o_20 (y + 10) (by omega) (by omega)]; exact g10_19
  have g11_20 : F_20 (y + 11) = (1, 8, fun _ => .inl 0) := by rw [o_20 (y + 11) (by omega) (by omega)]; exact g11_19
  have g12_20 : F_20 (y + 12) = (0, 8, fun _ => .inl 0) := by rw [o_20 (y + 12) (by omega) (by omega)]; exact g12_19
  have g13_20 : F_20 (y + 13) = (1, 4, fun _ => .inl 0) := by rw [o_20 (y + 13) (by omega) (by omega)]; exact g13_19
  have g14_20 : F_20 (y + 14) = (0, 105, fun _ => .inl 0) := by rw [o_20 (y + 14) (by omega) (by omega)]; exact g14_19
  have g15_20 : F_20 (y + 15) = (0, 42, fun _ => .inl 0) := by rw [o_20 (y + 15) (by omega) (by omega)]; exact g15_19
  have g16_20 : F_20 (y + 16) = (0, 42, fun _ => .inl 0) := by rw [o_20 (y + 16) (by omega) (by omega)]; exact g16_19
  have g17_20 : F_20 (y + 17) = (2, 42, fun _ => .inl 2) := by rw [o_20 (y + 17) (by omega) (by omega)]; exact g17_19
  have g18_20 : F_20 (y + 18) = (0, 4, fun _ => .inl 0) := by rw [o_20 (y + 18) (by omega) (by omega)]; exact g18_19
  have g19_20 : F_20 (y + 19) = (0, 4, fun _ => .inl 0) := by rw [o_20 (y + 19) (by omega) (by omega)]; exact g19_19
  have g20_20 : F_20 (y + 20) = (0, 36, fun _ => .inl 0) := a_20
  have f0_20 : ∀ a, a < y → F_20 a = F a := fun a ha => (o_20 a (by omega) (by omega)).trans (f0_19 a ha)
  have t_20 : c_20 y 10 = 0 := by rw [u_20 y (by omega)]; exact t_19
  have s_20 : aq_sm (fun a => y ≤ a) c c_20 := fun a ha i => (u_20 a (by omega) i).trans (s_19 a ha i)
  have r_20 : c_20 y 9 = 2 := by rw [u_20 y (by omega)]; exact r_19
  have z3_20 : ∀ j, c_20 (y + 3) j = 0 := fun j => by rw [u_20 (y + 3) (by omega)]; exact z3_19 j
  have z6_20 : ∀ j, c_20 (y + 6) j = 0 := fun j => by rw [u_20 (y + 6) (by omega)]; exact z6_19 j
  refine am_E.go (t2 := (171, [vR y, vU, vU], [vR y], aq_h (y + 21) (s + 2643) F_20 c_20)) rfl rfl ?_
  refine am_E.go (t2 := (174, [vR y, vU, vU], [vI 201, vR y], aq_h (y + 21) (s + 2643) F_20 c_20)) rfl rfl ?_
  refine aq_step (o := y) (n := 201) rfl rfl hy_20 (by omega) (by decide) rfl (by decide) rfl (by decide) (fun F_21 c_21 hy_21 a_21 o_21 z_21 u_21 => ?_)
  show am_E _ (179, [vR y, vU, vU], [], aq_h (y + 22) (s + 2844) F_21 c_21) _
  have g1_21 : F_21 (y + 1) = (0, 992, fun _ => .inl 0) := by rw [o_21 (y + 1) (by omega) (by omega)]; exact g1_20
  have g2_21 : F_21 (y + 2) = (0, 124, fun _ => .inl 0) := by rw [o_21 (y + 2) (by omega) (by omega)]; exact g2_20
  have g3_21 : F_21 (y + 3) = (0, 124, fun _ => .inl 0) := by rw [o_21 (y + 3) (by omega) (by omega)]; exact g3_20
  have g4_21 : F_21 (y + 4) = (0, 124, fun _ => .inl 0) := by rw [o_21 (y + 4) (by omega) (by omega)]; exact g4_20
  have g5_21 : F_21 (y + 5) = (0, 8, fun _ => .inl 0) := by rw [o_21 (y + 5) (by omega) (by omega)]; exact g5_20
  have g6_21 : F_21 (y + 6) = (0, 8, fun _ => .inl 0) := by rw [o_21 (y + 6) (by omega) (by omega)]; exact g6_20
  have g7_21 : F_21 (y + 7) = (0, 320, fun _ => .inl 0) := by rw [o_21 (y + 7) (by omega) (by omega)]; exact g7_20
  have g8_21 : F_21 (y + 8) = (0, 320, fun _ => .inl 0) := by rw [o_21 (y + 8) (by omega) (by omega)]; exact g8_20
  have g9_21 : F_21 (y + 9) = (2, 320, fun _ => .inl 2) := by rw [o_21 (y + 9) (by omega) (by omega)]; exact g9_20
  have g10_21 : F_21 (y + 10) = (0, 8, fun _ => .inl 0) := by rw [o_21 (y + 10) (by omega) (by omega)]; exact g10_20
  have g11_21 : F_21 (y + 11) = (1, 8, fun _ => .inl 0) := by rw [o_21 (y + 11) (by omega) (by omega)]; exact g11_20
  have g12_21 : F_21 (y + 12) = (0, 8, fun _ => .inl 0) := by rw [o_21 (y + 12) (by omega) (by omega)]; exact g12_20
  have g13_21 : F_21 (y + 13) = (1, 4, fun _ => .inl 0) := by rw [o_21 (y + 13) (by omega) (by omega)]; exact g13_20
  have g14_21 : F_21 (y + 14) = (0, 105, fun _ => .inl 0) := by rw [o_21 (y + 14) (by omega) (by omega)]; exact g14_20
  have g15_21 : F_21 (y + 15) = (0, 42, fun _ => .inl 0) := by rw [o_21 (y + 15) (by omega) (by omega)]; exact g15_20
  have g16_21 : F_21 (y + 16) = (0, 42, fun _ => .inl 0) := by rw [o_21 (y + 16) (by omega) (by omega)]; exact g16_20
  have g17_21 : F_21 (y + 17) = (2, 42, fun _ => .inl 2) := by rw [o_21 (y + 17) (by omega) (by omega)]; exact g17_20
  have g18_21 : F_21 (y + 18) = (0, 4, fun _ => .inl 0) := by rw [o_21 (y + 18) (by omega) (by omega)]; exact g18_20
  have g19_21 : F_21 (y + 19) = (0, 4, fun _ => .inl 0) := by rw [o_21 (y + 19) (by omega) (by omega)]; exact g19_20
  have g20_21 : F_21 (y + 20) = (0, 36, fun _ => .inl 0) := by rw [o_21 (y + 20) (by omega) (by omega)]; exact g20_20
  have g21_21 : F_21 (y + 21) = (0, 201, fun _ => .inl 0) := a_21
  have f0_21 : ∀ a, a < y → F_21 a = F a := fun a ha => (o_21 a (by omega) (by omega)).trans (f0_20 a ha)
  have t_21 : c_21 y 10 = 0 := by rw [u_21 y (by omega)]; exact t_20
  have s_21 : aq_sm (fun a => y ≤ a) c c_21 := fun a ha i => (u_21 a (by omega) i).trans (s_20 a ha i)
  have r_21 : c_21 y 9 = 2 := by rw [u_21 y (by omega)]; exact r_20
  have z3_21 : ∀ j, c_21 (y + 3) j = 0 := fun j => by rw [u_21 (y + 3) (by omega)]; exact z3_20 j
  have z6_21 : ∀ j, c_21 (y + 6) j = 0 := fun j => by rw [u_21 (y + 6) (by omega)]; exact z6_20 j
  refine am_E.go (t2 := (180, [vR y, vU, vU], [vR y], aq_h (y + 22) (s + 2844) F_21 c_21)) rfl rfl ?_
  refine am_E.go (t2 := (183, [vR y, vU, vU], [vI 201, vR y], aq_h (y + 22) (s + 2844) F_21 c_21)) rfl rfl ?_
  refine aq_step (o := y) (n := 201) rfl rfl hy_21 (by omega) (by decide) rfl (by decide) rfl (by decide) (fun F_22 c_22 hy_22 a_22 o_22 z_22 u_22 => ?_)
  show am_E _ (188, [vR y, vU, vU], [], aq_h (y + 23) (s + 3045) F_22 c_22) _
  have g1_22 : F_22 (y + 1) = (0, 992, fun _ => .inl 0) := by rw [o_22 (y + 1) (by omega) (by omega)]; exact g1_21
  have g2_22 : F_22 (y + 2) = (0, 124, fun _ => .inl 0) := by rw [o_22 (y + 2) (by omega) (by omega)]; exact g2_21
  have g3_22 : F_22 (y + 3) = (0, 124, fun _ => .inl 0) := by rw [o_22 (y + 3) (by omega) (by omega)]; exact g3_21
  have g4_22 : F_22 (y + 4) = (0, 124, fun _ => .inl 0) := by rw [o_22 (y + 4) (by omega) (by omega)]; exact g4_21
  have g5_22 : F_22 (y + 5) = (0, 8, fun _ => .inl 0) := by rw [o_22 (y + 5) (by omega) (by omega)]; exact g5_21
  have g6_22 : F_22 (y + 6) = (0, 8, fun _ => .inl 0) := by rw [o_22 (y + 6) (by omega) (by omega)]; exact g6_21
  have g7_22 : F_22 (y + 7) = (0, 320, fun _ => .inl 0) := by rw [o_22 (y + 7) (by omega) (by omega)]; exact g7_21
  have g8_22 : F_22 (y + 8) = (0, 320, fun _ => .inl 0) := by rw [o_22 (y + 8) (by omega) (by omega)]; exact g8_21
  have g9_22 : F_22 (y + 9) = (2, 320, fun _ => .inl 2) := by rw [o_22 (y + 9) (by omega) (by omega)]; exact g9_21
  have g10_22 : F_22 (y + 10) = (0, 8, fun _ => .inl 0) := by rw [o_22 (y + 10) (by omega) (by omega)]; exact g10_21
  have g11_22 : F_22 (y + 11) = (1, 8, fun _ => .inl 0) := by rw [o_22 (y + 11) (by omega) (by omega)]; exact g11_21
  have g12_22 : F_22 (y + 12) = (0, 8, fun _ => .inl 0) := by rw [o_22 (y + 12) (by omega) (by omega)]; exact g12_21
  have g13_22 : F_22 (y + 13) = (1, 4, fun _ => .inl 0) := by rw [o_22 (y + 13) (by omega) (by omega)]; exact g13_21
  have g14_22 : F_22 (y + 14) = (0, 105, fun _ => .inl 0) := by rw [o_22 (y + 14) (by omega) (by omega)]; exact g14_21
  have g15_22 : F_22 (y + 15) = (0, 42, fun _ => .inl 0) := by rw [o_22 (y + 15) (by omega) (by omega)]; exact g15_21
  have g16_22 : F_22 (y + 16) = (0, 42, fun _ => .inl 0) := by rw [o_22 (y + 16) (by omega) (by omega)]; exact g16_21
  have g17_22 : F_22 (y + 17) = (2, 42, fun _ => .inl 2) := by rw [o_22 (y + 17) (by omega) (by omega)]; exact g17_21
  have g18_22 : F_22 (y + 18) = (0, 4, fun _ => .inl 0) := by rw [o_22 (y + 18) (by omega) (by omega)]; exact g18_21
  have g19_22 : F_22 (y + 19) = (0, 4, fun _ => .inl 0) := by rw [o_22 (y + 19) (by omega) (by omega)]; exact g19_21
  have g20_22 : F_22 (y + 20) = (0, 36, fun _ => .inl 0) := by rw [o_22 (y + 20) (by omega) (by omega)]; exact g20_21
  have g21_22 : F_22 (y + 21) = (0, 201, fun _ => .inl 0) := by rw [o_22 (y + 21) (by omega) (by omega)]; exact g21_21
  have g22_22 : F_22 (y + 22) = (0, 201, fun _ => .inl 0) := a_22
  have f0_22 : ∀ a, a < y → F_22 a = F a := fun a ha => (o_22 a (by omega) (by omega)).trans (f0_21 a ha)
  have t_22 : c_22 y 10 = 0 := by rw [u_22 y (by omega)]; exact t_21
  have s_22 : aq_sm (fun a => y ≤ a) c c_22 := fun a ha i => (u_22 a (by omega) i).trans (s_21 a ha i)
  have r_22 : c_22 y 9 = 2 := by rw [u_22 y (by omega)]; exact r_21
  have z3_22 : ∀ j, c_22 (y + 3) j = 0 := fun j => by rw [u_22 (y + 3) (by omega)]; exact z3_21 j
  have z6_22 : ∀ j, c_22 (y + 6) j = 0 := fun j => by rw [u_22 (y + 6) (by omega)]; exact z6_21 j
  refine am_E.go (t2 := (189, [vR y, vU, vU], [vR y], aq_h (y + 23) (s + 3045) F_22 c_22)) rfl rfl ?_
  refine am_E.go (t2 := (192, [vR y, vU, vU], [vI 201, vR y], aq_h (y + 23) (s + 3045) F_22 c_22)) rfl rfl ?_
  refine aq_step (o := y) (n := 201) rfl rfl hy_22 (by omega) (by decide) rfl (by decide) rfl (by decide) (fun F_23 c_23 hy_23 a_23 o_23 z_23 u_23 => ?_)
  show am_E _ (197, [vR y, vU, vU], [], aq_h (y + 24) (s + 3246) F_23 c_23) _
  have g1_23 : F_23 (y + 1) = (0, 992, fun _ => .inl 0) := by rw [o_23 (y + 1) (by omega) (by omega)]; exact g1_22
  have g2_23 : F_23 (y + 2) = (0, 124, fun _ => .inl 0) := by rw [o_23 (y + 2) (by omega) (by omega)]; exact g2_22
  have g3_23 : F_23 (y + 3) = (0, 124, fun _ => .inl 0) := by rw [o_23 (y + 3) (by omega) (by omega)]; exact g3_22
  have g4_23 : F_23 (y + 4) = (0, 124, fun _ => .inl 0) := by rw [o_23 (y + 4) (by omega) (by omega)]; exact g4_22
  have g5_23 : F_23 (y + 5) = (0, 8, fun _ => .inl 0) := by rw [o_23 (y + 5) (by omega) (by omega)]; exact g5_22
  have g6_23 : F_23 (y + 6) = (0, 8, fun _ => .inl 0) := by rw [o_23 (y + 6) (by omega) (by omega)]; exact g6_22
  have g7_23 : F_23 (y + 7) = (0, 320, fun _ => .inl 0) := by rw [o_23 (y + 7) (by omega) (by omega)]; exact g7_22
  have g8_23 : F_23 (y + 8) = (0, 320, fun _ => .inl 0) := by rw [o_23 (y + 8) (by omega) (by omega)]; exact g8_22
  have g9_23 : F_23 (y + 9) = (2, 320, fun _ => .inl 2) := by rw [o_23 (y + 9) (by omega) (by omega)]; exact g9_22
  have g10_23 : F_23 (y + 10) = (0, 8, fun _ => .inl 0) := by rw [o_23 (y + 10) (by omega) (by omega)]; exact g10_22
  have g11_23 : F_23 (y + 11) = (1, 8, fun _ => .inl 0) := by rw [o_23 (y + 11) (by omega) (by omega)]; exact g11_22
  have g12_23 : F_23 (y + 12) = (0, 8, fun _ => .inl 0) := by rw [o_23 (y + 12) (by omega) (by omega)]; exact g12_22
  have g13_23 : F_23 (y + 13) = (1, 4, fun _ => .inl 0) := by rw [o_23 (y + 13) (by omega) (by omega)]; exact g13_22
  have g14_23 : F_23 (y + 14) = (0, 105, fun _ => .inl 0) := by rw [o_23 (y + 14) (by omega) (by omega)]; exact g14_22
  have g15_23 : F_23 (y + 15) = (0, 42, fun _ => .inl 0) := by rw [o_23 (y + 15) (by omega) (by omega)]; exact g15_22
  have g16_23 : F_23 (y + 16) = (0, 42, fun _ => .inl 0) := by rw [o_23 (y + 16) (by omega) (by omega)]; exact g16_22
  have g17_23 : F_23 (y + 17) = (2, 42, fun _ => .inl 2) := by rw [o_23 (y + 17) (by omega) (by omega)]; exact g17_22
  have g18_23 : F_23 (y + 18) = (0, 4, fun _ => .inl 0) := by rw [o_23 (y + 18) (by omega) (by omega)]; exact g18_22
  have g19_23 : F_23 (y + 19) = (0, 4, fun _ => .inl 0) := by rw [o_23 (y + 19) (by omega) (by omega)]; exact g19_22
  have g20_23 : F_23 (y + 20) = (0, 36, fun _ => .inl 0) := by rw [o_23 (y + 20) (by omega) (by omega)]; exact g20_22
  have g21_23 : F_23 (y + 21) = (0, 201, fun _ => .inl 0) := by rw [o_23 (y + 21) (by omega) (by omega)]; exact g21_22
  have g22_23 : F_23 (y + 22) = (0, 201, fun _ => .inl 0) := by rw [o_23 (y + 22) (by omega) (by omega)]; exact g22_22
  have g23_23 : F_23 (y + 23) = (0, 201, fun _ => .inl 0) := a_23
  have f0_23 : ∀ a, a < y → F_23 a = F a := fun a ha => (o_23 a (by omega) (by omega)).trans (f0_22 a ha)
  have t_23 : c_23 y 10 = 0 := by rw [u_23 y (by omega)]; exact t_22
  have s_23 : aq_sm (fun a => y ≤ a) c c_23 := fun a ha i => (u_23 a (by omega) i).trans (s_22 a ha i)
  have r_23 : c_23 y 9 = 2 := by rw [u_23 y (by omega)]; exact r_22
  have z3_23 : ∀ j, c_23 (y + 3) j = 0 := fun j => by rw [u_23 (y + 3) (by omega)]; exact z3_22 j
  have z6_23 : ∀ j, c_23 (y + 6) j = 0 := fun j => by rw [u_23 (y + 6) (by omega)]; exact z6_22 j
  have et : am_up (am_up (am_up (am_up (am_up (am_up (am_up (am_up (am_up (am_up (am_up (am_up (am_up (am_up (am_up (am_up (am_up (am_up (am_up (am_up (am_up (am_up (am_up (mo_t0) 0 (.inr (vR (y + 1)))) 1 (.inr (vR (y + 2)))) 2 (.inr (vR (y + 3)))) 3 (.inr (vR (y + 4)))) 4 (.inr (vR (y + 5)))) 5 (.inr (vR (y + 6)))) 6 (.inr (vR (y + 7)))) 7 (.inr (vR (y + 8)))) 8 (.inr (vR (y + 9)))) 11 (.inr (vR (y + 10)))) 12 (.inr (vR (y + 11)))) 13 (.inr (vR (y + 12)))) 14 (.inr (vR (y + 13)))) 16 (.inr (vR (y + 14)))) 18 (.inr (vR (y + 15)))) 19 (.inr (vR (y + 16)))) 20 (.inr (vR (y + 17)))) 21 (.inr (vR (y + 18)))) 22 (.inr (vR (y + 19)))) 23 (.inr (vR (y + 20)))) 24 (.inr (vR (y + 21)))) 25 (.inr (vR (y + 22)))) 26 (.inr (vR (y + 23))) = mo_t y := by
    funext k
    have hk : k = 0 ∨ k = 1 ∨ k = 2 ∨ k = 3 ∨ k = 4 ∨ k = 5 ∨ k = 6 ∨ k = 7 ∨ k = 8 ∨ k = 9 ∨ k = 10 ∨ k = 11 ∨ k = 12 ∨ k = 13 ∨ k = 14 ∨ k = 15 ∨ k = 16 ∨ k = 17 ∨ k = 18 ∨ k = 19 ∨ k = 20 ∨ k = 21 ∨ k = 22 ∨ k = 23 ∨ k = 24 ∨ k = 25 ∨ k = 26 ∨ 27 ≤ k := by omega
    rcases hk with hk | hk | hk | hk | hk | hk | hk | hk | hk | hk | hk | hk | hk | hk | hk | hk | hk | hk | hk | hk | hk | hk | hk | hk | hk | hk | hk | hk
    · subst hk; rfl
    · subst hk; rfl
    · subst hk; rfl
    · subst hk; rfl
    · subst hk; rfl
    · subst hk; rfl
    · subst hk; rfl
    · subst hk; rfl
    · subst hk; rfl
    · subst hk; rfl
    · subst hk; rfl
    · subst hk; rfl
    · subst hk; rfl
    · subst hk; rfl
    · subst hk; rfl
    · subst hk; rfl
    · subst hk; rfl
    · subst hk; rfl
    · subst hk; rfl
    · subst hk; rfl
    · subst hk; rfl
    · subst hk; rfl
    · subst hk; rfl
    · subst hk; rfl
    · subst hk; rfl
    · subst hk; rfl
    · subst hk; rfl
    · obtain ⟨j, rfl⟩ : ∃ j, k = j + 27 := ⟨k - 27, by omega⟩
      repeat rw [am_up_n (by omega)]
      rfl
  have hyy : F_23 y = (15, 27, mo_t y) := by rw [← et]; exact hy_23
  refine am_E.go (t2 := (198, [vR y, vU, vU], [vI 0], aq_h (y + 24) (s + 3246) F_23 c_23)) rfl rfl ?_
  refine am_E.go (t2 := (199, [vR y, vI 0, vU], [], aq_h (y + 24) (s + 3246) F_23 c_23)) rfl rfl ?_
  exact qm_ini_s ⟨Nat.le_refl _, hyy, g5_23, g6_23, g7_23, g8_23, g9_23, g10_23, g11_23, g12_23, g13_23, g14_23, g15_23, g16_23, g17_23, g18_23, g19_23, g20_23, g21_23, g22_23, g23_23⟩ f0_23 g1_23 g2_23 g3_23 g4_23 10 0 _ c_23 s_23 (by omega) (by omega) ⟨r_23, t_23⟩ (fun s5 k0 k1 => absurd k1 (by omega)) z6_23 z3_23 (by omega)
/-! The class: answer of word. Printed by wip/p20/sx/gEW.py. -/

/-- word's answer -/
def wd_a (n b i : Int) : Int := if (1 ≤ n ∧ n ≤ 4 ∧ 0 ≤ b ∧ b < bx_K n) ∧ 0 ≤ i then (if i < ln_ n b then lt_ n (sp_ n b i) else -4) else -1

theorem qy_letterOf {m s : Nat} {F : aq_F} {c : aq_C} {o n K : Nat} (hB : bx_0 m F o n K) {tL : Int → Int} {tG tN : Int → Int → Int} (hT : bx_w F o n K tL tG tN) {tR : Int → Int} (hex : bx_e n K tG tN tR tL) {b i : Int} (hb0 : 0 ≤ b) (hbK : b < (K : Int)) (hi : 0 ≤ i) : am_E ac_X0_letterOf (0, [vR o, vI b, vI i], [], aq_h m s F c) (aq_P m s F c (fun r => r = some (vI (if i < ln_ (n : Int) b then lt_ (n : Int) (sp_ (n : Int) b i) else -4)))) := by
  obtain ⟨hm, hn1, hn4, hK, hFo, hFd, hFs⟩ := hB
  obtain ⟨hL, hGg, hGr, hNg, hNr, hLt, hGt, hNt⟩ := hT
  have e9 := (hex.1 b hb0 hbK).2
  refine am_E.go (t2 := (1, [vR o, vI b, vI i], [vI i], aq_h m s F c)) rfl rfl ?_
  refine am_E.go (t2 := (2, [vR o, vI b, vI i], [vR o, vI i], aq_h m s F c)) rfl rfl ?_
  refine aq_gf (v := vR (o + 3 + K)) rfl (by omega) hFo (by decide) rfl ?_
  show am_E _ (5, [vR o, vI b, vI i], [vR (o + 3 + K), vI i], aq_h m s F c) _
  refine am_E.go (t2 := (6, [vR o, vI b, vI i], [vI b, vR (o + 3 + K), vI i], aq_h m s F c)) rfl rfl ?_
  refine aq_alt (ok := fun k => k == 0) rfl rfl (by omega) hL rfl (by omega) (by omega) ?_
  show am_E _ (7, [vR o, vI b, vI i], [vI (tL b), vI i], aq_h m s F c) _
  refine ae_icmp rfl (fun (q_1 : (tL b) ≤ i) => ?_) (fun (q_1 : i < (tL b)) => ?_)
  · refine am_E.go (t2 := (27, [vR o, vI b, vI i], [vI (-4)], aq_h m s F c)) rfl rfl ?_
    refine am_E.ret rfl rfl ?_
    refine ⟨rfl, ?_⟩
    rw [if_neg (by omega)]
  · have e5 := hLt b hb0 hbK
    have e7 := hGt ((b.toNat : Nat) : Int) i (by omega) (by omega) hi (by rw [Int.toNat_of_nonneg hb0]; omega)
    have e6 : tG ((b.toNat : Nat) : Int) i = sp_ (n : Int) b i := by rw [Int.toNat_of_nonneg hb0]; exact hex.2.1 b i hb0 hbK hi (by omega)
    refine am_E.go (t2 := (11, [vR o, vI b, vI i], [vR o], aq_h m s F c)) rfl rfl ?_
    refine am_E.go (t2 := (12, [vR o, vI b, vI i], [vR o, vR o], aq_h m s F c)) rfl rfl ?_
    refine aq_gf (v := vR (o + 4 + K)) rfl (by omega) hFo (by decide) rfl ?_
    show am_E _ (15, [vR o, vI b, vI i], [vR (o + 4 + K), vR o], aq_h m s F c) _
    refine am_E.go (t2 := (16, [vR o, vI b, vI i], [vI b, vR (o + 4 + K), vR o], aq_h m s F c)) rfl rfl ?_
    refine aq_al (ok := fun k => decide (3 ≤ k) && decide (k < 7)) (v := vR (o + 5 + K + b.toNat)) rfl rfl (by omega) hGg rfl (by omega) (by omega) (aq_gi (by omega)) ?_
    show am_E _ (17, [vR o, vI b, vI i], [vR (o + 5 + K + b.toNat), vR o], aq_h m s F c) _
    refine am_E.go (t2 := (18, [vR o, vI b, vI i], [vI i, vR (o + 5 + K + b.toNat), vR o], aq_h m s F c)) rfl rfl ?_
    refine aq_alt (ok := fun k => k == 0) rfl rfl (by omega) (hGr _ (by omega)) rfl (by omega) (by omega) ?_
    show am_E _ (19, [vR o, vI b, vI i], [vI (tG ((b.toNat : Nat) : Int) i), vR o], aq_h m s F c) _
    refine aq_callv (y := 2) (as2 := [vI (tG ((b.toNat : Nat) : Int) i)]) (rest := []) rfl rfl (by decide) (Nat.le_of_ble_eq_true rfl) rfl rfl (Nat.le_of_ble_eq_true rfl) (by omega) hFo rfl (Nat.le_of_ble_eq_true rfl) (qz_letterAt ⟨hm, hn1, hn4, hK, hFo, hFd, hFs⟩ (by omega) (by omega)) ?_
    rintro r5 h5 ⟨rfl, rfl⟩
    show am_E _ (22, [vR o, vI b, vI i], [vI (lt_ (n : Int) (tG ((b.toNat : Nat) : Int) i))], aq_h m s F c) _
    refine am_E.go (t2 := (27, [vR o, vI b, vI i], [vI (lt_ (n : Int) (tG ((b.toNat : Nat) : Int) i))], aq_h m s F c)) rfl rfl ?_
    refine am_E.ret rfl rfl ?_
    refine ⟨rfl, ?_⟩
    rw [if_pos (by omega), e6]

theorem qe_X4_word {m s : Nat} {F : aq_F} {c : aq_C} (hC : sb_C m F) (hI : cl_I c) {nn b i : Int} : am_E ac_X4_word (0, [vR 0, vI nn, vI b, vI i], [], aq_h m s F c) (aq_Z m s F (fun a => a < 527) c (fun r d => r = some (vI (wd_a nn b i)) ∧ cl_I d)) := by
  obtain ⟨hCm, hC0, hC1, hC2, hC3, ⟨hma4, hFa4, hFn4, hFp4, hFf4⟩, ⟨hmx, hFx, hFl, hFw⟩, hCs, hCb, hCh⟩ := id hC
  refine am_E.go (t2 := (1, [vR 0, vI nn, vI b, vI i], [vR 0], aq_h m s F c)) rfl rfl ?_
  refine am_E.go (t2 := (2, [vR 0, vI nn, vI b, vI i], [vI nn, vR 0], aq_h m s F c)) rfl rfl ?_
  refine am_E.go (t2 := (3, [vR 0, vI nn, vI b, vI i], [vI b, vI nn, vR 0], aq_h m s F c)) rfl rfl ?_
  refine aq_callv (y := 3) (as2 := [vI nn, vI b]) (rest := []) rfl rfl (by decide) (Nat.le_of_ble_eq_true rfl) rfl rfl (Nat.le_of_ble_eq_true rfl) (by omega) hC0 rfl (Nat.le_of_ble_eq_true rfl) (qn_X4_isBox hC) ?_
  rintro r5 h5 ⟨rfl, v_1, rfl, hv_1⟩
  show am_E _ (6, [vR 0, vI nn, vI b, vI i], [vI v_1], aq_h m s F c) _
  refine ae_if0 rfl (fun (q_2 : v_1 = 0) => ?_) (fun (q_2 : v_1 ≠ 0) => ?_)
  · refine am_E.go (t2 := (14, [vR 0, vI nn, vI b, vI i], [vI (-1)], aq_h m s F c)) rfl rfl ?_
    refine am_E.ret rfl rfl ?_
    exact ⟨_, rfl, (aq_sm0 (S := fun a => a < 527)), by rw [wd_a, if_neg (by omega)], hI⟩
  · refine am_E.go (t2 := (10, [vR 0, vI nn, vI b, vI i], [vI i], aq_h m s F c)) rfl rfl ?_
    refine ae_if0 rfl (fun (q_3 : 0 ≤ i) => ?_) (fun (q_3 : i < 0) => ?_)
    · refine am_E.go (t2 := (16, [vR 0, vI nn, vI b, vI i], [vR 0], aq_h m s F c)) rfl rfl ?_
      refine aq_gf (v := vR 1) rfl (by omega) hC0 (by decide) rfl ?_
      show am_E _ (19, [vR 0, vI nn, vI b, vI i], [vR 1], aq_h m s F c) _
      refine am_E.go (t2 := (20, [vR 0, vI nn, vI b, vI i], [vI nn, vR 1], aq_h m s F c)) rfl rfl ?_
      refine am_E.go (t2 := (21, [vR 0, vI nn, vI b, vI i], [vI 1, vI nn, vR 1], aq_h m s F c)) rfl rfl ?_
      refine ae_sub rfl (am_ri (by omega) (by omega)) ?_
      show am_E _ (22, [vR 0, vI nn, vI b, vI i], [vI (nn - 1), vR 1], aq_h m s F c) _
      obtain ⟨o, n, K, e_o, e_n, e_K, e_j, e_k, tP, tG, tN, tR, tL, ⟨hm, hn1, hn4, hK, hFo, hFd, hFs⟩, ⟨hPg, hPr, hPt⟩, ⟨hL, hGg, hGr, hNg, hNr, hLt, hGt, hNt⟩, ⟨hR, hRt⟩, hst, hex⟩ := sb_box hC (i := (nn - 1)) (by omega) (by omega)
      have hb := sb_bnd ((nn - 1)).toNat (by omega)
      rw [e_o, e_k] at hb
      have hbK : (K : Int) = bx_K nn := by rw [e_K]; congr 1; omega
      refine aq_al (ok := fun k => decide (3 ≤ k) && decide (k < 7)) (v := vR o) rfl rfl (by omega) hC1 rfl (by omega) (by omega) (aq_gi2 (by omega) e_o) ?_
      show am_E _ (23, [vR 0, vI nn, vI b, vI i], [vR o], aq_h m s F c) _
      refine am_E.go (t2 := (24, [vR 0, vI nn, vI b, vI i], [vI b, vR o], aq_h m s F c)) rfl rfl ?_
      refine am_E.go (t2 := (25, [vR 0, vI nn, vI b, vI i], [vI i, vI b, vR o], aq_h m s F c)) rfl rfl ?_
      refine aq_callv (y := 3) (as2 := [vI b, vI i]) (rest := []) rfl rfl (by decide) (Nat.le_of_ble_eq_true rfl) rfl rfl (Nat.le_of_ble_eq_true rfl) (by omega) hFo rfl (Nat.le_of_ble_eq_true rfl) (qy_letterOf ⟨hm, hn1, hn4, hK, hFo, hFd, hFs⟩ ⟨hL, hGg, hGr, hNg, hNr, hLt, hGt, hNt⟩ hex (by omega) (by omega) (by omega)) ?_
      rintro r5 h5 ⟨rfl, rfl⟩
      show am_E _ (28, [vR 0, vI nn, vI b, vI i], [vI (if i < ln_ (n : Int) b then lt_ (n : Int) (sp_ (n : Int) b i) else -4)], aq_h m s F c) _
      refine am_E.ret rfl rfl ?_
      refine ⟨_, rfl, (aq_sm0 (S := fun a => a < 527)), ?_, hI⟩
      have e2 : (n : Int) = nn := by omega
      have e3 : wd_a nn b i = (if i < ln_ nn b then lt_ nn (sp_ nn b i) else -4) := by unfold wd_a; rw [if_pos (by omega)]
      rw [e3, e2]
    · refine am_E.go (t2 := (14, [vR 0, vI nn, vI b, vI i], [vI (-1)], aq_h m s F c)) rfl rfl ?_
      refine am_E.ret rfl rfl ?_
      exact ⟨_, rfl, (aq_sm0 (S := fun a => a < 527)), by rw [wd_a, if_neg (by omega)], hI⟩
/-! The reference: answer of word. Printed by wip/p20/sx/gEWm.py. -/

/-- from box to box ahead -/
def wm_ (n i : Int) : Nat → Int → Int → Int
  | 0, a, _ => a
  | d + 1, a, k => if i < k then wm_ n i d (pa_ n a) (k + -1) else a
abbrev tb_W (n b : Int) : Prop := 0 < ln_ n b → 0 < ix_ n b ∧ 0 ≤ pa_ n b ∧ pa_ n b < bx_K n ∧ ln_ n (pa_ n b) = ln_ n b - 1
abbrev tb_V (n b i : Int) : Prop := i < ln_ n b → ll_ n (wm_ n i 126 b (ln_ n b - 1)) = lt_ n (sp_ n b i)

theorem tb_W_1 : ∀ x : Nat, x < 1 → tb_W 1 (x : Int) := by decide +kernel
theorem tb_W_2 : ∀ x : Nat, x < 3 → tb_W 2 (x : Int) := by decide +kernel
theorem tb_W_3 : ∀ x : Nat, x < 15 → tb_W 3 (x : Int) := by decide +kernel
theorem tb_W_4 : ∀ x : Nat, x < 105 → tb_W 4 (x : Int) := by decide +kernel
theorem tb_W_a {n x : Int} (h1 : 1 ≤ n) (h4 : n ≤ 4) (x0 : 0 ≤ x) (xK : x < bx_K n) : tb_W n x := by
  have ex : ((x.toNat : Nat) : Int) = x := Int.toNat_of_nonneg x0
  have h : n = 1 ∨ n = 2 ∨ n = 3 ∨ n = 4 := by omega
  rcases h with h | h | h | h <;> subst h
  · have g : bx_K 1 = 1 := by decide
    have := tb_W_1 x.toNat (by omega)
    rw [ex] at this
    exact this
  · have g : bx_K 2 = 3 := by decide
    have := tb_W_2 x.toNat (by omega)
    rw [ex] at this
    exact this
  · have g : bx_K 3 = 15 := by decide
    have := tb_W_3 x.toNat (by omega)
    rw [ex] at this
    exact this
  · have g : bx_K 4 = 105 := by decide
    have := tb_W_4 x.toNat (by omega)
    rw [ex] at this
    exact this
theorem tb_V_1 : ∀ x : Nat, x < 1 → ∀ k : Nat, k < 6 → tb_V 1 (x : Int) (k : Int) := by decide +kernel
theorem tb_V_2 : ∀ x : Nat, x < 3 → ∀ k : Nat, k < 6 → tb_V 2 (x : Int) (k : Int) := by decide +kernel
theorem tb_V_3 : ∀ x : Nat, x < 15 → ∀ k : Nat, k < 6 → tb_V 3 (x : Int) (k : Int) := by decide +kernel
theorem tb_V_4 : ∀ x : Nat, x < 105 → ∀ k : Nat, k < 6 → tb_V 4 (x : Int) (k : Int) := by decide +kernel
theorem tb_V_a {n x : Int} {k : Int} (h1 : 1 ≤ n) (h4 : n ≤ 4) (x0 : 0 ≤ x) (xK : x < bx_K n) (k0 : 0 ≤ k) (k1 : k < 6) : tb_V n x k := by
  have ex : ((x.toNat : Nat) : Int) = x := Int.toNat_of_nonneg x0
  have ek : ((k.toNat : Nat) : Int) = k := Int.toNat_of_nonneg k0
  have h : n = 1 ∨ n = 2 ∨ n = 3 ∨ n = 4 := by omega
  rcases h with h | h | h | h <;> subst h
  · have g : bx_K 1 = 1 := by decide
    have := tb_V_1 x.toNat (by omega) k.toNat (by omega)
    rw [ex, ek] at this
    exact this
  · have g : bx_K 2 = 3 := by decide
    have := tb_V_2 x.toNat (by omega) k.toNat (by omega)
    rw [ex, ek] at this
    exact this
  · have g : bx_K 3 = 15 := by decide
    have := tb_V_3 x.toNat (by omega) k.toNat (by omega)
    rw [ex, ek] at this
    exact this
  · have g : bx_K 4 = 105 := by decide
    have := tb_V_4 x.toNat (by omega) k.toNat (by omega)
    rw [ex, ek] at this
    exact this
theorem qy_word_l {m s : Nat} {F : aq_F} {c : aq_C} {y : Nat} (hI : mo_I y c) (hO : mo_0 m F y) {tA tB : Int → Int} {n bb i fr mm T : Int} (hn1 : 1 ≤ n) (hn4 : n ≤ 4) (hfr : fr = mo_f n) (hi : 0 ≤ i) (hL1 : F (y + 2) = (0, 124, fun j => .inr (vI (tA (j : Int))))) (hL2 : F (y + 3) = (0, 124, fun j => .inr (vI (tB (j : Int))))) (hLt : ∀ b : Int, 0 ≤ b → b < bx_K n → (0 ≤ tB (fr + b) ∧ tB (fr + b) < bx_K n) ∧ (0 < ix_ n b → tB (fr + b) = pa_ n b ∧ tA (fr + b) = ll_ n b)) : ∀ (d : Nat) (a : Int) (k : Int) (h0 : 0 ≤ a) (h1 : a < bx_K n) (h2 : k ≤ 124) (hki : i ≤ k) (hk : ln_ n a = k + 1) (hq : wm_ n i d a k = T) (hd : max 0 (k - i) < (d : Int)), am_E ac_X5_word (49, [vR y, vI n, vI bb, vI i, vI fr, vI mm, vI a, vI k], [], aq_h m s F c) (aq_Z m s F (fun a => y ≤ a ∧ a < y + 24) c (fun r d => r = some (vI (ll_ n T)) ∧ mo_I y d))
  | 0, a, k, h0, h1, h2, hki, hk, hq, hd => by exfalso; omega
  | d + 1, a, k, h0, h1, h2, hki, hk, hq, hd => by
    obtain ⟨hm, hFo, hG5, hG6, hG7, hG8, hG9, hG10, hG11, hG12, hG13, hG14, hG15, hG16, hG17, hG18, hG19, hG20, hG21, hG22, hG23⟩ := hO
    have hfs := mo_fs n
    refine am_E.go (t2 := (51, [vR y, vI n, vI bb, vI i, vI fr, vI mm, vI a, vI k], [vI k], aq_h m s F c)) rfl rfl ?_
    refine am_E.go (t2 := (52, [vR y, vI n, vI bb, vI i, vI fr, vI mm, vI a, vI k], [vI i, vI k], aq_h m s F c)) rfl rfl ?_
    refine ae_icmp rfl (fun (q_1 : k ≤ i) => ?_) (fun (q_1 : i < k) => ?_)
    · refine am_E.go (t2 := (74, [vR y, vI n, vI bb, vI i, vI fr, vI mm, vI a, vI k], [vR y], aq_h m s F c)) rfl rfl ?_
      refine aq_gf (v := vR (y + 2)) rfl (by omega) hFo (by decide) rfl ?_
      show am_E _ (77, [vR y, vI n, vI bb, vI i, vI fr, vI mm, vI a, vI k], [vR (y + 2)], aq_h m s F c) _
      refine am_E.go (t2 := (79, [vR y, vI n, vI bb, vI i, vI fr, vI mm, vI a, vI k], [vI fr, vR (y + 2)], aq_h m s F c)) rfl rfl ?_
      refine am_E.go (t2 := (81, [vR y, vI n, vI bb, vI i, vI fr, vI mm, vI a, vI k], [vI a, vI fr, vR (y + 2)], aq_h m s F c)) rfl rfl ?_
      refine ae_add rfl (am_ri (by omega) (by omega)) ?_
      show am_E _ (82, [vR y, vI n, vI bb, vI i, vI fr, vI mm, vI a, vI k], [vI (fr + a), vR (y + 2)], aq_h m s F c) _
      refine aq_alt (ok := fun k => k == 0) rfl rfl (by omega) hL1 rfl (by omega) (by omega) ?_
      show am_E _ (83, [vR y, vI n, vI bb, vI i, vI fr, vI mm, vI a, vI k], [vI (tA (fr + a))], aq_h m s F c) _
      have w_ := tb_W_a (n := n) (x := a) hn1 hn4 (by omega) (by omega) (by omega)
      have e_ := ((hLt a (by omega) (by omega)).2 w_.1).2
      refine am_E.ret rfl rfl ?_
      refine ⟨_, rfl, aq_sm0, ?_, hI⟩
      rw [e_, ← hq, wm_, if_neg (by omega)]
    · refine am_E.go (t2 := (56, [vR y, vI n, vI bb, vI i, vI fr, vI mm, vI a, vI k], [vR y], aq_h m s F c)) rfl rfl ?_
      refine aq_gf (v := vR (y + 3)) rfl (by omega) hFo (by decide) rfl ?_
      show am_E _ (59, [vR y, vI n, vI bb, vI i, vI fr, vI mm, vI a, vI k], [vR (y + 3)], aq_h m s F c) _
      refine am_E.go (t2 := (61, [vR y, vI n, vI bb, vI i, vI fr, vI mm, vI a, vI k], [vI fr, vR (y + 3)], aq_h m s F c)) rfl rfl ?_
      refine am_E.go (t2 := (63, [vR y, vI n, vI bb, vI i, vI fr, vI mm, vI a, vI k], [vI a, vI fr, vR (y + 3)], aq_h m s F c)) rfl rfl ?_
      refine ae_add rfl (am_ri (by omega) (by omega)) ?_
      show am_E _ (64, [vR y, vI n, vI bb, vI i, vI fr, vI mm, vI a, vI k], [vI (fr + a), vR (y + 3)], aq_h m s F c) _
      refine aq_alt (ok := fun k => k == 0) rfl rfl (by omega) hL2 rfl (by omega) (by omega) ?_
      show am_E _ (65, [vR y, vI n, vI bb, vI i, vI fr, vI mm, vI a, vI k], [vI (tB (fr + a))], aq_h m s F c) _
      have f_3 := (hLt a (by omega) (by omega)).1
      have w_ := tb_W_a (n := n) (x := a) hn1 hn4 (by omega) (by omega) (by omega)
      have e_ := ((hLt a (by omega) (by omega)).2 w_.1).1
      refine am_E.go (t2 := (67, [vR y, vI n, vI bb, vI i, vI fr, vI mm, vI (tB (fr + a)), vI k], [], aq_h m s F c)) rfl rfl ?_
      refine ae_iinc rfl rfl (am_ri (by omega) (by omega)) ?_
      show am_E _ (70, [vR y, vI n, vI bb, vI i, vI fr, vI mm, vI (tB (fr + a)), vI (k + (-1))], [], aq_h m s F c) _
      refine am_E.go (t2 := (49, [vR y, vI n, vI bb, vI i, vI fr, vI mm, vI (tB (fr + a)), vI (k + (-1))], [], aq_h m s F c)) rfl rfl ?_
      exact qy_word_l hI ⟨hm, hFo, hG5, hG6, hG7, hG8, hG9, hG10, hG11, hG12, hG13, hG14, hG15, hG16, hG17, hG18, hG19, hG20, hG21, hG22, hG23⟩ hn1 hn4 hfr hi hL1 hL2 hLt d (tB (fr + a)) (k + (-1)) (by omega) (by omega) (by omega) (by omega) (by rw [e_]; omega) (by rw [e_, ← hq, wm_, if_pos (by omega)]) (by omega)

theorem qe_X5_word {m s : Nat} {F : aq_F} {c : aq_C} {y : Nat} (hC : mo_C m F y) (hI : mo_I y c) {n bb i : Int} : am_E ac_X5_word (0, [vR y, vI n, vI bb, vI i, vU, vU, vU, vU], [], aq_h m s F c) (aq_Z m s F (fun a => y ≤ a ∧ a < y + 24) c (fun r d => r = some (vI (wd_a n bb i)) ∧ mo_I y d)) := by
  obtain ⟨⟨hm, hFo, hG5, hG6, hG7, hG8, hG9, hG10, hG11, hG12, hG13, hG14, hG15, hG16, hG17, hG18, hG19, hG20, hG21, hG22, hG23⟩, ⟨tbl, hT1, hTt⟩, ⟨tA, tB, tD, hL1, hL2, hL3, hLt⟩⟩ := hC
  have hfs := mo_fs n
  refine am_E.go (t2 := (1, [vR y, vI n, vI bb, vI i, vU, vU, vU, vU], [vI n], aq_h m s F c)) rfl rfl ?_
  refine am_E.go (t2 := (2, [vR y, vI n, vI bb, vI i, vU, vU, vU, vU], [vI bb, vI n], aq_h m s F c)) rfl rfl ?_
  refine am_E.call rfl rfl rfl (Nat.le_of_ble_eq_true rfl) (qm_isBox) ?_
  rintro r5 h5 ⟨rfl, v_1, rfl, hv_1⟩
  show am_E _ (5, [vR y, vI n, vI bb, vI i, vU, vU, vU, vU], [vI v_1], aq_h m s F c) _
  refine ae_if0 rfl (fun (q_2 : v_1 = 0) => ?_) (fun (q_2 : v_1 ≠ 0) => ?_)
  · refine am_E.go (t2 := (13, [vR y, vI n, vI bb, vI i, vU, vU, vU, vU], [vI (-1)], aq_h m s F c)) rfl rfl ?_
    refine am_E.ret rfl rfl ?_
    exact ⟨_, rfl, (aq_sm0 (c := c) (S := fun a => y ≤ a ∧ a < y + 24)), by rw [wd_a, if_neg (by omega)], hI⟩
  · refine am_E.go (t2 := (9, [vR y, vI n, vI bb, vI i, vU, vU, vU, vU], [vI i], aq_h m s F c)) rfl rfl ?_
    refine ae_if0 rfl (fun (q_3 : 0 ≤ i) => ?_) (fun (q_3 : i < 0) => ?_)
    · refine am_E.go (t2 := (15, [vR y, vI n, vI bb, vI i, vU, vU, vU, vU], [vI n], aq_h m s F c)) rfl rfl ?_
      refine am_E.call rfl rfl rfl (Nat.le_of_ble_eq_true rfl) (qm_first) ?_
      rintro r5 h5 ⟨rfl, fr, rfl, hfr⟩
      show am_E _ (18, [vR y, vI n, vI bb, vI i, vU, vU, vU, vU], [vI fr], aq_h m s F c) _
      refine am_E.go (t2 := (20, [vR y, vI n, vI bb, vI i, vI fr, vU, vU, vU], [], aq_h m s F c)) rfl rfl ?_
      refine am_E.go (t2 := (21, [vR y, vI n, vI bb, vI i, vI fr, vU, vU, vU], [vR y], aq_h m s F c)) rfl rfl ?_
      refine aq_gf (v := vR (y + 4)) rfl (by omega) hFo (by decide) rfl ?_
      show am_E _ (24, [vR y, vI n, vI bb, vI i, vI fr, vU, vU, vU], [vR (y + 4)], aq_h m s F c) _
      refine am_E.go (t2 := (26, [vR y, vI n, vI bb, vI i, vI fr, vU, vU, vU], [vI fr, vR (y + 4)], aq_h m s F c)) rfl rfl ?_
      refine am_E.go (t2 := (27, [vR y, vI n, vI bb, vI i, vI fr, vU, vU, vU], [vI bb, vI fr, vR (y + 4)], aq_h m s F c)) rfl rfl ?_
      refine ae_add rfl (am_ri (by omega) (by omega)) ?_
      show am_E _ (28, [vR y, vI n, vI bb, vI i, vI fr, vU, vU, vU], [vI (fr + bb), vR (y + 4)], aq_h m s F c) _
      refine aq_alt (ok := fun k => k == 0) rfl rfl (by omega) hL3 rfl (by omega) (by omega) ?_
      show am_E _ (29, [vR y, vI n, vI bb, vI i, vI fr, vU, vU, vU], [vI (tD (fr + bb))], aq_h m s F c) _
      have f_4 := hLt n bb (by omega) (by omega) (by omega) (by omega)
      rw [← hfr] at f_4
      have eD := f_4.2.2.2.2.1
      have tA_ := (tb_A_a (n := n) (x := bb) (by omega) (by omega) (by omega) (by omega)).1
      refine am_E.go (t2 := (31, [vR y, vI n, vI bb, vI i, vI fr, vI (tD (fr + bb)), vU, vU], [], aq_h m s F c)) rfl rfl ?_
      refine am_E.go (t2 := (32, [vR y, vI n, vI bb, vI i, vI fr, vI (tD (fr + bb)), vU, vU], [vI i], aq_h m s F c)) rfl rfl ?_
      refine am_E.go (t2 := (34, [vR y, vI n, vI bb, vI i, vI fr, vI (tD (fr + bb)), vU, vU], [vI (tD (fr + bb)), vI i], aq_h m s F c)) rfl rfl ?_
      refine ae_icmp rfl (fun (q_5 : i < (tD (fr + bb))) => ?_) (fun (q_5 : (tD (fr + bb)) ≤ i) => ?_)
      · refine am_E.go (t2 := (41, [vR y, vI n, vI bb, vI i, vI fr, vI (tD (fr + bb)), vU, vU], [vI bb], aq_h m s F c)) rfl rfl ?_
        refine am_E.go (t2 := (43, [vR y, vI n, vI bb, vI i, vI fr, vI (tD (fr + bb)), vI bb, vU], [], aq_h m s F c)) rfl rfl ?_
        refine am_E.go (t2 := (45, [vR y, vI n, vI bb, vI i, vI fr, vI (tD (fr + bb)), vI bb, vU], [vI (tD (fr + bb))], aq_h m s F c)) rfl rfl ?_
        refine am_E.go (t2 := (46, [vR y, vI n, vI bb, vI i, vI fr, vI (tD (fr + bb)), vI bb, vU], [vI 1, vI (tD (fr + bb))], aq_h m s F c)) rfl rfl ?_
        refine ae_sub rfl (am_ri (by omega) (by omega)) ?_
        show am_E _ (47, [vR y, vI n, vI bb, vI i, vI fr, vI (tD (fr + bb)), vI bb, vU], [vI ((tD (fr + bb)) - 1)], aq_h m s F c) _
        refine am_E.go (t2 := (49, [vR y, vI n, vI bb, vI i, vI fr, vI (tD (fr + bb)), vI bb, vI ((tD (fr + bb)) - 1)], [], aq_h m s F c)) rfl rfl ?_
        refine am_E.imp (Z := (aq_Z m s F (fun a => y ≤ a ∧ a < y + 24) c (fun r d => r = some (vI (ll_ n (wm_ n i 126 bb (ln_ n bb - 1)))) ∧ mo_I y d))) ?_ ?_
        · have ek_ : ((tD (fr + bb)) - 1) = ln_ n bb - 1 := by omega
          exact qy_word_l hI ⟨hm, hFo, hG5, hG6, hG7, hG8, hG9, hG10, hG11, hG12, hG13, hG14, hG15, hG16, hG17, hG18, hG19, hG20, hG21, hG22, hG23⟩ (by omega) (by omega) hfr (by omega) hL1 hL2 (fun b h5 h6 => by have := hLt n b (by omega) (by omega) h5 h6; rw [hfr]; exact ⟨⟨this.1, this.2.1⟩, this.2.2.2.2.2⟩) 126 bb ((tD (fr + bb)) - 1) (by omega) (by omega) (by omega) (by omega) (by omega) (by rw [ek_]) (by omega)
        · rintro r5 h5 ⟨d5, e5, s5, q5, i5⟩
          refine ⟨d5, e5, s5, ?_, i5⟩
          rw [q5, wd_a, if_pos (by omega), if_pos (by omega), (tb_V_a (n := n) (x := bb) (k := i) (by omega) (by omega) (by omega) (by omega) (by omega) (by omega)) (by omega)]
      · refine am_E.go (t2 := (39, [vR y, vI n, vI bb, vI i, vI fr, vI (tD (fr + bb)), vU, vU], [vI (-4)], aq_h m s F c)) rfl rfl ?_
        refine am_E.ret rfl rfl ?_
        exact ⟨_, rfl, (aq_sm0 (c := c) (S := fun a => y ≤ a ∧ a < y + 24)), by rw [wd_a, if_pos (by omega), if_neg (by omega)], hI⟩
    · refine am_E.go (t2 := (13, [vR y, vI n, vI bb, vI i, vU, vU, vU, vU], [vI (-1)], aq_h m s F c)) rfl rfl ?_
      refine am_E.ret rfl rfl ?_
      exact ⟨_, rfl, (aq_sm0 (c := c) (S := fun a => y ≤ a ∧ a < y + 24)), by rw [wd_a, if_neg (by omega)], hI⟩
/-! The class: answer of about. Printed by wip/p20/sx/gEA.py. -/

/-- strands that go through -/
def th_ (n : Int) (f : Int → Int) : Nat → Int → Int → Int
  | 0, _, x => x
  | d + 1, p, x => if p < n then th_ n f d (p + 1) (x + if n ≤ f p then 1 else 0) else x
theorem th_c {n : Int} {f g : Int → Int} (h : ∀ i, 0 ≤ i → i < 2 * n → f i = g i) (hn : 0 ≤ n) : ∀ (d : Nat) (p x : Int), 0 ≤ p → th_ n f d p x = th_ n g d p x
  | 0, _, _, _ => rfl
  | d + 1, p, x, hp => by
    rw [th_, th_]
    by_cases e : p < n
    · rw [if_pos e, if_pos e, h p hp (by omega), th_c h hn d (p + 1) _ (by omega)]
    · rw [if_neg e, if_neg e]
/-- upside down -/
def ud_f (n : Int) (f : Int → Int) (q : Int) : Int := ac_ n (f (ac_ n q))
def ud_ (n : Int) (f : Int → Int) : Int := nu_o (ud_f n f) (2 * n) 9 0 0 (2 * n - 1)
theorem ac_i {n i p : Int} (i0 : 0 ≤ i) (i1 : i < 2 * n) (p0 : 0 ≤ p) (p1 : p < 2 * n) (h : i ≠ p) : ac_ n i ≠ ac_ n p := by
  unfold ac_
  (repeat' split) <;> omega
theorem ac_ac {n q : Int} (q0 : 0 ≤ q) (q1 : q < 2 * n) : ac_ n (ac_ n q) = q := by
  unfold ac_
  (repeat' split) <;> omega
theorem ud_c {n : Int} {f g : Int → Int} (h : ∀ i, 0 ≤ i → i < 2 * n → f i = g i) (hg : ∀ i, 0 ≤ i → i < 2 * n → 0 ≤ g i ∧ g i < 2 * n) : ud_ n f = ud_ n g := by
  unfold ud_
  have e : ∀ q, 0 ≤ q → q < 2 * n → ud_f n f q = ud_f n g q := fun q q0 q1 => by
    have r := ac_r (n := n) q0 q1
    unfold ud_f
    rw [h _ r.1 r.2]
  refine nu_oc (N := 2 * n) e (fun i i0 i1 => ?_) 9 0 0 (2 * n - 1) (by omega)
  rw [e i i0 i1]
  have r := ac_r (n := n) i0 i1
  have r2 := hg _ r.1 r.2
  have r3 := ac_r (n := n) r2.1 r2.2
  unfold ud_f
  omega
/-- about's answer -/
def ab_a (n b w : Int) : Int := if 1 ≤ n ∧ n ≤ 4 ∧ 0 ≤ b ∧ b < bx_K n then (if w = 0 then po_ n (prt n b) 9 0 else if w = 1 then th_ n (prt n b) 9 0 0 else if w = 2 then ud_ n (prt n b) else if w = 3 then rg_ n b else if w = 4 then ln_ n b else -1) else -1

theorem qy_through_l {m s : Nat} {F : aq_F} {c : aq_C} {o n K : Nat} (hB : bx_0 m F o n K) {tP : Int → Int → Int} (hP : bx_p F o n K tP) {b : Int} (hb0 : 0 ≤ b) (hbK : b < (K : Int)) {T : Int} : ∀ (d : Nat) (x : Int) (p : Int) (h0 : 0 ≤ p) (h1 : p ≤ (n : Int)) (h2 : 0 ≤ x) (h3 : x ≤ p) (ht : th_ (n : Int) (tP ((b.toNat : Nat) : Int)) d p x = T) (hd : (n : Int) - p < (d : Int)), am_E ac_X0_countThrough (4, [vR o, vI b, vI x, vI p], [], aq_h m s F c) (aq_P m s F c (fun r => r = some (vI T)))
  | 0, x, p, h0, h1, h2, h3, ht, hd => by exfalso; omega
  | d + 1, x, p, h0, h1, h2, h3, ht, hd => by
    obtain ⟨hm, hn1, hn4, hK, hFo, hFd, hFs⟩ := hB
    obtain ⟨hPg, hPr, hPt⟩ := hP
    refine am_E.go (t2 := (5, [vR o, vI b, vI x, vI p], [vI p], aq_h m s F c)) rfl rfl ?_
    refine am_E.go (t2 := (6, [vR o, vI b, vI x, vI p], [vR o, vI p], aq_h m s F c)) rfl rfl ?_
    refine aq_gf (v := vI (n : Int)) rfl (by omega) hFo (by decide) rfl ?_
    show am_E _ (9, [vR o, vI b, vI x, vI p], [vI (n : Int), vI p], aq_h m s F c) _
    refine ae_icmp rfl (fun (q_1 : (n : Int) ≤ p) => ?_) (fun (q_1 : p < (n : Int)) => ?_)
    · refine am_E.go (t2 := (42, [vR o, vI b, vI x, vI p], [vI x], aq_h m s F c)) rfl rfl ?_
      refine am_E.ret rfl rfl ?_
      refine ⟨rfl, ?_⟩
      rw [← ht, th_, if_neg (by omega)]
    · refine am_E.go (t2 := (13, [vR o, vI b, vI x, vI p], [vI x], aq_h m s F c)) rfl rfl ?_
      refine am_E.go (t2 := (14, [vR o, vI b, vI x, vI p], [vR o, vI x], aq_h m s F c)) rfl rfl ?_
      refine aq_gf (v := vR (o + 1)) rfl (by omega) hFo (by decide) rfl ?_
      show am_E _ (17, [vR o, vI b, vI x, vI p], [vR (o + 1), vI x], aq_h m s F c) _
      refine am_E.go (t2 := (18, [vR o, vI b, vI x, vI p], [vI b, vR (o + 1), vI x], aq_h m s F c)) rfl rfl ?_
      refine aq_al (ok := fun k => decide (3 ≤ k) && decide (k < 7)) (v := vR (o + 2 + b.toNat)) rfl rfl (by omega) hPg rfl (by omega) (by omega) (aq_gi (by omega)) ?_
      show am_E _ (19, [vR o, vI b, vI x, vI p], [vR (o + 2 + b.toNat), vI x], aq_h m s F c) _
      refine am_E.go (t2 := (20, [vR o, vI b, vI x, vI p], [vI p, vR (o + 2 + b.toNat), vI x], aq_h m s F c)) rfl rfl ?_
      refine aq_alt (ok := fun k => k == 0) rfl rfl (by omega) (hPr _ (by omega)) rfl (by omega) (by omega) ?_
      show am_E _ (21, [vR o, vI b, vI x, vI p], [vI (tP ((b.toNat : Nat) : Int) p), vI x], aq_h m s F c) _
      have f_2 := hPt ((b.toNat : Nat) : Int) p (by omega) (by omega) (by omega) (by omega)
      refine am_E.go (t2 := (22, [vR o, vI b, vI x, vI p], [vR o, vI (tP ((b.toNat : Nat) : Int) p), vI x], aq_h m s F c)) rfl rfl ?_
      refine aq_gf (v := vI (n : Int)) rfl (by omega) hFo (by decide) rfl ?_
      show am_E _ (25, [vR o, vI b, vI x, vI p], [vI (n : Int), vI (tP ((b.toNat : Nat) : Int) p), vI x], aq_h m s F c) _
      refine ae_icmp rfl (fun (q_3 : (tP ((b.toNat : Nat) : Int) p) < (n : Int)) => ?_) (fun (q_3 : (n : Int) ≤ (tP ((b.toNat : Nat) : Int) p)) => ?_)
      · refine am_E.go (t2 := (33, [vR o, vI b, vI x, vI p], [vI 0, vI x], aq_h m s F c)) rfl rfl ?_
        refine ae_add rfl (am_ri (by omega) (by omega)) ?_
        show am_E _ (34, [vR o, vI b, vI x, vI p], [vI (x + 0)], aq_h m s F c) _
        refine am_E.go (t2 := (35, [vR o, vI b, vI (x + 0), vI p], [], aq_h m s F c)) rfl rfl ?_
        refine ae_iinc rfl rfl (am_ri (by omega) (by omega)) ?_
        show am_E _ (38, [vR o, vI b, vI (x + 0), vI (p + 1)], [], aq_h m s F c) _
        refine am_E.go (t2 := (4, [vR o, vI b, vI (x + 0), vI (p + 1)], [], aq_h m s F c)) rfl rfl ?_
        exact qy_through_l ⟨hm, hn1, hn4, hK, hFo, hFd, hFs⟩ ⟨hPg, hPr, hPt⟩ hb0 hbK d (x + 0) (p + 1) (by omega) (by omega) (by omega) (by omega) (by rw [← ht, th_, if_pos (by omega)]; first | rw [if_pos (by omega)] | rw [if_neg (by omega)]) (by omega)
      · refine am_E.go (t2 := (29, [vR o, vI b, vI x, vI p], [vI 1, vI x], aq_h m s F c)) rfl rfl ?_
        refine am_E.go (t2 := (33, [vR o, vI b, vI x, vI p], [vI 1, vI x], aq_h m s F c)) rfl rfl ?_
        refine ae_add rfl (am_ri (by omega) (by omega)) ?_
        show am_E _ (34, [vR o, vI b, vI x, vI p], [vI (x + 1)], aq_h m s F c) _
        refine am_E.go (t2 := (35, [vR o, vI b, vI (x + 1), vI p], [], aq_h m s F c)) rfl rfl ?_
        refine ae_iinc rfl rfl (am_ri (by omega) (by omega)) ?_
        show am_E _ (38, [vR o, vI b, vI (x + 1), vI (p + 1)], [], aq_h m s F c) _
        refine am_E.go (t2 := (4, [vR o, vI b, vI (x + 1), vI (p + 1)], [], aq_h m s F c)) rfl rfl ?_
        exact qy_through_l ⟨hm, hn1, hn4, hK, hFo, hFd, hFs⟩ ⟨hPg, hPr, hPt⟩ hb0 hbK d (x + 1) (p + 1) (by omega) (by omega) (by omega) (by omega) (by rw [← ht, th_, if_pos (by omega)]; first | rw [if_pos (by omega)] | rw [if_neg (by omega)]) (by omega)

theorem qy_countThrough {m s : Nat} {F : aq_F} {c : aq_C} {o n K : Nat} (hB : bx_0 m F o n K) {tP : Int → Int → Int} (hP : bx_p F o n K tP) {b : Int} (hb0 : 0 ≤ b) (hbK : b < (K : Int)) : am_E ac_X0_countThrough (0, [vR o, vI b, vU, vU], [], aq_h m s F c) (aq_P m s F c (fun r => r = some (vI (th_ (n : Int) (tP ((b.toNat : Nat) : Int)) 9 0 0)))) := by
  obtain ⟨hm, hn1, hn4, hK, hFo, hFd, hFs⟩ := hB
  obtain ⟨hPg, hPr, hPt⟩ := hP
  refine am_E.go (t2 := (1, [vR o, vI b, vU, vU], [vI 0], aq_h m s F c)) rfl rfl ?_
  refine am_E.go (t2 := (2, [vR o, vI b, vI 0, vU], [], aq_h m s F c)) rfl rfl ?_
  refine am_E.go (t2 := (3, [vR o, vI b, vI 0, vU], [vI 0], aq_h m s F c)) rfl rfl ?_
  refine am_E.go (t2 := (4, [vR o, vI b, vI 0, vI 0], [], aq_h m s F c)) rfl rfl ?_
  exact qy_through_l ⟨hm, hn1, hn4, hK, hFo, hFd, hFs⟩ ⟨hPg, hPr, hPt⟩ hb0 hbK 9 0 0 (by omega) (by omega) (by omega) (by omega) rfl (by omega)

theorem qy_upsideDown_l {m s : Nat} {F : aq_F} {c0 : aq_C} {S : Nat → Prop} {o n K : Nat} (hB : bx_0 m F o n K) (hSd : S (o + 6 + 3 * K)) (hSs : S (o + 7 + 3 * K)) {tP : Int → Int → Int} (hP : bx_p F o n K tP) {b : Int} (hb0 : 0 ≤ b) (hbK : b < (K : Int)) : ∀ (d : Nat) (p : Int) (c : aq_C) (hs : aq_sm S c0 c) (h0 : 0 ≤ p) (h1 : p ≤ 2 * (n : Int)) (hr : aq_rg (o + 6 + 3 * K) (2 * (n : Int)) 0 (2 * (n : Int)) c) (hz : ∀ i, 0 ≤ i → i < p → c (o + 6 + 3 * K) (ac_ (n : Int) i) = ac_ (n : Int) ((tP ((b.toNat : Nat) : Int)) i)) (hd : 2 * (n : Int) - p < (d : Int)), am_E ac_X0_upsideDown (2, [vR o, vI b, vI p], [], aq_h m s F c) (aq_Z m s F S c0 (fun r d => r = some (vI (ud_ (n : Int) (tP ((b.toNat : Nat) : Int)))) ∧ aq_rg (o + 6 + 3 * K) (2 * (n : Int)) 0 (2 * (n : Int)) d))
  | 0, p, c, hs, h0, h1, hr, hz, hd => by exfalso; omega
  | d + 1, p, c, hs, h0, h1, hr, hz, hd => by
    obtain ⟨hm, hn1, hn4, hK, hFo, hFd, hFs⟩ := hB
    obtain ⟨hPg, hPr, hPt⟩ := hP
    refine am_E.go (t2 := (3, [vR o, vI b, vI p], [vI p], aq_h m s F c)) rfl rfl ?_
    refine am_E.go (t2 := (4, [vR o, vI b, vI p], [vR o, vI p], aq_h m s F c)) rfl rfl ?_
    refine aq_gf (v := vI (2 * (n : Int))) rfl (by omega) hFo (by decide) rfl ?_
    show am_E _ (7, [vR o, vI b, vI p], [vI (2 * (n : Int)), vI p], aq_h m s F c) _
    refine ae_icmp rfl (fun (q_1 : (2 * (n : Int)) ≤ p) => ?_) (fun (q_1 : p < (2 * (n : Int))) => ?_)
    · refine am_E.go (t2 := (39, [vR o, vI b, vI p], [vR o], aq_h m s F c)) rfl rfl ?_
      refine am_E.go (t2 := (40, [vR o, vI b, vI p], [vR o, vR o], aq_h m s F c)) rfl rfl ?_
      refine aq_gf (v := vR (o + 6 + 3 * K)) rfl (by omega) hFo (by decide) rfl ?_
      show am_E _ (43, [vR o, vI b, vI p], [vR (o + 6 + 3 * K), vR o], aq_h m s F c) _
      refine aq_callv (y := 2) (as2 := [vR (o + 6 + 3 * K)]) (rest := []) rfl rfl (by decide) (Nat.le_of_ble_eq_true rfl) rfl rfl (Nat.le_of_ble_eq_true rfl) (by omega) hFo rfl (Nat.le_of_ble_eq_true rfl) (qn_X0_numberOf ⟨hm, hn1, hn4, hK, hFo, hFd, hFs⟩ hr) ?_
      rintro r5 h5 ⟨rfl, rfl⟩
      show am_E _ (46, [vR o, vI b, vI p], [vI (nu_o (c (o + 6 + 3 * K)) (2 * (n : Int)) 9 0 0 (2 * (n : Int) - 1))], aq_h m s F c) _
      refine am_E.ret rfl rfl ?_
      refine ⟨_, rfl, hs, ?_, hr⟩
      have e9 := nu_oc (N := 2 * (n : Int)) (f := c (o + 6 + 3 * K)) (g := ud_f (n : Int) (tP ((b.toNat : Nat) : Int))) (fun q q0 q1 => by have r := ac_r (n := (n : Int)) q0 q1; have := hz (ac_ (n : Int) q) r.1 (by omega); rw [ac_ac q0 q1] at this; exact this) (fun i i0 i1 => by have := hr i i0 i1; omega) 9 0 0 (2 * (n : Int) - 1) (by omega)
      rw [e9]
      rfl
    · refine am_E.go (t2 := (11, [vR o, vI b, vI p], [vR o], aq_h m s F c)) rfl rfl ?_
      refine aq_gf (v := vR (o + 6 + 3 * K)) rfl (by omega) hFo (by decide) rfl ?_
      show am_E _ (14, [vR o, vI b, vI p], [vR (o + 6 + 3 * K)], aq_h m s F c) _
      refine am_E.go (t2 := (15, [vR o, vI b, vI p], [vR o, vR (o + 6 + 3 * K)], aq_h m s F c)) rfl rfl ?_
      refine am_E.go (t2 := (16, [vR o, vI b, vI p], [vI p, vR o, vR (o + 6 + 3 * K)], aq_h m s F c)) rfl rfl ?_
      refine aq_callv (y := 2) (as2 := [vI p]) (rest := [vR (o + 6 + 3 * K)]) rfl rfl (by decide) (Nat.le_of_ble_eq_true rfl) rfl rfl (Nat.le_of_ble_eq_true rfl) (by omega) hFo rfl (Nat.le_of_ble_eq_true rfl) (qz_across ⟨hm, hn1, hn4, hK, hFo, hFd, hFs⟩ (by omega) (by omega)) ?_
      rintro r5 h5 ⟨rfl, rfl⟩
      show am_E _ (19, [vR o, vI b, vI p], [vI (ac_ (n : Int) p), vR (o + 6 + 3 * K)], aq_h m s F c) _
      have ha_2 := ac_r (n := (n : Int)) (i := p) (by omega) (by omega)
      refine am_E.go (t2 := (20, [vR o, vI b, vI p], [vR o, vI (ac_ (n : Int) p), vR (o + 6 + 3 * K)], aq_h m s F c)) rfl rfl ?_
      refine am_E.go (t2 := (21, [vR o, vI b, vI p], [vR o, vR o, vI (ac_ (n : Int) p), vR (o + 6 + 3 * K)], aq_h m s F c)) rfl rfl ?_
      refine aq_gf (v := vR (o + 1)) rfl (by omega) hFo (by decide) rfl ?_
      show am_E _ (24, [vR o, vI b, vI p], [vR (o + 1), vR o, vI (ac_ (n : Int) p), vR (o + 6 + 3 * K)], aq_h m s F c) _
      refine am_E.go (t2 := (25, [vR o, vI b, vI p], [vI b, vR (o + 1), vR o, vI (ac_ (n : Int) p), vR (o + 6 + 3 * K)], aq_h m s F c)) rfl rfl ?_
      refine aq_al (ok := fun k => decide (3 ≤ k) && decide (k < 7)) (v := vR (o + 2 + b.toNat)) rfl rfl (by omega) hPg rfl (by omega) (by omega) (aq_gi (by omega)) ?_
      show am_E _ (26, [vR o, vI b, vI p], [vR (o + 2 + b.toNat), vR o, vI (ac_ (n : Int) p), vR (o + 6 + 3 * K)], aq_h m s F c) _
      refine am_E.go (t2 := (27, [vR o, vI b, vI p], [vI p, vR (o + 2 + b.toNat), vR o, vI (ac_ (n : Int) p), vR (o + 6 + 3 * K)], aq_h m s F c)) rfl rfl ?_
      refine aq_alt (ok := fun k => k == 0) rfl rfl (by omega) (hPr _ (by omega)) rfl (by omega) (by omega) ?_
      show am_E _ (28, [vR o, vI b, vI p], [vI (tP ((b.toNat : Nat) : Int) p), vR o, vI (ac_ (n : Int) p), vR (o + 6 + 3 * K)], aq_h m s F c) _
      have f_3 := hPt ((b.toNat : Nat) : Int) p (by omega) (by omega) (by omega) (by omega)
      refine aq_callv (y := 2) (as2 := [vI (tP ((b.toNat : Nat) : Int) p)]) (rest := [vI (ac_ (n : Int) p), vR (o + 6 + 3 * K)]) rfl rfl (by decide) (Nat.le_of_ble_eq_true rfl) rfl rfl (Nat.le_of_ble_eq_true rfl) (by omega) hFo rfl (Nat.le_of_ble_eq_true rfl) (qz_across ⟨hm, hn1, hn4, hK, hFo, hFd, hFs⟩ (by omega) (by omega)) ?_
      rintro r5 h5 ⟨rfl, rfl⟩
      show am_E _ (31, [vR o, vI b, vI p], [vI (ac_ (n : Int) (tP ((b.toNat : Nat) : Int) p)), vI (ac_ (n : Int) p), vR (o + 6 + 3 * K)], aq_h m s F c) _
      have ha_4 := ac_r (n := (n : Int)) (i := (tP ((b.toNat : Nat) : Int) p)) (by omega) (by omega)
      refine aq_as (kd := 0) rfl rfl (by omega) hFd (by omega) (by omega) rfl rfl ?_
      show am_E _ (32, [vR o, vI b, vI p], [], aq_h m s F (aq_u c (o + 6 + 3 * K) (ac_ (n : Int) p) (ac_ (n : Int) (tP ((b.toNat : Nat) : Int) p)))) _
      generalize hdc_5 : aq_u c (o + 6 + 3 * K) (ac_ (n : Int) p) (ac_ (n : Int) (tP ((b.toNat : Nat) : Int) p)) = c_5
      have sc_5 := aq_smu hs hdc_5 hSd
      have hdrc_5 := aq_rgu hr hdc_5 (by omega) (by omega)
      refine ae_iinc rfl rfl (am_ri (by omega) (by omega)) ?_
      show am_E _ (35, [vR o, vI b, vI (p + 1)], [], aq_h m s F c_5) _
      refine am_E.go (t2 := (2, [vR o, vI b, vI (p + 1)], [], aq_h m s F c_5)) rfl rfl ?_
      exact qy_upsideDown_l ⟨hm, hn1, hn4, hK, hFo, hFd, hFs⟩ hSd hSs ⟨hPg, hPr, hPt⟩ hb0 hbK d (p + 1) c_5 sc_5 (by omega) (by omega) hdrc_5 (fun i h5 h6 => by rw [← hdc_5]; by_cases e : i = p; (rw [e, aq_us]); (rw [aq_un (Or.inr (ac_i h5 (by omega) h0 (by omega) e))]; exact hz i h5 (by omega))) (by omega)

theorem qy_upsideDown {m s : Nat} {F : aq_F} {c : aq_C} {S : Nat → Prop} {o n K : Nat} (hB : bx_0 m F o n K) (hSd : S (o + 6 + 3 * K)) (hSs : S (o + 7 + 3 * K)) {tP : Int → Int → Int} (hP : bx_p F o n K tP) {b : Int} (hb0 : 0 ≤ b) (hbK : b < (K : Int)) (hr : aq_rg (o + 6 + 3 * K) (2 * (n : Int)) 0 (2 * (n : Int)) c) : am_E ac_X0_upsideDown (0, [vR o, vI b, vU], [], aq_h m s F c) (aq_Z m s F S c (fun r d => r = some (vI (ud_ (n : Int) (tP ((b.toNat : Nat) : Int)))) ∧ aq_rg (o + 6 + 3 * K) (2 * (n : Int)) 0 (2 * (n : Int)) d)) := by
  obtain ⟨hm, hn1, hn4, hK, hFo, hFd, hFs⟩ := hB
  obtain ⟨hPg, hPr, hPt⟩ := hP
  refine am_E.go (t2 := (1, [vR o, vI b, vU], [vI 0], aq_h m s F c)) rfl rfl ?_
  refine am_E.go (t2 := (2, [vR o, vI b, vI 0], [], aq_h m s F c)) rfl rfl ?_
  exact qy_upsideDown_l ⟨hm, hn1, hn4, hK, hFo, hFd, hFs⟩ hSd hSs ⟨hPg, hPr, hPt⟩ hb0 hbK 9 0 c aq_sm0 (by omega) (by omega) hr (fun i h5 h6 => absurd h6 (by omega)) (by omega)

theorem qe_X4_about {m s : Nat} {F : aq_F} {c : aq_C} (hC : sb_C m F) (hI : cl_I c) {nn b w : Int} : am_E ac_X4_about (0, [vR 0, vI nn, vI b, vI w, vU], [], aq_h m s F c) (aq_Z m s F (fun a => a < 527) c (fun r d => r = some (vI (ab_a nn b w)) ∧ cl_I d)) := by
  obtain ⟨hCm, hC0, hC1, hC2, hC3, ⟨hma4, hFa4, hFn4, hFp4, hFf4⟩, ⟨hmx, hFx, hFl, hFw⟩, hCs, hCb, hCh⟩ := id hC
  refine am_E.go (t2 := (1, [vR 0, vI nn, vI b, vI w, vU], [vR 0], aq_h m s F c)) rfl rfl ?_
  refine am_E.go (t2 := (2, [vR 0, vI nn, vI b, vI w, vU], [vI nn, vR 0], aq_h m s F c)) rfl rfl ?_
  refine am_E.go (t2 := (3, [vR 0, vI nn, vI b, vI w, vU], [vI b, vI nn, vR 0], aq_h m s F c)) rfl rfl ?_
  refine aq_callv (y := 3) (as2 := [vI nn, vI b]) (rest := []) rfl rfl (by decide) (Nat.le_of_ble_eq_true rfl) rfl rfl (Nat.le_of_ble_eq_true rfl) (by omega) hC0 rfl (Nat.le_of_ble_eq_true rfl) (qn_X4_isBox hC) ?_
  rintro r5 h5 ⟨rfl, v_1, rfl, hv_1⟩
  show am_E _ (6, [vR 0, vI nn, vI b, vI w, vU], [vI v_1], aq_h m s F c) _
  refine ae_if0 rfl (fun (q_2 : v_1 ≠ 0) => ?_) (fun (q_2 : v_1 = 0) => ?_)
  · refine am_E.go (t2 := (12, [vR 0, vI nn, vI b, vI w, vU], [vR 0], aq_h m s F c)) rfl rfl ?_
    refine aq_gf (v := vR 1) rfl (by omega) hC0 (by decide) rfl ?_
    show am_E _ (15, [vR 0, vI nn, vI b, vI w, vU], [vR 1], aq_h m s F c) _
    refine am_E.go (t2 := (16, [vR 0, vI nn, vI b, vI w, vU], [vI nn, vR 1], aq_h m s F c)) rfl rfl ?_
    refine am_E.go (t2 := (17, [vR 0, vI nn, vI b, vI w, vU], [vI 1, vI nn, vR 1], aq_h m s F c)) rfl rfl ?_
    refine ae_sub rfl (am_ri (by omega) (by omega)) ?_
    show am_E _ (18, [vR 0, vI nn, vI b, vI w, vU], [vI (nn - 1), vR 1], aq_h m s F c) _
    obtain ⟨o, n, K, e_o, e_n, e_K, e_j, e_k, tP, tG, tN, tR, tL, ⟨hm, hn1, hn4, hK, hFo, hFd, hFs⟩, ⟨hPg, hPr, hPt⟩, ⟨hL, hGg, hGr, hNg, hNr, hLt, hGt, hNt⟩, ⟨hR, hRt⟩, hst, hex⟩ := sb_box hC (i := (nn - 1)) (by omega) (by omega)
    have hb := sb_bnd ((nn - 1)).toNat (by omega)
    rw [e_o, e_k] at hb
    have hbK : (K : Int) = bx_K nn := by rw [e_K]; congr 1; omega
    refine aq_al (ok := fun k => decide (3 ≤ k) && decide (k < 7)) (v := vR o) rfl rfl (by omega) hC1 rfl (by omega) (by omega) (aq_gi2 (by omega) e_o) ?_
    show am_E _ (19, [vR 0, vI nn, vI b, vI w, vU], [vR o], aq_h m s F c) _
    refine am_E.go (t2 := (21, [vR 0, vI nn, vI b, vI w, vR o], [], aq_h m s F c)) rfl rfl ?_
    refine am_E.go (t2 := (22, [vR 0, vI nn, vI b, vI w, vR o], [vI w], aq_h m s F c)) rfl rfl ?_
    have hsw : w = 0 ∨ w = 1 ∨ w = 2 ∨ w = 3 ∨ w = 4 ∨ (w < 0 ∨ 4 < w) := by omega
    rcases hsw with h | h | h | h | h | h
    · subst h
      refine am_E.go (t2 := (56, [vR 0, vI nn, vI b, vI 0, vR o], [], aq_h m s F c)) rfl rfl ?_
      refine am_E.go (t2 := (58, [vR 0, vI nn, vI b, vI 0, vR o], [vR o], aq_h m s F c)) rfl rfl ?_
      refine am_E.go (t2 := (59, [vR 0, vI nn, vI b, vI 0, vR o], [vI b, vR o], aq_h m s F c)) rfl rfl ?_
      refine aq_callv (y := 2) (as2 := [vI b]) (rest := []) rfl rfl (by decide) (Nat.le_of_ble_eq_true rfl) rfl rfl (Nat.le_of_ble_eq_true rfl) (by omega) hFo rfl (Nat.le_of_ble_eq_true rfl) (qz_isPlane ⟨hm, hn1, hn4, hK, hFo, hFd, hFs⟩ ⟨hPg, hPr, hPt⟩ (by omega) (by omega)) ?_
      rintro r5 h5 ⟨rfl, rfl⟩
      show am_E _ (62, [vR 0, vI nn, vI b, vI 0, vR o], [vI (po_ (n : Int) (tP ((b.toNat : Nat) : Int)) 9 0)], aq_h m s F c) _
      have hpo := po_b (n := (n : Int)) (f := tP ((b.toNat : Nat) : Int)) 9 0
      refine ae_if0 rfl (fun (q_3 : (po_ (n : Int) (tP ((b.toNat : Nat) : Int)) 9 0) = 0) => ?_) (fun (q_3 : (po_ (n : Int) (tP ((b.toNat : Nat) : Int)) 9 0) ≠ 0) => ?_)
      · refine am_E.go (t2 := (70, [vR 0, vI nn, vI b, vI 0, vR o], [vI 0], aq_h m s F c)) rfl rfl ?_
        refine am_E.ret rfl rfl ?_
        refine ⟨_, rfl, (aq_sm0 (S := fun a => a < 527)), ?_, hI⟩
        have e2 : (n : Int) = nn := by omega
        have e3 : ab_a nn b 0 = po_ nn (prt nn b) 9 0 := by unfold ab_a; rw [if_pos (by omega)]; rfl
        rw [e3]
        have e4 : po_ nn (tP ((b.toNat : Nat) : Int)) 9 0 = po_ nn (prt nn b) 9 0 := po_c (fun p p0 p1 => by have := (hPt ((b.toNat : Nat) : Int) p (by omega) (by omega) p0 (by omega)).2.2; rw [this, Int.toNat_of_nonneg (by omega), e2]) 9 0 (by omega)
        have e5 : po_ nn (prt nn b) 9 0 = 0 := by rw [← e4, ← e2]; omega
        rw [e5]
      · refine am_E.go (t2 := (66, [vR 0, vI nn, vI b, vI 0, vR o], [vI 1], aq_h m s F c)) rfl rfl ?_
        refine am_E.go (t2 := (70, [vR 0, vI nn, vI b, vI 0, vR o], [vI 1], aq_h m s F c)) rfl rfl ?_
        refine am_E.ret rfl rfl ?_
        refine ⟨_, rfl, (aq_sm0 (S := fun a => a < 527)), ?_, hI⟩
        have e2 : (n : Int) = nn := by omega
        have e3 : ab_a nn b 0 = po_ nn (prt nn b) 9 0 := by unfold ab_a; rw [if_pos (by omega)]; rfl
        rw [e3]
        have e4 : po_ nn (tP ((b.toNat : Nat) : Int)) 9 0 = po_ nn (prt nn b) 9 0 := po_c (fun p p0 p1 => by have := (hPt ((b.toNat : Nat) : Int) p (by omega) (by omega) p0 (by omega)).2.2; rw [this, Int.toNat_of_nonneg (by omega), e2]) 9 0 (by omega)
        have e5 : po_ nn (prt nn b) 9 0 = 1 := by rw [← e4, ← e2]; omega
        rw [e5]
    · subst h
      refine am_E.go (t2 := (71, [vR 0, vI nn, vI b, vI 1, vR o], [], aq_h m s F c)) rfl rfl ?_
      refine am_E.go (t2 := (73, [vR 0, vI nn, vI b, vI 1, vR o], [vR o], aq_h m s F c)) rfl rfl ?_
      refine am_E.go (t2 := (74, [vR 0, vI nn, vI b, vI 1, vR o], [vI b, vR o], aq_h m s F c)) rfl rfl ?_
      refine aq_callv (y := 2) (as2 := [vI b]) (rest := []) rfl rfl (by decide) (Nat.le_of_ble_eq_true rfl) rfl rfl (Nat.le_of_ble_eq_true rfl) (by omega) hFo rfl (Nat.le_of_ble_eq_true rfl) (qy_countThrough ⟨hm, hn1, hn4, hK, hFo, hFd, hFs⟩ ⟨hPg, hPr, hPt⟩ (by omega) (by omega)) ?_
      rintro r5 h5 ⟨rfl, rfl⟩
      show am_E _ (77, [vR 0, vI nn, vI b, vI 1, vR o], [vI (th_ (n : Int) (tP ((b.toNat : Nat) : Int)) 9 0 0)], aq_h m s F c) _
      refine am_E.ret rfl rfl ?_
      refine ⟨_, rfl, (aq_sm0 (S := fun a => a < 527)), ?_, hI⟩
      have e2 : (n : Int) = nn := by omega
      have e3 : ab_a nn b 1 = th_ nn (prt nn b) 9 0 0 := by unfold ab_a; rw [if_pos (by omega)]; rfl
      rw [e3]
      rw [e2, th_c (g := prt nn b) (fun p p0 p1 => by have := (hPt ((b.toNat : Nat) : Int) p (by omega) (by omega) p0 (by omega)).2.2; rw [this, Int.toNat_of_nonneg (by omega), e2]) (by omega) 9 0 0 (by omega)]
    · subst h
      refine am_E.go (t2 := (78, [vR 0, vI nn, vI b, vI 2, vR o], [], aq_h m s F c)) rfl rfl ?_
      refine am_E.go (t2 := (80, [vR 0, vI nn, vI b, vI 2, vR o], [vR o], aq_h m s F c)) rfl rfl ?_
      refine am_E.go (t2 := (81, [vR 0, vI nn, vI b, vI 2, vR o], [vI b, vR o], aq_h m s F c)) rfl rfl ?_
      refine aq_callv (y := 2) (as2 := [vI b]) (rest := []) rfl rfl (by decide) (Nat.le_of_ble_eq_true rfl) rfl rfl (Nat.le_of_ble_eq_true rfl) (by omega) hFo rfl (Nat.le_of_ble_eq_true rfl) (qy_upsideDown (S := fun a => a = o + 6 + 3 * K ∨ a = o + 7 + 3 * K) ⟨hm, hn1, hn4, hK, hFo, hFd, hFs⟩ (Or.inl rfl) (Or.inr rfl) ⟨hPg, hPr, hPt⟩ (by omega) (by omega) (by have h9 := hI.1 ((nn - 1)).toNat (by omega); rw [e_o, e_k, ← e_j] at h9; exact h9)) ?_
      rintro r5 h5 ⟨c_b, rfl, s_b, rfl, hr_b⟩
      show am_E _ (84, [vR 0, vI nn, vI b, vI 2, vR o], [vI (ud_ (n : Int) (tP ((b.toNat : Nat) : Int)))], aq_h m s F c_b) _
      refine am_E.ret rfl rfl ?_
      refine ⟨_, rfl, (aq_smt (aq_sm0 (S := fun a => a < 527)) (aq_smi s_b (fun a h => by omega))), ?_, cl_b hI (j := ((nn - 1)).toNat) (by omega) (by rw [e_o, e_k]; exact s_b) (by rw [e_o, e_k, ← e_j]; exact hr_b)⟩
      have e2 : (n : Int) = nn := by omega
      have e3 : ab_a nn b 2 = ud_ nn (prt nn b) := by unfold ab_a; rw [if_pos (by omega)]; rfl
      rw [e3]
      rw [e2, ud_c (g := prt nn b) (fun p p0 p1 => by have := (hPt ((b.toNat : Nat) : Int) p (by omega) (by omega) p0 (by omega)).2.2; rw [this, Int.toNat_of_nonneg (by omega), e2]) (fun i i0 i1 => by have := pr_fi (n := nn) (b := b) (by omega) (by omega) (by omega) (by omega) i i0 i1; omega)]
    · subst h
      refine am_E.go (t2 := (85, [vR 0, vI nn, vI b, vI 3, vR o], [], aq_h m s F c)) rfl rfl ?_
      refine am_E.go (t2 := (87, [vR 0, vI nn, vI b, vI 3, vR o], [vR o], aq_h m s F c)) rfl rfl ?_
      refine aq_gf (v := vR (o + 2 + K)) rfl (by omega) hFo (by decide) rfl ?_
      show am_E _ (90, [vR 0, vI nn, vI b, vI 3, vR o], [vR (o + 2 + K)], aq_h m s F c) _
      refine am_E.go (t2 := (91, [vR 0, vI nn, vI b, vI 3, vR o], [vI b, vR (o + 2 + K)], aq_h m s F c)) rfl rfl ?_
      refine aq_alt (ok := fun k => k == 0) rfl rfl (by omega) hR rfl (by omega) (by omega) ?_
      show am_E _ (92, [vR 0, vI nn, vI b, vI 3, vR o], [vI (tR b)], aq_h m s F c) _
      refine am_E.ret rfl rfl ?_
      refine ⟨_, rfl, (aq_sm0 (S := fun a => a < 527)), ?_, hI⟩
      have e2 : (n : Int) = nn := by omega
      have e3 : ab_a nn b 3 = rg_ nn b := by unfold ab_a; rw [if_pos (by omega)]; rfl
      rw [e3]
      rw [(hex.1 b (by omega) (by omega)).1, e2]
    · subst h
      refine am_E.go (t2 := (93, [vR 0, vI nn, vI b, vI 4, vR o], [], aq_h m s F c)) rfl rfl ?_
      refine am_E.go (t2 := (95, [vR 0, vI nn, vI b, vI 4, vR o], [vR o], aq_h m s F c)) rfl rfl ?_
      refine aq_gf (v := vR (o + 3 + K)) rfl (by omega) hFo (by decide) rfl ?_
      show am_E _ (98, [vR 0, vI nn, vI b, vI 4, vR o], [vR (o + 3 + K)], aq_h m s F c) _
      refine am_E.go (t2 := (99, [vR 0, vI nn, vI b, vI 4, vR o], [vI b, vR (o + 3 + K)], aq_h m s F c)) rfl rfl ?_
      refine aq_alt (ok := fun k => k == 0) rfl rfl (by omega) hL rfl (by omega) (by omega) ?_
      show am_E _ (100, [vR 0, vI nn, vI b, vI 4, vR o], [vI (tL b)], aq_h m s F c) _
      refine am_E.ret rfl rfl ?_
      refine ⟨_, rfl, (aq_sm0 (S := fun a => a < 527)), ?_, hI⟩
      have e2 : (n : Int) = nn := by omega
      have e3 : ab_a nn b 4 = ln_ nn b := by unfold ab_a; rw [if_pos (by omega)]; rfl
      rw [e3]
      rw [(hex.1 b (by omega) (by omega)).2, e2]
    · refine ae_swd rfl h ?_
      show am_E _ (101, [vR 0, vI nn, vI b, vI w, vR o], [], aq_h m s F c) _
      refine am_E.go (t2 := (102, [vR 0, vI nn, vI b, vI w, vR o], [vI (-1)], aq_h m s F c)) rfl rfl ?_
      refine am_E.ret rfl rfl ?_
      exact ⟨_, rfl, (aq_sm0 (S := fun a => a < 527)), by unfold ab_a; (repeat' split) <;> first | rfl | (exfalso; omega), hI⟩
  · refine am_E.go (t2 := (10, [vR 0, vI nn, vI b, vI w, vU], [vI (-1)], aq_h m s F c)) rfl rfl ?_
    refine am_E.ret rfl rfl ?_
    exact ⟨_, rfl, (aq_sm0 (S := fun a => a < 527)), by unfold ab_a; (repeat' split) <;> first | rfl | (exfalso; omega), hI⟩
