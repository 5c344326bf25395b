/-! The reference: answers of partner and plain. Printed by wip/p20/sx/gEXm.py. -/

theorem qe_X5_partner {m s : Nat} {F : aq_F} {c : aq_C} {y : Nat} (hC : mo_C m F y) (hI : mo_I y c) {n bb p : Int} : am_E ac_X5_partner (0, [vR y, vI n, vI bb, vI p], [], aq_h m s F c) (aq_Z m s F (fun a => y ≤ a ∧ a < y + 24) c (fun r d => r = some (vI (pt_a n bb p)) ∧ mo_I y d)) := by
  obtain ⟨⟨hm, hFo, hG5, hG6, hG7, hG8, hG9, hG10, hG11, hG12, hG13, hG14, hG15, hG16, hG17, hG18, hG19, hG20, hG21, hG22, hG23⟩, ⟨tbl, hT1, hTt⟩, ⟨tA, tB, tD, hL1, hL2, hL3, hLt⟩⟩ := hC
  have hfs := mo_fs n
  refine am_E.go (t2 := (1, [vR y, vI n, vI bb, vI p], [vI n], aq_h m s F c)) rfl rfl ?_
  refine am_E.go (t2 := (2, [vR y, vI n, vI bb, vI p], [vI bb, vI n], aq_h m s F c)) rfl rfl ?_
  refine am_E.call rfl rfl rfl (Nat.le_of_ble_eq_true rfl) (qm_isBox) ?_
  rintro r5 h5 ⟨rfl, v_1, rfl, hv_1⟩
  show am_E _ (5, [vR y, vI n, vI bb, vI p], [vI v_1], aq_h m s F c) _
  refine ae_if0 rfl (fun (q_2 : v_1 = 0) => ?_) (fun (q_2 : v_1 ≠ 0) => ?_)
  · refine am_E.go (t2 := (39, [vR y, vI n, vI bb, vI p], [vI (-1)], aq_h m s F c)) rfl rfl ?_
    refine am_E.ret rfl rfl ?_
    exact ⟨_, rfl, (aq_sm0 (c := c) (S := fun a => y ≤ a ∧ a < y + 24)), by rw [pt_a, if_neg (by omega)], hI⟩
  · refine am_E.go (t2 := (9, [vR y, vI n, vI bb, vI p], [vI p], aq_h m s F c)) rfl rfl ?_
    refine am_E.go (t2 := (10, [vR y, vI n, vI bb, vI p], [vL p], aq_h m s F c)) rfl rfl ?_
    refine am_E.go (t2 := (11, [vR y, vI n, vI bb, vI p], [vL 0, vL p], aq_h m s F c)) rfl rfl ?_
    refine am_E.go (t2 := (12, [vR y, vI n, vI bb, vI p], [vI 2, vL 0, vL p], aq_h m s F c)) rfl rfl ?_
    refine am_E.go (t2 := (13, [vR y, vI n, vI bb, vI p], [vI n, vI 2, vL 0, vL p], aq_h m s F c)) rfl rfl ?_
    refine ae_mul rfl (am_ri (by omega) (by omega)) ?_
    show am_E _ (14, [vR y, vI n, vI bb, vI p], [vI (2 * n), vL 0, vL p], aq_h m s F c) _
    refine am_E.go (t2 := (15, [vR y, vI n, vI bb, vI p], [vI 1, vI (2 * n), vL 0, vL p], aq_h m s F c)) rfl rfl ?_
    refine ae_sub rfl (am_ri (by omega) (by omega)) ?_
    show am_E _ (16, [vR y, vI n, vI bb, vI p], [vI ((2 * n) - 1), vL 0, vL p], aq_h m s F c) _
    refine am_E.go (t2 := (17, [vR y, vI n, vI bb, vI p], [vL ((2 * n) - 1), vL 0, vL p], aq_h m s F c)) rfl rfl ?_
    refine am_E.call rfl rfl rfl (Nat.le_of_ble_eq_true rfl) (qm_in) ?_
    rintro r5 h5 ⟨rfl, v_3, rfl, hv_3⟩
    show am_E _ (20, [vR y, vI n, vI bb, vI p], [vI v_3], aq_h m s F c) _
    refine ae_if0 rfl (fun (q_4 : v_3 = 0) => ?_) (fun (q_4 : v_3 ≠ 0) => ?_)
    · refine am_E.go (t2 := (39, [vR y, vI n, vI bb, vI p], [vI (-1)], aq_h m s F c)) rfl rfl ?_
      refine am_E.ret rfl rfl ?_
      exact ⟨_, rfl, (aq_sm0 (c := c) (S := fun a => y ≤ a ∧ a < y + 24)), by rw [pt_a, if_neg (by omega)], hI⟩
    · refine am_E.go (t2 := (24, [vR y, vI n, vI bb, vI p], [vR y], aq_h m s F c)) rfl rfl ?_
      refine aq_gf (v := vR (y + 1)) rfl (by omega) hFo (by decide) rfl ?_
      show am_E _ (27, [vR y, vI n, vI bb, vI p], [vR (y + 1)], aq_h m s F c) _
      refine am_E.go (t2 := (28, [vR y, vI n, vI bb, vI p], [vI n, vR (y + 1)], aq_h m s F c)) rfl rfl ?_
      refine am_E.go (t2 := (29, [vR y, vI n, vI bb, vI p], [vI bb, vI n, vR (y + 1)], aq_h m s F c)) rfl rfl ?_
      refine am_E.call rfl rfl rfl (Nat.le_of_ble_eq_true rfl) (qm_at (by omega) (by omega)) ?_
      rintro r5 h5 ⟨rfl, xa, rfl, hxa⟩
      show am_E _ (32, [vR y, vI n, vI bb, vI p], [vI xa, vR (y + 1)], aq_h m s F c) _
      refine am_E.go (t2 := (33, [vR y, vI n, vI bb, vI p], [vI p, vI xa, vR (y + 1)], aq_h m s F c)) rfl rfl ?_
      refine ae_add rfl (am_ri (by omega) (by omega)) ?_
      show am_E _ (34, [vR y, vI n, vI bb, vI p], [vI (xa + p), vR (y + 1)], aq_h m s F c) _
      refine aq_alt (ok := fun k => k == 0) rfl rfl (by omega) hT1 rfl (by omega) (by omega) ?_
      show am_E _ (35, [vR y, vI n, vI bb, vI p], [vI (tbl (xa + p))], aq_h m s F c) _
      refine am_E.go (t2 := (39, [vR y, vI n, vI bb, vI p], [vI (tbl (xa + p))], aq_h m s F c)) rfl rfl ?_
      refine am_E.ret rfl rfl ?_
      refine ⟨_, rfl, (aq_sm0 (c := c) (S := fun a => y ≤ a ∧ a < y + 24)), ?_, hI⟩
      rw [show (xa + p) = 8 * (mo_f n + bb) + p by omega, hTt n bb p (by omega) (by omega) (by omega) (by omega) (by omega) (by omega), pt_a, if_pos (by omega)]

theorem pl_e1 : ∀ l : Nat, l < 14 → (l = 0 ∨ ((1 ≤ l ∧ l < 1) ∨ (11 ≤ l ∧ l < 10 + 1))) → ∀ i : Nat, i < 2 → mo_pl 1 l i = bx_ol 1 l i := by decide +kernel
theorem pl_e2 : ∀ l : Nat, l < 14 → (l = 0 ∨ ((1 ≤ l ∧ l < 2) ∨ (11 ≤ l ∧ l < 10 + 2))) → ∀ i : Nat, i < 4 → mo_pl 2 l i = bx_ol 2 l i := by decide +kernel
theorem pl_e3 : ∀ l : Nat, l < 14 → (l = 0 ∨ ((1 ≤ l ∧ l < 3) ∨ (11 ≤ l ∧ l < 10 + 3))) → ∀ i : Nat, i < 6 → mo_pl 3 l i = bx_ol 3 l i := by decide +kernel
theorem pl_e4 : ∀ l : Nat, l < 14 → (l = 0 ∨ ((1 ≤ l ∧ l < 4) ∨ (11 ≤ l ∧ l < 10 + 4))) → ∀ i : Nat, i < 8 → mo_pl 4 l i = bx_ol 4 l i := by decide +kernel
theorem pl_e {n l i : Int} (h1 : 1 ≤ n) (h4 : n ≤ 4) (hl : l = 0 ∨ ((1 ≤ l ∧ l < n) ∨ (11 ≤ l ∧ l < 10 + n))) (h0 : 0 ≤ i) (hi : i < 2 * n) : mo_pl n l i = bx_ol n.toNat l i := by
  have el : ((l.toNat : Nat) : Int) = l := Int.toNat_of_nonneg (by omega)
  have ei : ((i.toNat : Nat) : Int) = i := Int.toNat_of_nonneg h0
  have h : n = 1 ∨ n = 2 ∨ n = 3 ∨ n = 4 := by omega
  rcases h with h | h | h | h <;> subst h
  · have := pl_e1 l.toNat (by omega) (by omega) i.toNat (by omega)
    rw [el, ei] at this
    exact this
  · have := pl_e2 l.toNat (by omega) (by omega) i.toNat (by omega)
    rw [el, ei] at this
    exact this
  · have := pl_e3 l.toNat (by omega) (by omega) i.toNat (by omega)
    rw [el, ei] at this
    exact this
  · have := pl_e4 l.toNat (by omega) (by omega) i.toNat (by omega)
    rw [el, ei] at this
    exact this
/-- the number of a box, by its pairing -/
theorem nu_v {n v : Int} {f : Int → Int} (h1 : 1 ≤ n) (h4 : n ≤ 4) (h0 : 0 ≤ v) (hv : v < bx_K n) (h : ∀ i, 0 ≤ i → i < 2 * n → prt n v i = f i) : nu_o f (2 * n) 9 0 0 (2 * n - 1) = v := by
  rw [← nu_oc (N := 2 * n) h (fun i k0 k1 => by have := pr_fi h1 h4 h0 hv i k0 k1; omega) 9 0 0 (2 * n - 1) (by omega)]
  exact nu_b h1 h4 h0 hv

theorem qe_X5_plain {m s : Nat} {F : aq_F} {c : aq_C} {y : Nat} (hC : mo_C m F y) (hI : mo_I y c) {n l : Int} : am_E ac_X5_plain (0, [vR y, vI n, vI l], [], aq_h m s F c) (aq_Z m s F (fun a => y ≤ a ∧ a < y + 24) c (fun r d => r = some (vI (pl_a n l)) ∧ mo_I y d)) := by
  obtain ⟨⟨hm, hFo, hG5, hG6, hG7, hG8, hG9, hG10, hG11, hG12, hG13, hG14, hG15, hG16, hG17, hG18, hG19, hG20, hG21, hG22, hG23⟩, ⟨tbl, hT1, hTt⟩, ⟨tA, tB, tD, hL1, hL2, hL3, hLt⟩⟩ := hC
  refine am_E.go (t2 := (1, [vR y, vI n, vI l], [vI n], aq_h m s F c)) rfl rfl ?_
  refine am_E.call rfl rfl rfl (Nat.le_of_ble_eq_true rfl) (qm_isWide) ?_
  rintro r5 h5 ⟨rfl, v_1, rfl, hv_1⟩
  show am_E _ (4, [vR y, vI n, vI l], [vI v_1], aq_h m s F c) _
  refine ae_if0 rfl (fun (q_2 : v_1 = 0) => ?_) (fun (q_2 : v_1 ≠ 0) => ?_)
  · refine am_E.go (t2 := (20, [vR y, vI n, vI l], [vI (-1)], aq_h m s F c)) rfl rfl ?_
    refine am_E.go (t2 := (29, [vR y, vI n, vI l], [vI (-1)], aq_h m s F c)) rfl rfl ?_
    refine am_E.ret rfl rfl ?_
    exact ⟨_, rfl, (aq_sm0 (c := c) (S := fun a => y ≤ a ∧ a < y + 24)), by rw [pl_a, if_neg (by omega)], hI⟩
  · refine am_E.go (t2 := (8, [vR y, vI n, vI l], [vI l], aq_h m s F c)) rfl rfl ?_
    refine ae_if0 rfl (fun (q_3 : l = 0) => ?_) (fun (q_3 : l ≠ 0) => ?_)
    · refine am_E.go (t2 := (24, [vR y, vI n, vI l], [vR y], aq_h m s F c)) rfl rfl ?_
      refine am_E.go (t2 := (25, [vR y, vI n, vI l], [vI n, vR y], aq_h m s F c)) rfl rfl ?_
      refine am_E.go (t2 := (26, [vR y, vI n, vI l], [vI l, vI n, vR y], aq_h m s F c)) rfl rfl ?_
      refine aq_callv (y := 3) (as2 := [vI n, vI l]) (rest := []) rfl rfl (by decide) (Nat.le_of_ble_eq_true rfl) rfl rfl (Nat.le_of_ble_eq_true rfl) (by omega) hFo rfl (Nat.le_of_ble_eq_true rfl) (qm_plainBox (S := fun a => a = y + 12) ⟨hm, hFo, hG5, hG6, hG7, hG8, hG9, hG10, hG11, hG12, hG13, hG14, hG15, hG16, hG17, hG18, hG19, hG20, hG21, hG22, hG23⟩ rfl ⟨hT1, hTt⟩ (by omega) (by omega) (by omega)) ?_
      rintro r5 h5 ⟨c_b, rfl, s_b, v_b, rfl, hv1_b, hv2_b, hv3_b⟩
      show am_E _ (29, [vR y, vI n, vI l], [vI v_b], aq_h m s F c_b) _
      refine am_E.ret rfl rfl ?_
      refine ⟨_, rfl, (aq_smt (aq_sm0 (c := c) (S := fun a => y ≤ a ∧ a < y + 24)) (aq_smi s_b (fun a h => by omega))), ?_, mo_Is hI s_b (mo_ks mo_k0 s_b (by omega)) (by omega) (by omega) (by omega) (by omega) (by omega)⟩
      rw [pl_a, if_pos (by omega), nu_v (by omega) (by omega) hv1_b hv2_b (fun i k0 k1 => by rw [hv3_b i k0 k1]; exact pl_e (by omega) (by omega) (by omega) k0 k1)]
    · refine am_E.go (t2 := (12, [vR y, vI n, vI l], [vI n], aq_h m s F c)) rfl rfl ?_
      refine am_E.go (t2 := (13, [vR y, vI n, vI l], [vI l, vI n], aq_h m s F c)) rfl rfl ?_
      refine am_E.call rfl rfl rfl (Nat.le_of_ble_eq_true rfl) (qm_isLetter (by omega) (by omega)) ?_
      rintro r5 h5 ⟨rfl, v_4, rfl, hv_4⟩
      show am_E _ (16, [vR y, vI n, vI l], [vI v_4], aq_h m s F c) _
      refine ae_if0 rfl (fun (q_5 : v_4 ≠ 0) => ?_) (fun (q_5 : v_4 = 0) => ?_)
      · refine am_E.go (t2 := (24, [vR y, vI n, vI l], [vR y], aq_h m s F c)) rfl rfl ?_
        refine am_E.go (t2 := (25, [vR y, vI n, vI l], [vI n, vR y], aq_h m s F c)) rfl rfl ?_
        refine am_E.go (t2 := (26, [vR y, vI n, vI l], [vI l, vI n, vR y], aq_h m s F c)) rfl rfl ?_
        refine aq_callv (y := 3) (as2 := [vI n, vI l]) (rest := []) rfl rfl (by decide) (Nat.le_of_ble_eq_true rfl) rfl rfl (Nat.le_of_ble_eq_true rfl) (by omega) hFo rfl (Nat.le_of_ble_eq_true rfl) (qm_plainBox (S := fun a => a = y + 12) ⟨hm, hFo, hG5, hG6, hG7, hG8, hG9, hG10, hG11, hG12, hG13, hG14, hG15, hG16, hG17, hG18, hG19, hG20, hG21, hG22, hG23⟩ rfl ⟨hT1, hTt⟩ (by omega) (by omega) (by omega)) ?_
        rintro r5 h5 ⟨c_b, rfl, s_b, v_b, rfl, hv1_b, hv2_b, hv3_b⟩
        show am_E _ (29, [vR y, vI n, vI l], [vI v_b], aq_h m s F c_b) _
        refine am_E.ret rfl rfl ?_
        refine ⟨_, rfl, (aq_smt (aq_sm0 (c := c) (S := fun a => y ≤ a ∧ a < y + 24)) (aq_smi s_b (fun a h => by omega))), ?_, mo_Is hI s_b (mo_ks mo_k0 s_b (by omega)) (by omega) (by omega) (by omega) (by omega) (by omega)⟩
        rw [pl_a, if_pos (by omega), nu_v (by omega) (by omega) hv1_b hv2_b (fun i k0 k1 => by rw [hv3_b i k0 k1]; exact pl_e (by omega) (by omega) (by omega) k0 k1)]
      · refine am_E.go (t2 := (20, [vR y, vI n, vI l], [vI (-1)], aq_h m s F c)) rfl rfl ?_
        refine am_E.go (t2 := (29, [vR y, vI n, vI l], [vI (-1)], aq_h m s F c)) rfl rfl ?_
        refine am_E.ret rfl rfl ?_
        exact ⟨_, rfl, (aq_sm0 (c := c) (S := fun a => y ≤ a ∧ a < y + 24)), by rw [pl_a, if_neg (by omega)], hI⟩
