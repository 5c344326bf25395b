/-! The class: answers of partner and plain. Printed by wip/p20/sx/gEX.py. -/

/-- partner's answer -/
def pt_a (n b p : Int) : Int := if (1 ≤ n ∧ n ≤ 4 ∧ 0 ≤ b ∧ b < bx_K n) ∧ 0 ≤ p ∧ p < 2 * n then prt n b p else -1
/-- plain's answer -/
def pl_a (n l : Int) : Int := if (1 ≤ n ∧ n ≤ 4) ∧ (l = 0 ∨ ((1 ≤ l ∧ l < n) ∨ (11 ≤ l ∧ l < 10 + n))) then nu_o (bx_ol n.toNat l) (2 * n) 9 0 0 (2 * n - 1) else -1

theorem qe_X4_partner {m s : Nat} {F : aq_F} {c : aq_C} (hC : sb_C m F) (hI : cl_I c) {nn b p : Int} : am_E ac_X4_partner (0, [vR 0, vI nn, vI b, vI p], [], aq_h m s F c) (aq_Z m s F (fun a => a < 527) c (fun r d => r = some (vI (pt_a nn b p)) ∧ cl_I d)) := by
  obtain ⟨hCm, hC0, hC1, hC2, hC3, ⟨hma4, hFa4, hFn4, hFp4, hFf4⟩, ⟨hmx, hFx, hFl, hFw⟩, hCs, hCb, hCh⟩ := id hC
  refine am_E.go (t2 := (1, [vR 0, vI nn, vI b, vI p], [vR 0], aq_h m s F c)) rfl rfl ?_
  refine am_E.go (t2 := (2, [vR 0, vI nn, vI b, vI p], [vI nn, vR 0], aq_h m s F c)) rfl rfl ?_
  refine am_E.go (t2 := (3, [vR 0, vI nn, vI b, vI p], [vI b, vI nn, vR 0], aq_h m s F c)) rfl rfl ?_
  refine aq_callv (y := 3) (as2 := [vI nn, vI b]) (rest := []) rfl rfl (by decide) (Nat.le_of_ble_eq_true rfl) rfl rfl (Nat.le_of_ble_eq_true rfl) (by omega) hC0 rfl (Nat.le_of_ble_eq_true rfl) (qn_X4_isBox hC) ?_
  rintro r5 h5 ⟨rfl, v_1, rfl, hv_1⟩
  show am_E _ (6, [vR 0, vI nn, vI b, vI p], [vI v_1], aq_h m s F c) _
  refine ae_if0 rfl (fun (q_2 : v_1 = 0) => ?_) (fun (q_2 : v_1 ≠ 0) => ?_)
  · refine am_E.go (t2 := (21, [vR 0, vI nn, vI b, vI p], [vI (-1)], aq_h m s F c)) rfl rfl ?_
    refine am_E.ret rfl rfl ?_
    exact ⟨_, rfl, (aq_sm0 (S := fun a => a < 527)), by rw [pt_a, if_neg (by omega)], hI⟩
  · refine am_E.go (t2 := (10, [vR 0, vI nn, vI b, vI p], [vI p], aq_h m s F c)) rfl rfl ?_
    refine ae_if0 rfl (fun (q_3 : p < 0) => ?_) (fun (q_3 : 0 ≤ p) => ?_)
    · refine am_E.go (t2 := (21, [vR 0, vI nn, vI b, vI p], [vI (-1)], aq_h m s F c)) rfl rfl ?_
      refine am_E.ret rfl rfl ?_
      exact ⟨_, rfl, (aq_sm0 (S := fun a => a < 527)), by rw [pt_a, if_neg (by omega)], hI⟩
    · refine am_E.go (t2 := (14, [vR 0, vI nn, vI b, vI p], [vI p], aq_h m s F c)) rfl rfl ?_
      refine am_E.go (t2 := (15, [vR 0, vI nn, vI b, vI p], [vI 2, vI p], aq_h m s F c)) rfl rfl ?_
      refine am_E.go (t2 := (16, [vR 0, vI nn, vI b, vI p], [vI nn, vI 2, vI p], aq_h m s F c)) rfl rfl ?_
      refine ae_mul rfl (am_ri (by omega) (by omega)) ?_
      show am_E _ (17, [vR 0, vI nn, vI b, vI p], [vI (2 * nn), vI p], aq_h m s F c) _
      refine ae_icmp rfl (fun (q_4 : p < (2 * nn)) => ?_) (fun (q_4 : (2 * nn) ≤ p) => ?_)
      · refine am_E.go (t2 := (23, [vR 0, vI nn, vI b, vI p], [vR 0], aq_h m s F c)) rfl rfl ?_
        refine aq_gf (v := vR 1) rfl (by omega) hC0 (by decide) rfl ?_
        show am_E _ (26, [vR 0, vI nn, vI b, vI p], [vR 1], aq_h m s F c) _
        refine am_E.go (t2 := (27, [vR 0, vI nn, vI b, vI p], [vI nn, vR 1], aq_h m s F c)) rfl rfl ?_
        refine am_E.go (t2 := (28, [vR 0, vI nn, vI b, vI p], [vI 1, vI nn, vR 1], aq_h m s F c)) rfl rfl ?_
        refine ae_sub rfl (am_ri (by omega) (by omega)) ?_
        show am_E _ (29, [vR 0, vI nn, vI b, vI p], [vI (nn - 1), vR 1], aq_h m s F c) _
        obtain ⟨o, n, K, e_o, e_n, e_K, e_j, e_k, tP, tG, tN, tR, tL, ⟨hm, hn1, hn4, hK, hFo, hFd, hFs⟩, ⟨hPg, hPr, hPt⟩, ⟨hL, hGg, hGr, hNg, hNr, hLt, hGt, hNt⟩, ⟨hR, hRt⟩, hst⟩ := sb_box hC (i := (nn - 1)) (by omega) (by omega)
        have hb := sb_bnd ((nn - 1)).toNat (by omega)
        rw [e_o, e_k] at hb
        have hbK : (K : Int) = bx_K nn := by rw [e_K]; congr 1; omega
        refine aq_al (ok := fun k => decide (3 ≤ k) && decide (k < 7)) (v := vR o) rfl rfl (by omega) hC1 rfl (by omega) (by omega) (aq_gi2 (by omega) e_o) ?_
        show am_E _ (30, [vR 0, vI nn, vI b, vI p], [vR o], aq_h m s F c) _
        refine aq_gf (v := vR (o + 1)) rfl (by omega) hFo (by decide) rfl ?_
        show am_E _ (33, [vR 0, vI nn, vI b, vI p], [vR (o + 1)], aq_h m s F c) _
        refine am_E.go (t2 := (34, [vR 0, vI nn, vI b, vI p], [vI b, vR (o + 1)], aq_h m s F c)) rfl rfl ?_
        refine aq_al (ok := fun k => decide (3 ≤ k) && decide (k < 7)) (v := vR (o + 2 + b.toNat)) rfl rfl (by omega) hPg rfl (by omega) (by omega) (aq_gi (by omega)) ?_
        show am_E _ (35, [vR 0, vI nn, vI b, vI p], [vR (o + 2 + b.toNat)], aq_h m s F c) _
        refine am_E.go (t2 := (36, [vR 0, vI nn, vI b, vI p], [vI p, vR (o + 2 + b.toNat)], aq_h m s F c)) rfl rfl ?_
        refine aq_alt (ok := fun k => k == 0) rfl rfl (by omega) (hPr _ (by omega)) rfl (by omega) (by omega) ?_
        show am_E _ (37, [vR 0, vI nn, vI b, vI p], [vI (tP ((b.toNat : Nat) : Int) p)], aq_h m s F c) _
        have f_5 := hPt ((b.toNat : Nat) : Int) p (by omega) (by omega) (by omega) (by omega)
        refine am_E.ret rfl rfl ?_
        refine ⟨_, rfl, (aq_sm0 (S := fun a => a < 527)), ?_, hI⟩
        rw [pt_a, if_pos (by omega), (hPt ((b.toNat : Nat) : Int) p (by omega) (by omega) (by omega) (by omega)).2.2, Int.toNat_of_nonneg (by omega), show (n : Int) = nn by omega]
      · refine am_E.go (t2 := (21, [vR 0, vI nn, vI b, vI p], [vI (-1)], aq_h m s F c)) rfl rfl ?_
        refine am_E.ret rfl rfl ?_
        exact ⟨_, rfl, (aq_sm0 (S := fun a => a < 527)), by rw [pt_a, if_neg (by omega)], hI⟩

theorem qe_X4_plain {m s : Nat} {F : aq_F} {c : aq_C} (hC : sb_C m F) (hI : cl_I c) {nn l : Int} : am_E ac_X4_plain (0, [vR 0, vI nn, vI l], [], aq_h m s F c) (aq_Z m s F (fun a => a < 527) c (fun r d => r = some (vI (pl_a nn l)) ∧ cl_I d)) := by
  obtain ⟨hCm, hC0, hC1, hC2, hC3, ⟨hma4, hFa4, hFn4, hFp4, hFf4⟩, ⟨hmx, hFx, hFl, hFw⟩, hCs, hCb, hCh⟩ := id hC
  refine am_E.go (t2 := (1, [vR 0, vI nn, vI l], [vI nn], aq_h m s F c)) rfl rfl ?_
  refine am_E.call rfl rfl rfl (Nat.le_of_ble_eq_true rfl) (qn_X4_isStrands) ?_
  rintro r5 h5 ⟨rfl, v_1, rfl, hv_1⟩
  show am_E _ (4, [vR 0, vI nn, vI l], [vI v_1], aq_h m s F c) _
  refine ae_if0 rfl (fun (q_2 : v_1 ≠ 0) => ?_) (fun (q_2 : v_1 = 0) => ?_)
  · refine am_E.go (t2 := (10, [vR 0, vI nn, vI l], [vR 0], aq_h m s F c)) rfl rfl ?_
    refine aq_gf (v := vR 1) rfl (by omega) hC0 (by decide) rfl ?_
    show am_E _ (13, [vR 0, vI nn, vI l], [vR 1], aq_h m s F c) _
    refine am_E.go (t2 := (14, [vR 0, vI nn, vI l], [vI nn, vR 1], aq_h m s F c)) rfl rfl ?_
    refine am_E.go (t2 := (15, [vR 0, vI nn, vI l], [vI 1, vI nn, vR 1], aq_h m s F c)) rfl rfl ?_
    refine ae_sub rfl (am_ri (by omega) (by omega)) ?_
    show am_E _ (16, [vR 0, vI nn, vI l], [vI (nn - 1), vR 1], aq_h m s F c) _
    obtain ⟨o, n, K, e_o, e_n, e_K, e_j, e_k, tP, tG, tN, tR, tL, ⟨hm, hn1, hn4, hK, hFo, hFd, hFs⟩, ⟨hPg, hPr, hPt⟩, ⟨hL, hGg, hGr, hNg, hNr, hLt, hGt, hNt⟩, ⟨hR, hRt⟩, hst⟩ := sb_box hC (i := (nn - 1)) (by omega) (by omega)
    have hb := sb_bnd ((nn - 1)).toNat (by omega)
    rw [e_o, e_k] at hb
    have hbK : (K : Int) = bx_K nn := by rw [e_K]; congr 1; omega
    refine aq_al (ok := fun k => decide (3 ≤ k) && decide (k < 7)) (v := vR o) rfl rfl (by omega) hC1 rfl (by omega) (by omega) (aq_gi2 (by omega) e_o) ?_
    show am_E _ (17, [vR 0, vI nn, vI l], [vR o], aq_h m s F c) _
    refine am_E.go (t2 := (18, [vR 0, vI nn, vI l], [vI l, vR o], aq_h m s F c)) rfl rfl ?_
    refine aq_callv (y := 2) (as2 := [vI l]) (rest := []) rfl rfl (by decide) (Nat.le_of_ble_eq_true rfl) rfl rfl (Nat.le_of_ble_eq_true rfl) (by omega) hFo rfl (Nat.le_of_ble_eq_true rfl) (qn_X0_ofLetter (S := fun a => a = o + 6 + 3 * K ∨ a = o + 7 + 3 * K) ⟨hm, hn1, hn4, hK, hFo, hFd, hFs⟩ (Or.inl rfl) (Or.inr rfl) (by have h9 := hI.1 ((nn - 1)).toNat (by omega); rw [e_o, e_k, ← e_j] at h9; exact h9)) ?_
    rintro r5 h5 ⟨c_b, rfl, s_b, hr_b, hq_b⟩
    have hcl := cl_b hI (j := ((nn - 1)).toNat) (by omega) (by rw [e_o, e_k]; exact s_b) (by rw [e_o, e_k, ← e_j]; exact hr_b)
    have en : n = nn.toNat := by omega
    have e2 : (n : Int) = nn := by omega
    obtain rfl : r5 = some (vI (pl_a nn l)) := by
      rcases hq_b with ⟨q1, q2⟩ | ⟨q1, q2, q3⟩
      · rw [q2, pl_a, if_neg (fun q => q1 (by rw [e2]; exact q.2))]
      · have en2 := nu_oc (N := 2 * (n : Int)) q2 (fun i k0 k1 => by have := hr_b i k0 k1; omega) 9 0 0 (2 * (n : Int) - 1) (by omega)
        rw [q3, en2, pl_a, if_pos ⟨⟨by omega, by omega⟩, by rw [← e2]; exact q1⟩, e2, en]
    show am_E _ (21, [vR 0, vI nn, vI l], [vI (pl_a nn l)], aq_h m s F c_b) _
    exact am_E.ret rfl rfl ⟨_, rfl, aq_smi s_b (fun a h => by omega), rfl, hcl⟩
  · refine am_E.go (t2 := (8, [vR 0, vI nn, vI l], [vI (-1)], aq_h m s F c)) rfl rfl ?_
    refine am_E.ret rfl rfl ?_
    exact ⟨_, rfl, (aq_sm0 (S := fun a => a < 527)), by rw [pl_a, if_neg (by omega)], hI⟩
