
theorem qn_X4_isStrands {m s : Nat} {F : aq_F} {c : aq_C} {n : Int} : am_E ac_X4_isStrands (0, [vI n], [], aq_h m s F c) (aq_P m s F c (fun r => ∃ v, r = some (vI v) ∧ ((v = 1 ∧ 1 ≤ n ∧ n ≤ 4) ∨ (v = 0 ∧ ¬ (1 ≤ n ∧ n ≤ 4))))) := by
  refine am_E.go (t2 := (1, [vI n], [vI n], aq_h m s F c)) rfl rfl ?_
  refine am_E.go (t2 := (2, [vI n], [vI 1, vI n], aq_h m s F c)) rfl rfl ?_
  refine ae_icmp rfl (fun (q_1 : n < 1) => ?_) (fun (q_1 : 1 ≤ n) => ?_)
  · refine am_E.go (t2 := (15, [vI n], [vI 0], aq_h m s F c)) rfl rfl ?_
    refine am_E.ret rfl rfl ?_
    exact ⟨rfl, _, rfl, by omega⟩
  · refine am_E.go (t2 := (6, [vI n], [vI n], aq_h m s F c)) rfl rfl ?_
    refine am_E.go (t2 := (7, [vI n], [vI 4, vI n], aq_h m s F c)) rfl rfl ?_
    refine ae_icmp rfl (fun (q_2 : 4 < n) => ?_) (fun (q_2 : n ≤ 4) => ?_)
    · refine am_E.go (t2 := (15, [vI n], [vI 0], aq_h m s F c)) rfl rfl ?_
      refine am_E.ret rfl rfl ?_
      exact ⟨rfl, _, rfl, by omega⟩
    · refine am_E.go (t2 := (11, [vI n], [vI 1], aq_h m s F c)) rfl rfl ?_
      refine am_E.go (t2 := (15, [vI n], [vI 1], aq_h m s F c)) rfl rfl ?_
      refine am_E.ret rfl rfl ?_
      exact ⟨rfl, _, rfl, by omega⟩

theorem qn_X4_isSum {m s : Nat} {F : aq_F} {c : aq_C} {n : Int} : am_E ac_X4_isSum (0, [vI n], [], aq_h m s F c) (aq_P m s F c (fun r => ∃ v, r = some (vI v) ∧ ((v = 1 ∧ 0 ≤ n ∧ n < 8) ∨ (v = 0 ∧ ¬ (0 ≤ n ∧ n < 8))))) := by
  refine am_E.go (t2 := (1, [vI n], [vI n], aq_h m s F c)) rfl rfl ?_
  refine ae_if0 rfl (fun (q_1 : n < 0) => ?_) (fun (q_1 : 0 ≤ n) => ?_)
  · refine am_E.go (t2 := (15, [vI n], [vI 0], aq_h m s F c)) rfl rfl ?_
    refine am_E.ret rfl rfl ?_
    exact ⟨rfl, _, rfl, by omega⟩
  · refine am_E.go (t2 := (5, [vI n], [vI n], aq_h m s F c)) rfl rfl ?_
    refine am_E.go (t2 := (7, [vI n], [vI 8, vI n], aq_h m s F c)) rfl rfl ?_
    refine ae_icmp rfl (fun (q_2 : 8 ≤ n) => ?_) (fun (q_2 : n < 8) => ?_)
    · refine am_E.go (t2 := (15, [vI n], [vI 0], aq_h m s F c)) rfl rfl ?_
      refine am_E.ret rfl rfl ?_
      exact ⟨rfl, _, rfl, by omega⟩
    · refine am_E.go (t2 := (11, [vI n], [vI 1], aq_h m s F c)) rfl rfl ?_
      refine am_E.go (t2 := (15, [vI n], [vI 1], aq_h m s F c)) rfl rfl ?_
      refine am_E.ret rfl rfl ?_
      exact ⟨rfl, _, rfl, by omega⟩

theorem qn_X4_isThrough {m s : Nat} {F : aq_F} {c : aq_C} {n t : Int} : am_E ac_X4_isThrough (0, [vI n, vI t], [], aq_h m s F c) (aq_P m s F c (fun r => ∃ v, r = some (vI v) ∧ ((v = 1 ∧ 1 ≤ n ∧ n ≤ 4 ∧ 0 ≤ t ∧ t ≤ n) ∨ (v = 0 ∧ ¬ (1 ≤ n ∧ n ≤ 4 ∧ 0 ≤ t ∧ t ≤ n))))) := by
  refine am_E.go (t2 := (1, [vI n, vI t], [vI n], aq_h m s F c)) rfl rfl ?_
  refine am_E.call rfl rfl rfl (Nat.le_of_ble_eq_true rfl) (qn_X4_isStrands) ?_
  rintro r5 h5 ⟨rfl, v_1, rfl, hv_1⟩
  show am_E _ (4, [vI n, vI t], [vI v_1], aq_h m s F c) _
  refine ae_if0 rfl (fun (q_2 : v_1 = 0) => ?_) (fun (q_2 : v_1 ≠ 0) => ?_)
  · refine am_E.go (t2 := (21, [vI n, vI t], [vI 0], aq_h m s F c)) rfl rfl ?_
    refine am_E.ret rfl rfl ?_
    exact ⟨rfl, _, rfl, by omega⟩
  · refine am_E.go (t2 := (8, [vI n, vI t], [vI t], aq_h m s F c)) rfl rfl ?_
    refine ae_if0 rfl (fun (q_3 : t < 0) => ?_) (fun (q_3 : 0 ≤ t) => ?_)
    · refine am_E.go (t2 := (21, [vI n, vI t], [vI 0], aq_h m s F c)) rfl rfl ?_
      refine am_E.ret rfl rfl ?_
      exact ⟨rfl, _, rfl, by omega⟩
    · refine am_E.go (t2 := (12, [vI n, vI t], [vI t], aq_h m s F c)) rfl rfl ?_
      refine am_E.go (t2 := (13, [vI n, vI t], [vI n, vI t], aq_h m s F c)) rfl rfl ?_
      refine ae_icmp rfl (fun (q_4 : n < t) => ?_) (fun (q_4 : t ≤ n) => ?_)
      · refine am_E.go (t2 := (21, [vI n, vI t], [vI 0], aq_h m s F c)) rfl rfl ?_
        refine am_E.ret rfl rfl ?_
        exact ⟨rfl, _, rfl, by omega⟩
      · refine am_E.go (t2 := (17, [vI n, vI t], [vI 1], aq_h m s F c)) rfl rfl ?_
        refine am_E.go (t2 := (21, [vI n, vI t], [vI 1], aq_h m s F c)) rfl rfl ?_
        refine am_E.ret rfl rfl ?_
        exact ⟨rfl, _, rfl, by omega⟩

theorem qn_isPrime_l {m s : Nat} {F : aq_F} {c : aq_C} {p : Int} (hp0 : 2 ≤ p) (hp1 : p ≤ 997) : ∀ (d : Nat) (d5 : Int) (h0 : 2 ≤ d5) (h1 : d5 ≤ 32) (hd : 32 - d5 < (d : Int)), am_E ac_X4_isPrime (16, [vI p, vI d5], [], aq_h m s F c) (aq_P m s F c (fun r => ∃ v, r = some (vI v) ∧ ((v = 1 ∧ 2 ≤ p ∧ p ≤ 997) ∨ v = 0)))
  | 0, d5, h0, h1, hd => by exfalso; omega
  | d + 1, d5, h0, h1, hd => by
    have e1 : d5 = 32 → d5 * d5 = 1024 := by intro h; rw [h]; rfl
    have e2 := am_sq h0 h1
    refine am_E.go (t2 := (17, [vI p, vI d5], [vI d5], aq_h m s F c)) rfl rfl ?_
    refine am_E.go (t2 := (18, [vI p, vI d5], [vI d5, vI d5], aq_h m s F c)) rfl rfl ?_
    refine ae_mul rfl (am_ri (by omega) (by omega)) ?_
    show am_E _ (19, [vI p, vI d5], [vI (d5 * d5)], aq_h m s F c) _
    refine am_E.go (t2 := (20, [vI p, vI d5], [vI p, vI (d5 * d5)], aq_h m s F c)) rfl rfl ?_
    refine ae_icmp rfl (fun (q_1 : p < (d5 * d5)) => ?_) (fun (q_1 : (d5 * d5) ≤ p) => ?_)
    · refine am_E.go (t2 := (38, [vI p, vI d5], [vI 1], aq_h m s F c)) rfl rfl ?_
      refine am_E.ret rfl rfl ?_
      exact ⟨rfl, _, rfl, by omega⟩
    · refine am_E.go (t2 := (24, [vI p, vI d5], [vI p], aq_h m s F c)) rfl rfl ?_
      refine am_E.go (t2 := (25, [vI p, vI d5], [vI d5, vI p], aq_h m s F c)) rfl rfl ?_
      refine ae_bin (z := p.tmod d5) rfl rfl (am_rem_s (by omega)) ?_
      show am_E _ (26, [vI p, vI d5], [vI (p.tmod d5)], aq_h m s F c) _
      refine ae_if0 rfl (fun (q_2 : (p.tmod d5) ≠ 0) => ?_) (fun (q_2 : (p.tmod d5) = 0) => ?_)
      · refine ae_iinc rfl rfl (am_ri (by omega) (by omega)) ?_
        show am_E _ (34, [vI p, vI (d5 + 1)], [], aq_h m s F c) _
        refine am_E.go (t2 := (16, [vI p, vI (d5 + 1)], [], aq_h m s F c)) rfl rfl ?_
        exact qn_isPrime_l hp0 hp1 d (d5 + 1) (by omega) (by omega) (by omega)
      · refine am_E.go (t2 := (30, [vI p, vI d5], [vI 0], aq_h m s F c)) rfl rfl ?_
        refine am_E.ret rfl rfl ?_
        exact ⟨rfl, _, rfl, by omega⟩

theorem qn_X4_isPrime {m s : Nat} {F : aq_F} {c : aq_C} {p : Int} : am_E ac_X4_isPrime (0, [vI p, vU], [], aq_h m s F c) (aq_P m s F c (fun r => ∃ v, r = some (vI v) ∧ ((v = 1 ∧ 2 ≤ p ∧ p ≤ 997) ∨ v = 0))) := by
  refine am_E.go (t2 := (1, [vI p, vU], [vI p], aq_h m s F c)) rfl rfl ?_
  refine am_E.go (t2 := (2, [vI p, vU], [vI 2, vI p], aq_h m s F c)) rfl rfl ?_
  refine ae_icmp rfl (fun (q_1 : p < 2) => ?_) (fun (q_1 : 2 ≤ p) => ?_)
  · refine am_E.go (t2 := (13, [vI p, vU], [vI 0], aq_h m s F c)) rfl rfl ?_
    refine am_E.ret rfl rfl ?_
    exact ⟨rfl, _, rfl, by omega⟩
  · refine am_E.go (t2 := (6, [vI p, vU], [vI p], aq_h m s F c)) rfl rfl ?_
    refine am_E.go (t2 := (9, [vI p, vU], [vI 997, vI p], aq_h m s F c)) rfl rfl ?_
    refine ae_icmp rfl (fun (q_2 : p ≤ 997) => ?_) (fun (q_2 : 997 < p) => ?_)
    · refine am_E.go (t2 := (15, [vI p, vU], [vI 2], aq_h m s F c)) rfl rfl ?_
      refine am_E.go (t2 := (16, [vI p, vI 2], [], aq_h m s F c)) rfl rfl ?_
      exact qn_isPrime_l (by omega) (by omega) 32 2 (by omega) (by omega) (by omega)
    · refine am_E.go (t2 := (13, [vI p, vU], [vI 0], aq_h m s F c)) rfl rfl ?_
      refine am_E.ret rfl rfl ?_
      exact ⟨rfl, _, rfl, by omega⟩

theorem qn_X4_isBox {m s : Nat} {F : aq_F} {c : aq_C} (hC : sb_C m F) {nn b : Int} : am_E ac_X4_isBox (0, [vR 0, vI nn, vI b], [], aq_h m s F c) (aq_P m s F c (fun r => ∃ v, r = some (vI v) ∧ ((v = 1 ∧ 1 ≤ nn ∧ nn ≤ 4 ∧ 0 ≤ b ∧ b < bx_K nn) ∨ (v = 0 ∧ ¬ (1 ≤ nn ∧ nn ≤ 4 ∧ 0 ≤ b ∧ b < bx_K nn))))) := by
  obtain ⟨hCm, hC0, hC1, hC2, hC3, ⟨hma4, hFa4, hFn4, hFp4, hFf4⟩, ⟨hmx, hFx, hFl, hFw⟩, hCs, hCb, hCh⟩ := id hC
  refine am_E.go (t2 := (1, [vR 0, vI nn, vI b], [vI nn], aq_h m s F c)) rfl rfl ?_
  refine am_E.call rfl rfl rfl (Nat.le_of_ble_eq_true rfl) (qn_X4_isStrands) ?_
  rintro r5 h5 ⟨rfl, v_1, rfl, hv_1⟩
  show am_E _ (4, [vR 0, vI nn, vI b], [vI v_1], aq_h m s F c) _
  refine ae_if0 rfl (fun (q_2 : v_1 = 0) => ?_) (fun (q_2 : v_1 ≠ 0) => ?_)
  · refine am_E.go (t2 := (31, [vR 0, vI nn, vI b], [vI 0], aq_h m s F c)) rfl rfl ?_
    refine am_E.ret rfl rfl ?_
    exact ⟨rfl, _, rfl, by omega⟩
  · have e8 : nn - 1 + 1 = nn := by omega
    refine am_E.go (t2 := (8, [vR 0, vI nn, vI b], [vI b], aq_h m s F c)) rfl rfl ?_
    refine ae_if0 rfl (fun (q_3 : b < 0) => ?_) (fun (q_3 : 0 ≤ b) => ?_)
    · refine am_E.go (t2 := (31, [vR 0, vI nn, vI b], [vI 0], aq_h m s F c)) rfl rfl ?_
      refine am_E.ret rfl rfl ?_
      exact ⟨rfl, _, rfl, by omega⟩
    · refine am_E.go (t2 := (12, [vR 0, vI nn, vI b], [vI b], aq_h m s F c)) rfl rfl ?_
      refine am_E.go (t2 := (13, [vR 0, vI nn, vI b], [vR 0, vI b], aq_h m s F c)) rfl rfl ?_
      refine aq_gf (v := vR 1) rfl (by omega) hC0 (by decide) rfl ?_
      show am_E _ (16, [vR 0, vI nn, vI b], [vR 1, vI b], aq_h m s F c) _
      refine am_E.go (t2 := (17, [vR 0, vI nn, vI b], [vI nn, vR 1, vI b], aq_h m s F c)) rfl rfl ?_
      refine am_E.go (t2 := (18, [vR 0, vI nn, vI b], [vI 1, vI nn, vR 1, vI b], aq_h m s F c)) rfl rfl ?_
      refine ae_sub rfl (am_ri (by omega) (by omega)) ?_
      show am_E _ (19, [vR 0, vI nn, vI b], [vI (nn - 1), vR 1, vI b], aq_h m s F c) _
      obtain ⟨o, n, K, e_o, e_n, e_K, e_j, e_k, tP, tG, tN, tR, tL, ⟨hm, hn1, hn4, hK, hFo, hFd, hFs⟩, ⟨hPg, hPr, hPt⟩, ⟨hL, hGg, hGr, hNg, hNr, hLt, hGt, hNt⟩, ⟨hR, hRt⟩, hst, hex⟩ := sb_box hC (i := (nn - 1)) (by omega) (by omega)
      have hb := sb_bnd ((nn - 1)).toNat (by omega)
      rw [e_o, e_k] at hb
      refine aq_al (ok := fun k => decide (3 ≤ k) && decide (k < 7)) (v := vR o) rfl rfl (by omega) hC1 rfl (by omega) (by omega) (aq_gi2 (by omega) e_o) ?_
      show am_E _ (20, [vR 0, vI nn, vI b], [vR o, vI b], aq_h m s F c) _
      refine aq_gf (v := vI (K : Int)) rfl (by omega) hFo (by decide) rfl ?_
      show am_E _ (23, [vR 0, vI nn, vI b], [vI (K : Int), vI b], aq_h m s F c) _
      refine ae_icmp rfl (fun (q_4 : (K : Int) ≤ b) => ?_) (fun (q_4 : b < (K : Int)) => ?_)
      · rw [e8] at e_K
        refine am_E.go (t2 := (31, [vR 0, vI nn, vI b], [vI 0], aq_h m s F c)) rfl rfl ?_
        refine am_E.ret rfl rfl ?_
        exact ⟨rfl, _, rfl, by omega⟩
      · rw [e8] at e_K
        refine am_E.go (t2 := (27, [vR 0, vI nn, vI b], [vI 1], aq_h m s F c)) rfl rfl ?_
        refine am_E.go (t2 := (31, [vR 0, vI nn, vI b], [vI 1], aq_h m s F c)) rfl rfl ?_
        refine am_E.ret rfl rfl ?_
        exact ⟨rfl, _, rfl, by omega⟩

theorem qn_X4_many {m s : Nat} {F : aq_F} {c : aq_C} (hC : sb_C m F) (hI : cl_I c) {nn p : Int} : am_E ac_X4_many (0, [vR 0, vI nn, vI p], [], aq_h m s F c) (aq_Z m s F (fun a => a < 527) c (fun r d => aq_vi r ∧ cl_I d)) := by
  obtain ⟨hCm, hC0, hC1, hC2, hC3, ⟨hma4, hFa4, hFn4, hFp4, hFf4⟩, ⟨hmx, hFx, hFl, hFw⟩, hCs, hCb, hCh⟩ := id hC
  refine am_E.go (t2 := (1, [vR 0, vI nn, vI p], [vI nn], aq_h m s F c)) rfl rfl ?_
  refine am_E.call rfl rfl rfl (Nat.le_of_ble_eq_true rfl) (qn_X4_isStrands) ?_
  rintro r5 h5 ⟨rfl, v_1, rfl, hv_1⟩
  show am_E _ (4, [vR 0, vI nn, vI p], [vI v_1], aq_h m s F c) _
  refine ae_if0 rfl (fun (q_2 : v_1 = 0) => ?_) (fun (q_2 : v_1 ≠ 0) => ?_)
  · refine am_E.go (t2 := (17, [vR 0, vI nn, vI p], [vI (-1)], aq_h m s F c)) rfl rfl ?_
    refine am_E.ret rfl rfl ?_
    exact ⟨_, rfl, (aq_sm0 (S := fun a => a < 527)), ⟨_, rfl⟩, hI⟩
  · refine am_E.go (t2 := (8, [vR 0, vI nn, vI p], [vI p], aq_h m s F c)) rfl rfl ?_
    refine ae_if0 rfl (fun (q_3 : p < 0) => ?_) (fun (q_3 : 0 ≤ p) => ?_)
    · refine am_E.go (t2 := (17, [vR 0, vI nn, vI p], [vI (-1)], aq_h m s F c)) rfl rfl ?_
      refine am_E.ret rfl rfl ?_
      exact ⟨_, rfl, (aq_sm0 (S := fun a => a < 527)), ⟨_, rfl⟩, hI⟩
    · refine am_E.go (t2 := (12, [vR 0, vI nn, vI p], [vI p], aq_h m s F c)) rfl rfl ?_
      refine am_E.go (t2 := (13, [vR 0, vI nn, vI p], [vI 1, vI p], aq_h m s F c)) rfl rfl ?_
      refine ae_icmp rfl (fun (q_4 : p ≤ 1) => ?_) (fun (q_4 : 1 < p) => ?_)
      · refine am_E.go (t2 := (19, [vR 0, vI nn, vI p], [vI p], aq_h m s F c)) rfl rfl ?_
        refine ae_if0 rfl (fun (q_5 : p ≠ 0) => ?_) (fun (q_5 : p = 0) => ?_)
        · refine am_E.go (t2 := (37, [vR 0, vI nn, vI p], [vR 0], aq_h m s F c)) rfl rfl ?_
          refine aq_gf (v := vR 1) rfl (by omega) hC0 (by decide) rfl ?_
          show am_E _ (40, [vR 0, vI nn, vI p], [vR 1], aq_h m s F c) _
          refine am_E.go (t2 := (41, [vR 0, vI nn, vI p], [vI nn, vR 1], aq_h m s F c)) rfl rfl ?_
          refine am_E.go (t2 := (42, [vR 0, vI nn, vI p], [vI 1, vI nn, vR 1], aq_h m s F c)) rfl rfl ?_
          refine ae_sub rfl (am_ri (by omega) (by omega)) ?_
          show am_E _ (43, [vR 0, vI nn, vI p], [vI (nn - 1), vR 1], aq_h m s F c) _
          obtain ⟨o, n, K, e_o, e_n, e_K, e_j, e_k, tP, tG, tN, tR, tL, ⟨hm, hn1, hn4, hK, hFo, hFd, hFs⟩, ⟨hPg, hPr, hPt⟩, ⟨hL, hGg, hGr, hNg, hNr, hLt, hGt, hNt⟩, ⟨hR, hRt⟩, hst, hex⟩ := sb_box hC (i := (nn - 1)) (by omega) (by omega)
          have hb := sb_bnd ((nn - 1)).toNat (by omega)
          rw [e_o, e_k] at hb
          refine aq_al (ok := fun k => decide (3 ≤ k) && decide (k < 7)) (v := vR o) rfl rfl (by omega) hC1 rfl (by omega) (by omega) (aq_gi2 (by omega) e_o) ?_
          show am_E _ (44, [vR 0, vI nn, vI p], [vR o], aq_h m s F c) _
          refine aq_callv (y := 1) (as2 := []) (rest := []) rfl rfl (by decide) (Nat.le_of_ble_eq_true rfl) rfl rfl (Nat.le_of_ble_eq_true rfl) (by omega) hFo rfl (Nat.le_of_ble_eq_true rfl) (qn_X0_countPlane ⟨hm, hn1, hn4, hK, hFo, hFd, hFs⟩ ⟨hPg, hPr, hPt⟩) ?_
          rintro r5 h5 ⟨rfl, v_6, rfl⟩
          show am_E _ (47, [vR 0, vI nn, vI p], [vI v_6], aq_h m s F c) _
          refine am_E.ret rfl rfl ?_
          exact ⟨_, rfl, (aq_sm0 (S := fun a => a < 527)), ⟨_, rfl⟩, hI⟩
        · refine am_E.go (t2 := (23, [vR 0, vI nn, vI p], [vR 0], aq_h m s F c)) rfl rfl ?_
          refine aq_gf (v := vR 1) rfl (by omega) hC0 (by decide) rfl ?_
          show am_E _ (26, [vR 0, vI nn, vI p], [vR 1], aq_h m s F c) _
          refine am_E.go (t2 := (27, [vR 0, vI nn, vI p], [vI nn, vR 1], aq_h m s F c)) rfl rfl ?_
          refine am_E.go (t2 := (28, [vR 0, vI nn, vI p], [vI 1, vI nn, vR 1], aq_h m s F c)) rfl rfl ?_
          refine ae_sub rfl (am_ri (by omega) (by omega)) ?_
          show am_E _ (29, [vR 0, vI nn, vI p], [vI (nn - 1), vR 1], aq_h m s F c) _
          obtain ⟨o, n, K, e_o, e_n, e_K, e_j, e_k, tP, tG, tN, tR, tL, ⟨hm, hn1, hn4, hK, hFo, hFd, hFs⟩, ⟨hPg, hPr, hPt⟩, ⟨hL, hGg, hGr, hNg, hNr, hLt, hGt, hNt⟩, ⟨hR, hRt⟩, hst, hex⟩ := sb_box hC (i := (nn - 1)) (by omega) (by omega)
          have hb := sb_bnd ((nn - 1)).toNat (by omega)
          rw [e_o, e_k] at hb
          refine aq_al (ok := fun k => decide (3 ≤ k) && decide (k < 7)) (v := vR o) rfl rfl (by omega) hC1 rfl (by omega) (by omega) (aq_gi2 (by omega) e_o) ?_
          show am_E _ (30, [vR 0, vI nn, vI p], [vR o], aq_h m s F c) _
          refine aq_gf (v := vI (K : Int)) rfl (by omega) hFo (by decide) rfl ?_
          show am_E _ (33, [vR 0, vI nn, vI p], [vI (K : Int)], aq_h m s F c) _
          refine am_E.go (t2 := (47, [vR 0, vI nn, vI p], [vI (K : Int)], aq_h m s F c)) rfl rfl ?_
          refine am_E.ret rfl rfl ?_
          exact ⟨_, rfl, (aq_sm0 (S := fun a => a < 527)), ⟨_, rfl⟩, hI⟩
      · refine am_E.go (t2 := (17, [vR 0, vI nn, vI p], [vI (-1)], aq_h m s F c)) rfl rfl ?_
        refine am_E.ret rfl rfl ?_
        exact ⟨_, rfl, (aq_sm0 (S := fun a => a < 527)), ⟨_, rfl⟩, hI⟩

theorem qn_X4_partner {m s : Nat} {F : aq_F} {c : aq_C} (hC : sb_C m F) (hI : cl_I c) {nn b p : Int} : am_E ac_X4_partner (0, [vR 0, vI nn, vI b, vI p], [], aq_h m s F c) (aq_Z m s F (fun a => a < 527) c (fun r d => aq_vi r ∧ cl_I d)) := by
  obtain ⟨hCm, hC0, hC1, hC2, hC3, ⟨hma4, hFa4, hFn4, hFp4, hFf4⟩, ⟨hmx, hFx, hFl, hFw⟩, hCs, hCb, hCh⟩ := id hC
  refine am_E.go (t2 := (1, [vR 0, vI nn, vI b, vI p], [vR 0], aq_h m s F c)) rfl rfl ?_
  refine am_E.go (t2 := (2, [vR 0, vI nn, vI b, vI p], [vI nn, vR 0], aq_h m s F c)) rfl rfl ?_
  refine am_E.go (t2 := (3, [vR 0, vI nn, vI b, vI p], [vI b, vI nn, vR 0], aq_h m s F c)) rfl rfl ?_
  refine aq_callv (y := 3) (as2 := [vI nn, vI b]) (rest := []) rfl rfl (by decide) (Nat.le_of_ble_eq_true rfl) rfl rfl (Nat.le_of_ble_eq_true rfl) (by omega) hC0 rfl (Nat.le_of_ble_eq_true rfl) (qn_X4_isBox hC) ?_
  rintro r5 h5 ⟨rfl, v_1, rfl, hv_1⟩
  show am_E _ (6, [vR 0, vI nn, vI b, vI p], [vI v_1], aq_h m s F c) _
  refine ae_if0 rfl (fun (q_2 : v_1 = 0) => ?_) (fun (q_2 : v_1 ≠ 0) => ?_)
  · refine am_E.go (t2 := (21, [vR 0, vI nn, vI b, vI p], [vI (-1)], aq_h m s F c)) rfl rfl ?_
    refine am_E.ret rfl rfl ?_
    exact ⟨_, rfl, (aq_sm0 (S := fun a => a < 527)), ⟨_, rfl⟩, hI⟩
  · refine am_E.go (t2 := (10, [vR 0, vI nn, vI b, vI p], [vI p], aq_h m s F c)) rfl rfl ?_
    refine ae_if0 rfl (fun (q_3 : p < 0) => ?_) (fun (q_3 : 0 ≤ p) => ?_)
    · refine am_E.go (t2 := (21, [vR 0, vI nn, vI b, vI p], [vI (-1)], aq_h m s F c)) rfl rfl ?_
      refine am_E.ret rfl rfl ?_
      exact ⟨_, rfl, (aq_sm0 (S := fun a => a < 527)), ⟨_, rfl⟩, hI⟩
    · refine am_E.go (t2 := (14, [vR 0, vI nn, vI b, vI p], [vI p], aq_h m s F c)) rfl rfl ?_
      refine am_E.go (t2 := (15, [vR 0, vI nn, vI b, vI p], [vI 2, vI p], aq_h m s F c)) rfl rfl ?_
      refine am_E.go (t2 := (16, [vR 0, vI nn, vI b, vI p], [vI nn, vI 2, vI p], aq_h m s F c)) rfl rfl ?_
      refine ae_mul rfl (am_ri (by omega) (by omega)) ?_
      show am_E _ (17, [vR 0, vI nn, vI b, vI p], [vI (2 * nn), vI p], aq_h m s F c) _
      refine ae_icmp rfl (fun (q_4 : p < (2 * nn)) => ?_) (fun (q_4 : (2 * nn) ≤ p) => ?_)
      · refine am_E.go (t2 := (23, [vR 0, vI nn, vI b, vI p], [vR 0], aq_h m s F c)) rfl rfl ?_
        refine aq_gf (v := vR 1) rfl (by omega) hC0 (by decide) rfl ?_
        show am_E _ (26, [vR 0, vI nn, vI b, vI p], [vR 1], aq_h m s F c) _
        refine am_E.go (t2 := (27, [vR 0, vI nn, vI b, vI p], [vI nn, vR 1], aq_h m s F c)) rfl rfl ?_
        refine am_E.go (t2 := (28, [vR 0, vI nn, vI b, vI p], [vI 1, vI nn, vR 1], aq_h m s F c)) rfl rfl ?_
        refine ae_sub rfl (am_ri (by omega) (by omega)) ?_
        show am_E _ (29, [vR 0, vI nn, vI b, vI p], [vI (nn - 1), vR 1], aq_h m s F c) _
        obtain ⟨o, n, K, e_o, e_n, e_K, e_j, e_k, tP, tG, tN, tR, tL, ⟨hm, hn1, hn4, hK, hFo, hFd, hFs⟩, ⟨hPg, hPr, hPt⟩, ⟨hL, hGg, hGr, hNg, hNr, hLt, hGt, hNt⟩, ⟨hR, hRt⟩, hst, hex⟩ := sb_box hC (i := (nn - 1)) (by omega) (by omega)
        have hb := sb_bnd ((nn - 1)).toNat (by omega)
        rw [e_o, e_k] at hb
        have hbK : (K : Int) = bx_K nn := by rw [e_K]; congr 1; omega
        refine aq_al (ok := fun k => decide (3 ≤ k) && decide (k < 7)) (v := vR o) rfl rfl (by omega) hC1 rfl (by omega) (by omega) (aq_gi2 (by omega) e_o) ?_
        show am_E _ (30, [vR 0, vI nn, vI b, vI p], [vR o], aq_h m s F c) _
        refine aq_gf (v := vR (o + 1)) rfl (by omega) hFo (by decide) rfl ?_
        show am_E _ (33, [vR 0, vI nn, vI b, vI p], [vR (o + 1)], aq_h m s F c) _
        refine am_E.go (t2 := (34, [vR 0, vI nn, vI b, vI p], [vI b, vR (o + 1)], aq_h m s F c)) rfl rfl ?_
        refine aq_al (ok := fun k => decide (3 ≤ k) && decide (k < 7)) (v := vR (o + 2 + b.toNat)) rfl rfl (by omega) hPg rfl (by omega) (by omega) (aq_gi (by omega)) ?_
        show am_E _ (35, [vR 0, vI nn, vI b, vI p], [vR (o + 2 + b.toNat)], aq_h m s F c) _
        refine am_E.go (t2 := (36, [vR 0, vI nn, vI b, vI p], [vI p, vR (o + 2 + b.toNat)], aq_h m s F c)) rfl rfl ?_
        refine aq_alt (ok := fun k => k == 0) rfl rfl (by omega) (hPr _ (by omega)) rfl (by omega) (by omega) ?_
        show am_E _ (37, [vR 0, vI nn, vI b, vI p], [vI (tP ((b.toNat : Nat) : Int) p)], aq_h m s F c) _
        have f_5 := hPt ((b.toNat : Nat) : Int) p (by omega) (by omega) (by omega) (by omega)
        refine am_E.ret rfl rfl ?_
        exact ⟨_, rfl, (aq_sm0 (S := fun a => a < 527)), ⟨_, rfl⟩, hI⟩
      · refine am_E.go (t2 := (21, [vR 0, vI nn, vI b, vI p], [vI (-1)], aq_h m s F c)) rfl rfl ?_
        refine am_E.ret rfl rfl ?_
        exact ⟨_, rfl, (aq_sm0 (S := fun a => a < 527)), ⟨_, rfl⟩, hI⟩

theorem qn_X4_about {m s : Nat} {F : aq_F} {c : aq_C} (hC : sb_C m F) (hI : cl_I c) {nn b w : Int} : am_E ac_X4_about (0, [vR 0, vI nn, vI b, vI w, vU], [], aq_h m s F c) (aq_Z m s F (fun a => a < 527) c (fun r d => aq_vi r ∧ cl_I d)) := by
  obtain ⟨hCm, hC0, hC1, hC2, hC3, ⟨hma4, hFa4, hFn4, hFp4, hFf4⟩, ⟨hmx, hFx, hFl, hFw⟩, hCs, hCb, hCh⟩ := id hC
  refine am_E.go (t2 := (1, [vR 0, vI nn, vI b, vI w, vU], [vR 0], aq_h m s F c)) rfl rfl ?_
  refine am_E.go (t2 := (2, [vR 0, vI nn, vI b, vI w, vU], [vI nn, vR 0], aq_h m s F c)) rfl rfl ?_
  refine am_E.go (t2 := (3, [vR 0, vI nn, vI b, vI w, vU], [vI b, vI nn, vR 0], aq_h m s F c)) rfl rfl ?_
  refine aq_callv (y := 3) (as2 := [vI nn, vI b]) (rest := []) rfl rfl (by decide) (Nat.le_of_ble_eq_true rfl) rfl rfl (Nat.le_of_ble_eq_true rfl) (by omega) hC0 rfl (Nat.le_of_ble_eq_true rfl) (qn_X4_isBox hC) ?_
  rintro r5 h5 ⟨rfl, v_1, rfl, hv_1⟩
  show am_E _ (6, [vR 0, vI nn, vI b, vI w, vU], [vI v_1], aq_h m s F c) _
  refine ae_if0 rfl (fun (q_2 : v_1 ≠ 0) => ?_) (fun (q_2 : v_1 = 0) => ?_)
  · refine am_E.go (t2 := (12, [vR 0, vI nn, vI b, vI w, vU], [vR 0], aq_h m s F c)) rfl rfl ?_
    refine aq_gf (v := vR 1) rfl (by omega) hC0 (by decide) rfl ?_
    show am_E _ (15, [vR 0, vI nn, vI b, vI w, vU], [vR 1], aq_h m s F c) _
    refine am_E.go (t2 := (16, [vR 0, vI nn, vI b, vI w, vU], [vI nn, vR 1], aq_h m s F c)) rfl rfl ?_
    refine am_E.go (t2 := (17, [vR 0, vI nn, vI b, vI w, vU], [vI 1, vI nn, vR 1], aq_h m s F c)) rfl rfl ?_
    refine ae_sub rfl (am_ri (by omega) (by omega)) ?_
    show am_E _ (18, [vR 0, vI nn, vI b, vI w, vU], [vI (nn - 1), vR 1], aq_h m s F c) _
    obtain ⟨o, n, K, e_o, e_n, e_K, e_j, e_k, tP, tG, tN, tR, tL, ⟨hm, hn1, hn4, hK, hFo, hFd, hFs⟩, ⟨hPg, hPr, hPt⟩, ⟨hL, hGg, hGr, hNg, hNr, hLt, hGt, hNt⟩, ⟨hR, hRt⟩, hst, hex⟩ := sb_box hC (i := (nn - 1)) (by omega) (by omega)
    have hb := sb_bnd ((nn - 1)).toNat (by omega)
    rw [e_o, e_k] at hb
    have hbK : (K : Int) = bx_K nn := by rw [e_K]; congr 1; omega
    refine aq_al (ok := fun k => decide (3 ≤ k) && decide (k < 7)) (v := vR o) rfl rfl (by omega) hC1 rfl (by omega) (by omega) (aq_gi2 (by omega) e_o) ?_
    show am_E _ (19, [vR 0, vI nn, vI b, vI w, vU], [vR o], aq_h m s F c) _
    refine am_E.go (t2 := (21, [vR 0, vI nn, vI b, vI w, vR o], [], aq_h m s F c)) rfl rfl ?_
    refine am_E.go (t2 := (22, [vR 0, vI nn, vI b, vI w, vR o], [vI w], aq_h m s F c)) rfl rfl ?_
    have hsw : w = 0 ∨ w = 1 ∨ w = 2 ∨ w = 3 ∨ w = 4 ∨ (w < 0 ∨ 4 < w) := by omega
    rcases hsw with h | h | h | h | h | h
    · subst h
      refine am_E.go (t2 := (56, [vR 0, vI nn, vI b, vI 0, vR o], [], aq_h m s F c)) rfl rfl ?_
      refine am_E.go (t2 := (58, [vR 0, vI nn, vI b, vI 0, vR o], [vR o], aq_h m s F c)) rfl rfl ?_
      refine am_E.go (t2 := (59, [vR 0, vI nn, vI b, vI 0, vR o], [vI b, vR o], aq_h m s F c)) rfl rfl ?_
      refine aq_callv (y := 2) (as2 := [vI b]) (rest := []) rfl rfl (by decide) (Nat.le_of_ble_eq_true rfl) rfl rfl (Nat.le_of_ble_eq_true rfl) (by omega) hFo rfl (Nat.le_of_ble_eq_true rfl) (qn_X0_isPlane ⟨hm, hn1, hn4, hK, hFo, hFd, hFs⟩ ⟨hPg, hPr, hPt⟩ (by omega) (by omega)) ?_
      rintro r5 h5 ⟨rfl, v_3, rfl, hv_3⟩
      show am_E _ (62, [vR 0, vI nn, vI b, vI 0, vR o], [vI v_3], aq_h m s F c) _
      refine ae_if0 rfl (fun (q_4 : v_3 = 0) => ?_) (fun (q_4 : v_3 ≠ 0) => ?_)
      · refine am_E.go (t2 := (70, [vR 0, vI nn, vI b, vI 0, vR o], [vI 0], aq_h m s F c)) rfl rfl ?_
        refine am_E.ret rfl rfl ?_
        exact ⟨_, rfl, (aq_sm0 (S := fun a => a < 527)), ⟨_, rfl⟩, hI⟩
      · refine am_E.go (t2 := (66, [vR 0, vI nn, vI b, vI 0, vR o], [vI 1], aq_h m s F c)) rfl rfl ?_
        refine am_E.go (t2 := (70, [vR 0, vI nn, vI b, vI 0, vR o], [vI 1], aq_h m s F c)) rfl rfl ?_
        refine am_E.ret rfl rfl ?_
        exact ⟨_, rfl, (aq_sm0 (S := fun a => a < 527)), ⟨_, rfl⟩, hI⟩
    · subst h
      refine am_E.go (t2 := (71, [vR 0, vI nn, vI b, vI 1, vR o], [], aq_h m s F c)) rfl rfl ?_
      refine am_E.go (t2 := (73, [vR 0, vI nn, vI b, vI 1, vR o], [vR o], aq_h m s F c)) rfl rfl ?_
      refine am_E.go (t2 := (74, [vR 0, vI nn, vI b, vI 1, vR o], [vI b, vR o], aq_h m s F c)) rfl rfl ?_
      refine aq_callv (y := 2) (as2 := [vI b]) (rest := []) rfl rfl (by decide) (Nat.le_of_ble_eq_true rfl) rfl rfl (Nat.le_of_ble_eq_true rfl) (by omega) hFo rfl (Nat.le_of_ble_eq_true rfl) (qn_X0_countThrough ⟨hm, hn1, hn4, hK, hFo, hFd, hFs⟩ ⟨hPg, hPr, hPt⟩ (by omega) (by omega)) ?_
      rintro r5 h5 ⟨rfl, v_5, rfl⟩
      show am_E _ (77, [vR 0, vI nn, vI b, vI 1, vR o], [vI v_5], aq_h m s F c) _
      refine am_E.ret rfl rfl ?_
      exact ⟨_, rfl, (aq_sm0 (S := fun a => a < 527)), ⟨_, rfl⟩, hI⟩
    · subst h
      refine am_E.go (t2 := (78, [vR 0, vI nn, vI b, vI 2, vR o], [], aq_h m s F c)) rfl rfl ?_
      refine am_E.go (t2 := (80, [vR 0, vI nn, vI b, vI 2, vR o], [vR o], aq_h m s F c)) rfl rfl ?_
      refine am_E.go (t2 := (81, [vR 0, vI nn, vI b, vI 2, vR o], [vI b, vR o], aq_h m s F c)) rfl rfl ?_
      refine aq_callv (y := 2) (as2 := [vI b]) (rest := []) rfl rfl (by decide) (Nat.le_of_ble_eq_true rfl) rfl rfl (Nat.le_of_ble_eq_true rfl) (by omega) hFo rfl (Nat.le_of_ble_eq_true rfl) (qn_X0_upsideDown (S := fun a => a = o + 6 + 3 * K ∨ a = o + 7 + 3 * K) ⟨hm, hn1, hn4, hK, hFo, hFd, hFs⟩ (Or.inl rfl) (Or.inr rfl) ⟨hPg, hPr, hPt⟩ (by omega) (by omega) (by have h9 := hI.1 ((nn - 1)).toNat (by omega); rw [e_o, e_k, ← e_j] at h9; exact h9)) ?_
      rintro r5 h5 ⟨c_b, rfl, s_b, ⟨v_b, rfl⟩, hr_b⟩
      show am_E _ (84, [vR 0, vI nn, vI b, vI 2, vR o], [vI v_b], aq_h m s F c_b) _
      refine am_E.ret rfl rfl ?_
      exact ⟨_, rfl, (aq_smt (aq_sm0 (S := fun a => a < 527)) (aq_smi s_b (fun a h => by omega))), ⟨_, rfl⟩, cl_b hI (j := ((nn - 1)).toNat) (by omega) (by rw [e_o, e_k]; exact s_b) (by rw [e_o, e_k, ← e_j]; exact hr_b)⟩
    · subst h
      refine am_E.go (t2 := (85, [vR 0, vI nn, vI b, vI 3, vR o], [], aq_h m s F c)) rfl rfl ?_
      refine am_E.go (t2 := (87, [vR 0, vI nn, vI b, vI 3, vR o], [vR o], aq_h m s F c)) rfl rfl ?_
      refine aq_gf (v := vR (o + 2 + K)) rfl (by omega) hFo (by decide) rfl ?_
      show am_E _ (90, [vR 0, vI nn, vI b, vI 3, vR o], [vR (o + 2 + K)], aq_h m s F c) _
      refine am_E.go (t2 := (91, [vR 0, vI nn, vI b, vI 3, vR o], [vI b, vR (o + 2 + K)], aq_h m s F c)) rfl rfl ?_
      refine aq_alt (ok := fun k => k == 0) rfl rfl (by omega) hR rfl (by omega) (by omega) ?_
      show am_E _ (92, [vR 0, vI nn, vI b, vI 3, vR o], [vI (tR b)], aq_h m s F c) _
      refine am_E.ret rfl rfl ?_
      exact ⟨_, rfl, (aq_sm0 (S := fun a => a < 527)), ⟨_, rfl⟩, hI⟩
    · subst h
      refine am_E.go (t2 := (93, [vR 0, vI nn, vI b, vI 4, vR o], [], aq_h m s F c)) rfl rfl ?_
      refine am_E.go (t2 := (95, [vR 0, vI nn, vI b, vI 4, vR o], [vR o], aq_h m s F c)) rfl rfl ?_
      refine aq_gf (v := vR (o + 3 + K)) rfl (by omega) hFo (by decide) rfl ?_
      show am_E _ (98, [vR 0, vI nn, vI b, vI 4, vR o], [vR (o + 3 + K)], aq_h m s F c) _
      refine am_E.go (t2 := (99, [vR 0, vI nn, vI b, vI 4, vR o], [vI b, vR (o + 3 + K)], aq_h m s F c)) rfl rfl ?_
      refine aq_alt (ok := fun k => k == 0) rfl rfl (by omega) hL rfl (by omega) (by omega) ?_
      show am_E _ (100, [vR 0, vI nn, vI b, vI 4, vR o], [vI (tL b)], aq_h m s F c) _
      refine am_E.ret rfl rfl ?_
      exact ⟨_, rfl, (aq_sm0 (S := fun a => a < 527)), ⟨_, rfl⟩, hI⟩
    · refine ae_swd rfl h ?_
      show am_E _ (101, [vR 0, vI nn, vI b, vI w, vR o], [], aq_h m s F c) _
      refine am_E.go (t2 := (102, [vR 0, vI nn, vI b, vI w, vR o], [vI (-1)], aq_h m s F c)) rfl rfl ?_
      refine am_E.ret rfl rfl ?_
      exact ⟨_, rfl, (aq_sm0 (S := fun a => a < 527)), ⟨_, rfl⟩, hI⟩
  · refine am_E.go (t2 := (10, [vR 0, vI nn, vI b, vI w, vU], [vI (-1)], aq_h m s F c)) rfl rfl ?_
    refine am_E.ret rfl rfl ?_
    exact ⟨_, rfl, (aq_sm0 (S := fun a => a < 527)), ⟨_, rfl⟩, hI⟩

theorem qn_X4_stack {m s : Nat} {F : aq_F} {c : aq_C} (hC : sb_C m F) (hI : cl_I c) {nn x y : Int} : am_E ac_X4_stack (0, [vR 0, vI nn, vI x, vI y], [], aq_h m s F c) (aq_Z m s F (fun a => a < 527) c (fun r d => aq_vi r ∧ cl_I d)) := by
  obtain ⟨hCm, hC0, hC1, hC2, hC3, ⟨hma4, hFa4, hFn4, hFp4, hFf4⟩, ⟨hmx, hFx, hFl, hFw⟩, hCs, hCb, hCh⟩ := id hC
  refine am_E.go (t2 := (1, [vR 0, vI nn, vI x, vI y], [vR 0], aq_h m s F c)) rfl rfl ?_
  refine am_E.go (t2 := (2, [vR 0, vI nn, vI x, vI y], [vI nn, vR 0], aq_h m s F c)) rfl rfl ?_
  refine am_E.go (t2 := (3, [vR 0, vI nn, vI x, vI y], [vI x, vI nn, vR 0], aq_h m s F c)) rfl rfl ?_
  refine aq_callv (y := 3) (as2 := [vI nn, vI x]) (rest := []) rfl rfl (by decide) (Nat.le_of_ble_eq_true rfl) rfl rfl (Nat.le_of_ble_eq_true rfl) (by omega) hC0 rfl (Nat.le_of_ble_eq_true rfl) (qn_X4_isBox hC) ?_
  rintro r5 h5 ⟨rfl, v_1, rfl, hv_1⟩
  show am_E _ (6, [vR 0, vI nn, vI x, vI y], [vI v_1], aq_h m s F c) _
  refine ae_if0 rfl (fun (q_2 : v_1 = 0) => ?_) (fun (q_2 : v_1 ≠ 0) => ?_)
  · refine am_E.go (t2 := (19, [vR 0, vI nn, vI x, vI y], [vI (-1)], aq_h m s F c)) rfl rfl ?_
    refine am_E.ret rfl rfl ?_
    exact ⟨_, rfl, (aq_sm0 (S := fun a => a < 527)), ⟨_, rfl⟩, hI⟩
  · refine am_E.go (t2 := (10, [vR 0, vI nn, vI x, vI y], [vR 0], aq_h m s F c)) rfl rfl ?_
    refine am_E.go (t2 := (11, [vR 0, vI nn, vI x, vI y], [vI nn, vR 0], aq_h m s F c)) rfl rfl ?_
    refine am_E.go (t2 := (12, [vR 0, vI nn, vI x, vI y], [vI y, vI nn, vR 0], aq_h m s F c)) rfl rfl ?_
    refine aq_callv (y := 3) (as2 := [vI nn, vI y]) (rest := []) rfl rfl (by decide) (Nat.le_of_ble_eq_true rfl) rfl rfl (Nat.le_of_ble_eq_true rfl) (by omega) hC0 rfl (Nat.le_of_ble_eq_true rfl) (qn_X4_isBox hC) ?_
    rintro r5 h5 ⟨rfl, v_3, rfl, hv_3⟩
    show am_E _ (15, [vR 0, vI nn, vI x, vI y], [vI v_3], aq_h m s F c) _
    refine ae_if0 rfl (fun (q_4 : v_3 ≠ 0) => ?_) (fun (q_4 : v_3 = 0) => ?_)
    · refine am_E.go (t2 := (21, [vR 0, vI nn, vI x, vI y], [vR 0], aq_h m s F c)) rfl rfl ?_
      refine aq_gf (v := vR 1) rfl (by omega) hC0 (by decide) rfl ?_
      show am_E _ (24, [vR 0, vI nn, vI x, vI y], [vR 1], aq_h m s F c) _
      refine am_E.go (t2 := (25, [vR 0, vI nn, vI x, vI y], [vI nn, vR 1], aq_h m s F c)) rfl rfl ?_
      refine am_E.go (t2 := (26, [vR 0, vI nn, vI x, vI y], [vI 1, vI nn, vR 1], aq_h m s F c)) rfl rfl ?_
      refine ae_sub rfl (am_ri (by omega) (by omega)) ?_
      show am_E _ (27, [vR 0, vI nn, vI x, vI y], [vI (nn - 1), vR 1], aq_h m s F c) _
      obtain ⟨o, n, K, e_o, e_n, e_K, e_j, e_k, tP, tG, tN, tR, tL, ⟨hm, hn1, hn4, hK, hFo, hFd, hFs⟩, ⟨hPg, hPr, hPt⟩, ⟨hL, hGg, hGr, hNg, hNr, hLt, hGt, hNt⟩, ⟨hR, hRt⟩, hst, hex⟩ := sb_box hC (i := (nn - 1)) (by omega) (by omega)
      have hb := sb_bnd ((nn - 1)).toNat (by omega)
      rw [e_o, e_k] at hb
      have hbK : (K : Int) = bx_K nn := by rw [e_K]; congr 1; omega
      refine aq_al (ok := fun k => decide (3 ≤ k) && decide (k < 7)) (v := vR o) rfl rfl (by omega) hC1 rfl (by omega) (by omega) (aq_gi2 (by omega) e_o) ?_
      show am_E _ (28, [vR 0, vI nn, vI x, vI y], [vR o], aq_h m s F c) _
      refine am_E.go (t2 := (29, [vR 0, vI nn, vI x, vI y], [vI x, vR o], aq_h m s F c)) rfl rfl ?_
      refine am_E.go (t2 := (30, [vR 0, vI nn, vI x, vI y], [vI y, vI x, vR o], aq_h m s F c)) rfl rfl ?_
      refine aq_callv (y := 3) (as2 := [vI x, vI y]) (rest := []) rfl rfl (by decide) (Nat.le_of_ble_eq_true rfl) rfl rfl (Nat.le_of_ble_eq_true rfl) (by omega) hFo rfl (Nat.le_of_ble_eq_true rfl) (qn_X0_stackOn ⟨hm, hn1, hn4, hK, hFo, hFd, hFs⟩ ⟨hL, hGg, hGr, hNg, hNr, hLt, hGt, hNt⟩ (by omega) (by omega) (by omega) (by omega)) ?_
      rintro r5 h5 ⟨rfl, v_5, rfl, hv_5⟩
      show am_E _ (33, [vR 0, vI nn, vI x, vI y], [vI v_5], aq_h m s F c) _
      refine am_E.ret rfl rfl ?_
      exact ⟨_, rfl, (aq_sm0 (S := fun a => a < 527)), ⟨_, rfl⟩, hI⟩
    · refine am_E.go (t2 := (19, [vR 0, vI nn, vI x, vI y], [vI (-1)], aq_h m s F c)) rfl rfl ?_
      refine am_E.ret rfl rfl ?_
      exact ⟨_, rfl, (aq_sm0 (S := fun a => a < 527)), ⟨_, rfl⟩, hI⟩

theorem qn_X4_plain {m s : Nat} {F : aq_F} {c : aq_C} (hC : sb_C m F) (hI : cl_I c) {nn l : Int} : am_E ac_X4_plain (0, [vR 0, vI nn, vI l], [], aq_h m s F c) (aq_Z m s F (fun a => a < 527) c (fun r d => aq_vi r ∧ cl_I d)) := by
  obtain ⟨hCm, hC0, hC1, hC2, hC3, ⟨hma4, hFa4, hFn4, hFp4, hFf4⟩, ⟨hmx, hFx, hFl, hFw⟩, hCs, hCb, hCh⟩ := id hC
  refine am_E.go (t2 := (1, [vR 0, vI nn, vI l], [vI nn], aq_h m s F c)) rfl rfl ?_
  refine am_E.call rfl rfl rfl (Nat.le_of_ble_eq_true rfl) (qn_X4_isStrands) ?_
  rintro r5 h5 ⟨rfl, v_1, rfl, hv_1⟩
  show am_E _ (4, [vR 0, vI nn, vI l], [vI v_1], aq_h m s F c) _
  refine ae_if0 rfl (fun (q_2 : v_1 ≠ 0) => ?_) (fun (q_2 : v_1 = 0) => ?_)
  · refine am_E.go (t2 := (10, [vR 0, vI nn, vI l], [vR 0], aq_h m s F c)) rfl rfl ?_
    refine aq_gf (v := vR 1) rfl (by omega) hC0 (by decide) rfl ?_
    show am_E _ (13, [vR 0, vI nn, vI l], [vR 1], aq_h m s F c) _
    refine am_E.go (t2 := (14, [vR 0, vI nn, vI l], [vI nn, vR 1], aq_h m s F c)) rfl rfl ?_
    refine am_E.go (t2 := (15, [vR 0, vI nn, vI l], [vI 1, vI nn, vR 1], aq_h m s F c)) rfl rfl ?_
    refine ae_sub rfl (am_ri (by omega) (by omega)) ?_
    show am_E _ (16, [vR 0, vI nn, vI l], [vI (nn - 1), vR 1], aq_h m s F c) _
    obtain ⟨o, n, K, e_o, e_n, e_K, e_j, e_k, tP, tG, tN, tR, tL, ⟨hm, hn1, hn4, hK, hFo, hFd, hFs⟩, ⟨hPg, hPr, hPt⟩, ⟨hL, hGg, hGr, hNg, hNr, hLt, hGt, hNt⟩, ⟨hR, hRt⟩, hst, hex⟩ := sb_box hC (i := (nn - 1)) (by omega) (by omega)
    have hb := sb_bnd ((nn - 1)).toNat (by omega)
    rw [e_o, e_k] at hb
    have hbK : (K : Int) = bx_K nn := by rw [e_K]; congr 1; omega
    refine aq_al (ok := fun k => decide (3 ≤ k) && decide (k < 7)) (v := vR o) rfl rfl (by omega) hC1 rfl (by omega) (by omega) (aq_gi2 (by omega) e_o) ?_
    show am_E _ (17, [vR 0, vI nn, vI l], [vR o], aq_h m s F c) _
    refine am_E.go (t2 := (18, [vR 0, vI nn, vI l], [vI l, vR o], aq_h m s F c)) rfl rfl ?_
    refine aq_callv (y := 2) (as2 := [vI l]) (rest := []) rfl rfl (by decide) (Nat.le_of_ble_eq_true rfl) rfl rfl (Nat.le_of_ble_eq_true rfl) (by omega) hFo rfl (Nat.le_of_ble_eq_true rfl) (qn_X0_ofLetter (S := fun a => a = o + 6 + 3 * K ∨ a = o + 7 + 3 * K) ⟨hm, hn1, hn4, hK, hFo, hFd, hFs⟩ (Or.inl rfl) (Or.inr rfl) (by have h9 := hI.1 ((nn - 1)).toNat (by omega); rw [e_o, e_k, ← e_j] at h9; exact h9)) ?_
    rintro r5 h5 ⟨c_b, rfl, s_b, hr_b, hq_b⟩
    obtain ⟨v_b, rfl⟩ : aq_vi r5 := by rcases hq_b with ⟨_, h⟩ | ⟨_, _, h⟩ <;> exact ⟨_, h⟩
    show am_E _ (21, [vR 0, vI nn, vI l], [vI v_b], aq_h m s F c_b) _
    refine am_E.ret rfl rfl ?_
    exact ⟨_, rfl, (aq_smt (aq_sm0 (S := fun a => a < 527)) (aq_smi s_b (fun a h => by omega))), ⟨_, rfl⟩, cl_b hI (j := ((nn - 1)).toNat) (by omega) (by rw [e_o, e_k]; exact s_b) (by rw [e_o, e_k, ← e_j]; exact hr_b)⟩
  · refine am_E.go (t2 := (8, [vR 0, vI nn, vI l], [vI (-1)], aq_h m s F c)) rfl rfl ?_
    refine am_E.ret rfl rfl ?_
    exact ⟨_, rfl, (aq_sm0 (S := fun a => a < 527)), ⟨_, rfl⟩, hI⟩

theorem qn_X4_word {m s : Nat} {F : aq_F} {c : aq_C} (hC : sb_C m F) (hI : cl_I c) {nn b i : Int} : am_E ac_X4_word (0, [vR 0, vI nn, vI b, vI i], [], aq_h m s F c) (aq_Z m s F (fun a => a < 527) c (fun r d => aq_vi r ∧ cl_I d)) := by
  obtain ⟨hCm, hC0, hC1, hC2, hC3, ⟨hma4, hFa4, hFn4, hFp4, hFf4⟩, ⟨hmx, hFx, hFl, hFw⟩, hCs, hCb, hCh⟩ := id hC
  refine am_E.go (t2 := (1, [vR 0, vI nn, vI b, vI i], [vR 0], aq_h m s F c)) rfl rfl ?_
  refine am_E.go (t2 := (2, [vR 0, vI nn, vI b, vI i], [vI nn, vR 0], aq_h m s F c)) rfl rfl ?_
  refine am_E.go (t2 := (3, [vR 0, vI nn, vI b, vI i], [vI b, vI nn, vR 0], aq_h m s F c)) rfl rfl ?_
  refine aq_callv (y := 3) (as2 := [vI nn, vI b]) (rest := []) rfl rfl (by decide) (Nat.le_of_ble_eq_true rfl) rfl rfl (Nat.le_of_ble_eq_true rfl) (by omega) hC0 rfl (Nat.le_of_ble_eq_true rfl) (qn_X4_isBox hC) ?_
  rintro r5 h5 ⟨rfl, v_1, rfl, hv_1⟩
  show am_E _ (6, [vR 0, vI nn, vI b, vI i], [vI v_1], aq_h m s F c) _
  refine ae_if0 rfl (fun (q_2 : v_1 = 0) => ?_) (fun (q_2 : v_1 ≠ 0) => ?_)
  · refine am_E.go (t2 := (14, [vR 0, vI nn, vI b, vI i], [vI (-1)], aq_h m s F c)) rfl rfl ?_
    refine am_E.ret rfl rfl ?_
    exact ⟨_, rfl, (aq_sm0 (S := fun a => a < 527)), ⟨_, rfl⟩, hI⟩
  · refine am_E.go (t2 := (10, [vR 0, vI nn, vI b, vI i], [vI i], aq_h m s F c)) rfl rfl ?_
    refine ae_if0 rfl (fun (q_3 : 0 ≤ i) => ?_) (fun (q_3 : i < 0) => ?_)
    · refine am_E.go (t2 := (16, [vR 0, vI nn, vI b, vI i], [vR 0], aq_h m s F c)) rfl rfl ?_
      refine aq_gf (v := vR 1) rfl (by omega) hC0 (by decide) rfl ?_
      show am_E _ (19, [vR 0, vI nn, vI b, vI i], [vR 1], aq_h m s F c) _
      refine am_E.go (t2 := (20, [vR 0, vI nn, vI b, vI i], [vI nn, vR 1], aq_h m s F c)) rfl rfl ?_
      refine am_E.go (t2 := (21, [vR 0, vI nn, vI b, vI i], [vI 1, vI nn, vR 1], aq_h m s F c)) rfl rfl ?_
      refine ae_sub rfl (am_ri (by omega) (by omega)) ?_
      show am_E _ (22, [vR 0, vI nn, vI b, vI i], [vI (nn - 1), vR 1], aq_h m s F c) _
      obtain ⟨o, n, K, e_o, e_n, e_K, e_j, e_k, tP, tG, tN, tR, tL, ⟨hm, hn1, hn4, hK, hFo, hFd, hFs⟩, ⟨hPg, hPr, hPt⟩, ⟨hL, hGg, hGr, hNg, hNr, hLt, hGt, hNt⟩, ⟨hR, hRt⟩, hst, hex⟩ := sb_box hC (i := (nn - 1)) (by omega) (by omega)
      have hb := sb_bnd ((nn - 1)).toNat (by omega)
      rw [e_o, e_k] at hb
      have hbK : (K : Int) = bx_K nn := by rw [e_K]; congr 1; omega
      refine aq_al (ok := fun k => decide (3 ≤ k) && decide (k < 7)) (v := vR o) rfl rfl (by omega) hC1 rfl (by omega) (by omega) (aq_gi2 (by omega) e_o) ?_
      show am_E _ (23, [vR 0, vI nn, vI b, vI i], [vR o], aq_h m s F c) _
      refine am_E.go (t2 := (24, [vR 0, vI nn, vI b, vI i], [vI b, vR o], aq_h m s F c)) rfl rfl ?_
      refine am_E.go (t2 := (25, [vR 0, vI nn, vI b, vI i], [vI i, vI b, vR o], aq_h m s F c)) rfl rfl ?_
      refine aq_callv (y := 3) (as2 := [vI b, vI i]) (rest := []) rfl rfl (by decide) (Nat.le_of_ble_eq_true rfl) rfl rfl (Nat.le_of_ble_eq_true rfl) (by omega) hFo rfl (Nat.le_of_ble_eq_true rfl) (qn_X0_letterOf ⟨hm, hn1, hn4, hK, hFo, hFd, hFs⟩ ⟨hL, hGg, hGr, hNg, hNr, hLt, hGt, hNt⟩ (by omega) (by omega) (by omega)) ?_
      rintro r5 h5 ⟨rfl, v_4, rfl⟩
      show am_E _ (28, [vR 0, vI nn, vI b, vI i], [vI v_4], aq_h m s F c) _
      refine am_E.ret rfl rfl ?_
      exact ⟨_, rfl, (aq_sm0 (S := fun a => a < 527)), ⟨_, rfl⟩, hI⟩
    · refine am_E.go (t2 := (14, [vR 0, vI nn, vI b, vI i], [vI (-1)], aq_h m s F c)) rfl rfl ?_
      refine am_E.ret rfl rfl ?_
      exact ⟨_, rfl, (aq_sm0 (S := fun a => a < 527)), ⟨_, rfl⟩, hI⟩

theorem qn_X4_halves {m s : Nat} {F : aq_F} {c : aq_C} (hC : sb_C m F) (hI : cl_I c) {nn t : Int} : am_E ac_X4_halves (0, [vR 0, vI nn, vI t], [], aq_h m s F c) (aq_Z m s F (fun a => a < 527) c (fun r d => aq_vi r ∧ cl_I d)) := by
  obtain ⟨hCm, hC0, hC1, hC2, hC3, ⟨hma4, hFa4, hFn4, hFp4, hFf4⟩, ⟨hmx, hFx, hFl, hFw⟩, hCs, hCb, hCh⟩ := id hC
  refine am_E.go (t2 := (1, [vR 0, vI nn, vI t], [vI nn], aq_h m s F c)) rfl rfl ?_
  refine am_E.go (t2 := (2, [vR 0, vI nn, vI t], [vI t, vI nn], aq_h m s F c)) rfl rfl ?_
  refine am_E.call rfl rfl rfl (Nat.le_of_ble_eq_true rfl) (qn_X4_isThrough) ?_
  rintro r5 h5 ⟨rfl, v_1, rfl, hv_1⟩
  show am_E _ (5, [vR 0, vI nn, vI t], [vI v_1], aq_h m s F c) _
  refine ae_if0 rfl (fun (q_2 : v_1 ≠ 0) => ?_) (fun (q_2 : v_1 = 0) => ?_)
  · refine am_E.go (t2 := (11, [vR 0, vI nn, vI t], [vR 0], aq_h m s F c)) rfl rfl ?_
    refine aq_gf (v := vR 2) rfl (by omega) hC0 (by decide) rfl ?_
    show am_E _ (14, [vR 0, vI nn, vI t], [vR 2], aq_h m s F c) _
    refine am_E.go (t2 := (15, [vR 0, vI nn, vI t], [vI nn, vR 2], aq_h m s F c)) rfl rfl ?_
    refine am_E.go (t2 := (16, [vR 0, vI nn, vI t], [vI 1, vI nn, vR 2], aq_h m s F c)) rfl rfl ?_
    refine ae_sub rfl (am_ri (by omega) (by omega)) ?_
    show am_E _ (17, [vR 0, vI nn, vI t], [vI (nn - 1), vR 2], aq_h m s F c) _
    obtain ⟨o, n, e_o, e_n, z, tl, th, ⟨hm, hn1, hn4, hz6, hFo, hFl, hFg, hFt, hFp, hFq, hFd, hFs, hht⟩, hve⟩ := sb_half hC (i := (nn - 1)) (by omega) (by omega)
    have hb := sb_hnd 0 (by omega) ((nn - 1)).toNat (by omega)
    rw [e_o] at hb
    refine aq_al (ok := fun k => decide (3 ≤ k) && decide (k < 7)) (v := vR o) rfl rfl (by omega) hC2 rfl (by omega) (by omega) (aq_gi2 (by omega) e_o) ?_
    show am_E _ (18, [vR 0, vI nn, vI t], [vR o], aq_h m s F c) _
    refine am_E.go (t2 := (19, [vR 0, vI nn, vI t], [vI t, vR o], aq_h m s F c)) rfl rfl ?_
    refine aq_callv (y := 2) (as2 := [vI t]) (rest := []) rfl rfl (by decide) (Nat.le_of_ble_eq_true rfl) rfl rfl (Nat.le_of_ble_eq_true rfl) (by omega) hFo rfl (Nat.le_of_ble_eq_true rfl) (qn_X2_countLeaving ⟨hm, hn1, hn4, hz6, hFo, hFl, hFg, hFt, hFp, hFq, hFd, hFs, hht⟩) ?_
    rintro r5 h5 ⟨rfl, v_3, rfl⟩
    show am_E _ (22, [vR 0, vI nn, vI t], [vI v_3], aq_h m s F c) _
    refine am_E.ret rfl rfl ?_
    exact ⟨_, rfl, (aq_sm0 (S := fun a => a < 527)), ⟨_, rfl⟩, hI⟩
  · refine am_E.go (t2 := (9, [vR 0, vI nn, vI t], [vI (-1)], aq_h m s F c)) rfl rfl ?_
    refine am_E.ret rfl rfl ?_
    exact ⟨_, rfl, (aq_sm0 (S := fun a => a < 527)), ⟨_, rfl⟩, hI⟩

theorem qn_X4_half {m s : Nat} {F : aq_F} {c : aq_C} (hC : sb_C m F) (hI : cl_I c) {nn t i p : Int} : am_E ac_X4_half (0, [vR 0, vI nn, vI t, vI i, vI p, vU], [], aq_h m s F c) (aq_Z m s F (fun a => a < 527) c (fun r d => aq_vi r ∧ cl_I d)) := by
  obtain ⟨hCm, hC0, hC1, hC2, hC3, ⟨hma4, hFa4, hFn4, hFp4, hFf4⟩, ⟨hmx, hFx, hFl, hFw⟩, hCs, hCb, hCh⟩ := id hC
  refine am_E.go (t2 := (1, [vR 0, vI nn, vI t, vI i, vI p, vU], [vI nn], aq_h m s F c)) rfl rfl ?_
  refine am_E.go (t2 := (2, [vR 0, vI nn, vI t, vI i, vI p, vU], [vI t, vI nn], aq_h m s F c)) rfl rfl ?_
  refine am_E.call rfl rfl rfl (Nat.le_of_ble_eq_true rfl) (qn_X4_isThrough) ?_
  rintro r5 h5 ⟨rfl, v_1, rfl, hv_1⟩
  show am_E _ (5, [vR 0, vI nn, vI t, vI i, vI p, vU], [vI v_1], aq_h m s F c) _
  refine ae_if0 rfl (fun (q_2 : v_1 = 0) => ?_) (fun (q_2 : v_1 ≠ 0) => ?_)
  · refine am_E.go (t2 := (20, [vR 0, vI nn, vI t, vI i, vI p, vU], [vI (-1)], aq_h m s F c)) rfl rfl ?_
    refine am_E.ret rfl rfl ?_
    exact ⟨_, rfl, (aq_sm0 (S := fun a => a < 527)), ⟨_, rfl⟩, hI⟩
  · refine am_E.go (t2 := (10, [vR 0, vI nn, vI t, vI i, vI p, vU], [vI p], aq_h m s F c)) rfl rfl ?_
    refine ae_if0 rfl (fun (q_3 : p < 0) => ?_) (fun (q_3 : 0 ≤ p) => ?_)
    · refine am_E.go (t2 := (20, [vR 0, vI nn, vI t, vI i, vI p, vU], [vI (-1)], aq_h m s F c)) rfl rfl ?_
      refine am_E.ret rfl rfl ?_
      exact ⟨_, rfl, (aq_sm0 (S := fun a => a < 527)), ⟨_, rfl⟩, hI⟩
    · refine am_E.go (t2 := (15, [vR 0, vI nn, vI t, vI i, vI p, vU], [vI p], aq_h m s F c)) rfl rfl ?_
      refine am_E.go (t2 := (16, [vR 0, vI nn, vI t, vI i, vI p, vU], [vI nn, vI p], aq_h m s F c)) rfl rfl ?_
      refine ae_icmp rfl (fun (q_4 : p < nn) => ?_) (fun (q_4 : nn ≤ p) => ?_)
      · refine am_E.go (t2 := (22, [vR 0, vI nn, vI t, vI i, vI p, vU], [vR 0], aq_h m s F c)) rfl rfl ?_
        refine aq_gf (v := vR 2) rfl (by omega) hC0 (by decide) rfl ?_
        show am_E _ (25, [vR 0, vI nn, vI t, vI i, vI p, vU], [vR 2], aq_h m s F c) _
        refine am_E.go (t2 := (26, [vR 0, vI nn, vI t, vI i, vI p, vU], [vI nn, vR 2], aq_h m s F c)) rfl rfl ?_
        refine am_E.go (t2 := (27, [vR 0, vI nn, vI t, vI i, vI p, vU], [vI 1, vI nn, vR 2], aq_h m s F c)) rfl rfl ?_
        refine ae_sub rfl (am_ri (by omega) (by omega)) ?_
        show am_E _ (28, [vR 0, vI nn, vI t, vI i, vI p, vU], [vI (nn - 1), vR 2], aq_h m s F c) _
        obtain ⟨o, n, e_o, e_n, z, tl, th, ⟨hm, hn1, hn4, hz6, hFo, hFl, hFg, hFt, hFp, hFq, hFd, hFs, hht⟩, hve⟩ := sb_half hC (i := (nn - 1)) (by omega) (by omega)
        have hb := sb_hnd 0 (by omega) ((nn - 1)).toNat (by omega)
        rw [e_o] at hb
        refine aq_al (ok := fun k => decide (3 ≤ k) && decide (k < 7)) (v := vR o) rfl rfl (by omega) hC2 rfl (by omega) (by omega) (aq_gi2 (by omega) e_o) ?_
        show am_E _ (29, [vR 0, vI nn, vI t, vI i, vI p, vU], [vR o], aq_h m s F c) _
        refine am_E.go (t2 := (30, [vR 0, vI nn, vI t, vI i, vI p, vU], [vI t, vR o], aq_h m s F c)) rfl rfl ?_
        refine am_E.go (t2 := (31, [vR 0, vI nn, vI t, vI i, vI p, vU], [vI i, vI t, vR o], aq_h m s F c)) rfl rfl ?_
        refine aq_callv (y := 3) (as2 := [vI t, vI i]) (rest := []) rfl rfl (by decide) (Nat.le_of_ble_eq_true rfl) rfl rfl (Nat.le_of_ble_eq_true rfl) (by omega) hFo rfl (Nat.le_of_ble_eq_true rfl) (qn_X2_find ⟨hm, hn1, hn4, hz6, hFo, hFl, hFg, hFt, hFp, hFq, hFd, hFs, hht⟩) ?_
        rintro r5 h5 ⟨rfl, v_5, rfl, hv_5⟩
        show am_E _ (34, [vR 0, vI nn, vI t, vI i, vI p, vU], [vI v_5], aq_h m s F c) _
        refine am_E.go (t2 := (36, [vR 0, vI nn, vI t, vI i, vI p, vI v_5], [], aq_h m s F c)) rfl rfl ?_
        refine am_E.go (t2 := (38, [vR 0, vI nn, vI t, vI i, vI p, vI v_5], [vI v_5], aq_h m s F c)) rfl rfl ?_
        refine ae_if0 rfl (fun (q_6 : 0 ≤ v_5) => ?_) (fun (q_6 : v_5 < 0) => ?_)
        · refine am_E.go (t2 := (47, [vR 0, vI nn, vI t, vI i, vI p, vI v_5], [vR 0], aq_h m s F c)) rfl rfl ?_
          refine aq_gf (v := vR 2) rfl (by omega) hC0 (by decide) rfl ?_
          show am_E _ (50, [vR 0, vI nn, vI t, vI i, vI p, vI v_5], [vR 2], aq_h m s F c) _
          refine am_E.go (t2 := (51, [vR 0, vI nn, vI t, vI i, vI p, vI v_5], [vI nn, vR 2], aq_h m s F c)) rfl rfl ?_
          refine am_E.go (t2 := (52, [vR 0, vI nn, vI t, vI i, vI p, vI v_5], [vI 1, vI nn, vR 2], aq_h m s F c)) rfl rfl ?_
          refine ae_sub rfl (am_ri (by omega) (by omega)) ?_
          show am_E _ (53, [vR 0, vI nn, vI t, vI i, vI p, vI v_5], [vI (nn - 1), vR 2], aq_h m s F c) _
          refine aq_al (ok := fun k => decide (3 ≤ k) && decide (k < 7)) (v := vR o) rfl rfl (by omega) hC2 rfl (by omega) (by omega) (aq_gi2 (by omega) e_o) ?_
          show am_E _ (54, [vR 0, vI nn, vI t, vI i, vI p, vI v_5], [vR o], aq_h m s F c) _
          refine aq_gf (v := vR (o + 9)) rfl (by omega) hFo (by decide) rfl ?_
          show am_E _ (57, [vR 0, vI nn, vI t, vI i, vI p, vI v_5], [vR (o + 9)], aq_h m s F c) _
          refine am_E.go (t2 := (59, [vR 0, vI nn, vI t, vI i, vI p, vI v_5], [vI v_5, vR (o + 9)], aq_h m s F c)) rfl rfl ?_
          refine aq_al (ok := fun k => decide (3 ≤ k) && decide (k < 7)) (v := vR (o + 10 + v_5.toNat)) rfl rfl (by omega) hFp rfl (by omega) (by omega) (aq_gi (by omega)) ?_
          show am_E _ (60, [vR 0, vI nn, vI t, vI i, vI p, vI v_5], [vR (o + 10 + v_5.toNat)], aq_h m s F c) _
          refine am_E.go (t2 := (62, [vR 0, vI nn, vI t, vI i, vI p, vI v_5], [vI p, vR (o + 10 + v_5.toNat)], aq_h m s F c)) rfl rfl ?_
          refine aq_alt (ok := fun k => k == 0) rfl rfl (by omega) (hFq _ (by omega)) rfl (by omega) (by omega) ?_
          show am_E _ (63, [vR 0, vI nn, vI t, vI i, vI p, vI v_5], [vI (th ((v_5.toNat : Nat) : Int) p)], aq_h m s F c) _
          have f_7 := hht ((v_5.toNat : Nat) : Int) p (by omega) (by omega) (by omega) (by omega)
          refine am_E.ret rfl rfl ?_
          exact ⟨_, rfl, (aq_sm0 (S := fun a => a < 527)), ⟨_, rfl⟩, hI⟩
        · refine am_E.go (t2 := (43, [vR 0, vI nn, vI t, vI i, vI p, vI v_5], [vI (-4)], aq_h m s F c)) rfl rfl ?_
          refine am_E.go (t2 := (63, [vR 0, vI nn, vI t, vI i, vI p, vI v_5], [vI (-4)], aq_h m s F c)) rfl rfl ?_
          refine am_E.ret rfl rfl ?_
          exact ⟨_, rfl, (aq_sm0 (S := fun a => a < 527)), ⟨_, rfl⟩, hI⟩
      · refine am_E.go (t2 := (20, [vR 0, vI nn, vI t, vI i, vI p, vU], [vI (-1)], aq_h m s F c)) rfl rfl ?_
        refine am_E.ret rfl rfl ?_
        exact ⟨_, rfl, (aq_sm0 (S := fun a => a < 527)), ⟨_, rfl⟩, hI⟩

theorem qn_X4_form {m s : Nat} {F : aq_F} {c : aq_C} (hC : sb_C m F) (hI : cl_I c) {nn t i j : Int} : am_E ac_X4_form (0, [vR 0, vI nn, vI t, vI i, vI j, vU, vU], [], aq_h m s F c) (aq_Z m s F (fun a => a < 527) c (fun r d => aq_vi r ∧ cl_I d)) := by
  obtain ⟨hCm, hC0, hC1, hC2, hC3, ⟨hma4, hFa4, hFn4, hFp4, hFf4⟩, ⟨hmx, hFx, hFl, hFw⟩, hCs, hCb, hCh⟩ := id hC
  refine am_E.go (t2 := (1, [vR 0, vI nn, vI t, vI i, vI j, vU, vU], [vI nn], aq_h m s F c)) rfl rfl ?_
  refine am_E.go (t2 := (2, [vR 0, vI nn, vI t, vI i, vI j, vU, vU], [vI t, vI nn], aq_h m s F c)) rfl rfl ?_
  refine am_E.call rfl rfl rfl (Nat.le_of_ble_eq_true rfl) (qn_X4_isThrough) ?_
  rintro r5 h5 ⟨rfl, v_1, rfl, hv_1⟩
  show am_E _ (5, [vR 0, vI nn, vI t, vI i, vI j, vU, vU], [vI v_1], aq_h m s F c) _
  refine ae_if0 rfl (fun (q_2 : v_1 ≠ 0) => ?_) (fun (q_2 : v_1 = 0) => ?_)
  · refine am_E.go (t2 := (11, [vR 0, vI nn, vI t, vI i, vI j, vU, vU], [vR 0], aq_h m s F c)) rfl rfl ?_
    refine aq_gf (v := vR 2) rfl (by omega) hC0 (by decide) rfl ?_
    show am_E _ (14, [vR 0, vI nn, vI t, vI i, vI j, vU, vU], [vR 2], aq_h m s F c) _
    refine am_E.go (t2 := (15, [vR 0, vI nn, vI t, vI i, vI j, vU, vU], [vI nn, vR 2], aq_h m s F c)) rfl rfl ?_
    refine am_E.go (t2 := (16, [vR 0, vI nn, vI t, vI i, vI j, vU, vU], [vI 1, vI nn, vR 2], aq_h m s F c)) rfl rfl ?_
    refine ae_sub rfl (am_ri (by omega) (by omega)) ?_
    show am_E _ (17, [vR 0, vI nn, vI t, vI i, vI j, vU, vU], [vI (nn - 1), vR 2], aq_h m s F c) _
    obtain ⟨o, n, e_o, e_n, z, tl, th, ⟨hm, hn1, hn4, hz6, hFo, hFl, hFg, hFt, hFp, hFq, hFd, hFs, hht⟩, hve⟩ := sb_half hC (i := (nn - 1)) (by omega) (by omega)
    have hb := sb_hnd 0 (by omega) ((nn - 1)).toNat (by omega)
    rw [e_o] at hb
    refine aq_al (ok := fun k => decide (3 ≤ k) && decide (k < 7)) (v := vR o) rfl rfl (by omega) hC2 rfl (by omega) (by omega) (aq_gi2 (by omega) e_o) ?_
    show am_E _ (18, [vR 0, vI nn, vI t, vI i, vI j, vU, vU], [vR o], aq_h m s F c) _
    refine am_E.go (t2 := (19, [vR 0, vI nn, vI t, vI i, vI j, vU, vU], [vI t, vR o], aq_h m s F c)) rfl rfl ?_
    refine am_E.go (t2 := (20, [vR 0, vI nn, vI t, vI i, vI j, vU, vU], [vI i, vI t, vR o], aq_h m s F c)) rfl rfl ?_
    refine aq_callv (y := 3) (as2 := [vI t, vI i]) (rest := []) rfl rfl (by decide) (Nat.le_of_ble_eq_true rfl) rfl rfl (Nat.le_of_ble_eq_true rfl) (by omega) hFo rfl (Nat.le_of_ble_eq_true rfl) (qn_X2_find ⟨hm, hn1, hn4, hz6, hFo, hFl, hFg, hFt, hFp, hFq, hFd, hFs, hht⟩) ?_
    rintro r5 h5 ⟨rfl, v_3, rfl, hv_3⟩
    show am_E _ (23, [vR 0, vI nn, vI t, vI i, vI j, vU, vU], [vI v_3], aq_h m s F c) _
    refine am_E.go (t2 := (25, [vR 0, vI nn, vI t, vI i, vI j, vI v_3, vU], [], aq_h m s F c)) rfl rfl ?_
    refine am_E.go (t2 := (26, [vR 0, vI nn, vI t, vI i, vI j, vI v_3, vU], [vR 0], aq_h m s F c)) rfl rfl ?_
    refine aq_gf (v := vR 2) rfl (by omega) hC0 (by decide) rfl ?_
    show am_E _ (29, [vR 0, vI nn, vI t, vI i, vI j, vI v_3, vU], [vR 2], aq_h m s F c) _
    refine am_E.go (t2 := (30, [vR 0, vI nn, vI t, vI i, vI j, vI v_3, vU], [vI nn, vR 2], aq_h m s F c)) rfl rfl ?_
    refine am_E.go (t2 := (31, [vR 0, vI nn, vI t, vI i, vI j, vI v_3, vU], [vI 1, vI nn, vR 2], aq_h m s F c)) rfl rfl ?_
    refine ae_sub rfl (am_ri (by omega) (by omega)) ?_
    show am_E _ (32, [vR 0, vI nn, vI t, vI i, vI j, vI v_3, vU], [vI (nn - 1), vR 2], aq_h m s F c) _
    refine aq_al (ok := fun k => decide (3 ≤ k) && decide (k < 7)) (v := vR o) rfl rfl (by omega) hC2 rfl (by omega) (by omega) (aq_gi2 (by omega) e_o) ?_
    show am_E _ (33, [vR 0, vI nn, vI t, vI i, vI j, vI v_3, vU], [vR o], aq_h m s F c) _
    refine am_E.go (t2 := (34, [vR 0, vI nn, vI t, vI i, vI j, vI v_3, vU], [vI t, vR o], aq_h m s F c)) rfl rfl ?_
    refine am_E.go (t2 := (36, [vR 0, vI nn, vI t, vI i, vI j, vI v_3, vU], [vI j, vI t, vR o], aq_h m s F c)) rfl rfl ?_
    refine aq_callv (y := 3) (as2 := [vI t, vI j]) (rest := []) rfl rfl (by decide) (Nat.le_of_ble_eq_true rfl) rfl rfl (Nat.le_of_ble_eq_true rfl) (by omega) hFo rfl (Nat.le_of_ble_eq_true rfl) (qn_X2_find ⟨hm, hn1, hn4, hz6, hFo, hFl, hFg, hFt, hFp, hFq, hFd, hFs, hht⟩) ?_
    rintro r5 h5 ⟨rfl, v_4, rfl, hv_4⟩
    show am_E _ (39, [vR 0, vI nn, vI t, vI i, vI j, vI v_3, vU], [vI v_4], aq_h m s F c) _
    refine am_E.go (t2 := (41, [vR 0, vI nn, vI t, vI i, vI j, vI v_3, vI v_4], [], aq_h m s F c)) rfl rfl ?_
    refine am_E.go (t2 := (43, [vR 0, vI nn, vI t, vI i, vI j, vI v_3, vI v_4], [vI v_3], aq_h m s F c)) rfl rfl ?_
    refine ae_if0 rfl (fun (q_5 : v_3 < 0) => ?_) (fun (q_5 : 0 ≤ v_3) => ?_)
    · refine am_E.go (t2 := (52, [vR 0, vI nn, vI t, vI i, vI j, vI v_3, vI v_4], [vI (-1)], aq_h m s F c)) rfl rfl ?_
      refine am_E.ret rfl rfl ?_
      exact ⟨_, rfl, (aq_sm0 (S := fun a => a < 527)), ⟨_, rfl⟩, hI⟩
    · refine am_E.go (t2 := (48, [vR 0, vI nn, vI t, vI i, vI j, vI v_3, vI v_4], [vI v_4], aq_h m s F c)) rfl rfl ?_
      refine ae_if0 rfl (fun (q_6 : 0 ≤ v_4) => ?_) (fun (q_6 : v_4 < 0) => ?_)
      · refine am_E.go (t2 := (54, [vR 0, vI nn, vI t, vI i, vI j, vI v_3, vI v_4], [vR 0], aq_h m s F c)) rfl rfl ?_
        refine aq_gf (v := vR 2) rfl (by omega) hC0 (by decide) rfl ?_
        show am_E _ (57, [vR 0, vI nn, vI t, vI i, vI j, vI v_3, vI v_4], [vR 2], aq_h m s F c) _
        refine am_E.go (t2 := (58, [vR 0, vI nn, vI t, vI i, vI j, vI v_3, vI v_4], [vI nn, vR 2], aq_h m s F c)) rfl rfl ?_
        refine am_E.go (t2 := (59, [vR 0, vI nn, vI t, vI i, vI j, vI v_3, vI v_4], [vI 1, vI nn, vR 2], aq_h m s F c)) rfl rfl ?_
        refine ae_sub rfl (am_ri (by omega) (by omega)) ?_
        show am_E _ (60, [vR 0, vI nn, vI t, vI i, vI j, vI v_3, vI v_4], [vI (nn - 1), vR 2], aq_h m s F c) _
        refine aq_al (ok := fun k => decide (3 ≤ k) && decide (k < 7)) (v := vR o) rfl rfl (by omega) hC2 rfl (by omega) (by omega) (aq_gi2 (by omega) e_o) ?_
        show am_E _ (61, [vR 0, vI nn, vI t, vI i, vI j, vI v_3, vI v_4], [vR o], aq_h m s F c) _
        refine am_E.go (t2 := (63, [vR 0, vI nn, vI t, vI i, vI j, vI v_3, vI v_4], [vI v_3, vR o], aq_h m s F c)) rfl rfl ?_
        refine am_E.go (t2 := (65, [vR 0, vI nn, vI t, vI i, vI j, vI v_3, vI v_4], [vI v_4, vI v_3, vR o], aq_h m s F c)) rfl rfl ?_
        refine aq_callv (y := 3) (as2 := [vI v_3, vI v_4]) (rest := []) rfl rfl (by decide) (Nat.le_of_ble_eq_true rfl) rfl rfl (Nat.le_of_ble_eq_true rfl) (by omega) hFo rfl (Nat.le_of_ble_eq_true rfl) (qn_X2_lay (S := fun a => o ≤ a ∧ a < o + 18) ⟨hm, hn1, hn4, hz6, hFo, hFl, hFg, hFt, hFp, hFq, hFd, hFs, hht⟩ (by omega) (by omega) (by omega) (by omega) (by omega) (by omega)) ?_
        rintro r5 h5 ⟨c_b, rfl, s_b, v_b, rfl, hv_b⟩
        show am_E _ (68, [vR 0, vI nn, vI t, vI i, vI j, vI v_3, vI v_4], [vI v_b], aq_h m s F c_b) _
        refine am_E.ret rfl rfl ?_
        exact ⟨_, rfl, (aq_smt (aq_sm0 (S := fun a => a < 527)) (aq_smi s_b (fun a h => by omega))), ⟨_, rfl⟩, cl_h hI (j := ((nn - 1)).toNat) (by omega) (by rw [e_o]; exact s_b)⟩
      · refine am_E.go (t2 := (52, [vR 0, vI nn, vI t, vI i, vI j, vI v_3, vI v_4], [vI (-1)], aq_h m s F c)) rfl rfl ?_
        refine am_E.ret rfl rfl ?_
        exact ⟨_, rfl, (aq_sm0 (S := fun a => a < 527)), ⟨_, rfl⟩, hI⟩
  · refine am_E.go (t2 := (9, [vR 0, vI nn, vI t, vI i, vI j, vU, vU], [vI (-1)], aq_h m s F c)) rfl rfl ?_
    refine am_E.ret rfl rfl ?_
    exact ⟨_, rfl, (aq_sm0 (S := fun a => a < 527)), ⟨_, rfl⟩, hI⟩

theorem qn_X4_free {m s : Nat} {F : aq_F} {c : aq_C} (hC : sb_C m F) (hI : cl_I c) {nn t v p : Int} : am_E ac_X4_free (0, [vR 0, vI nn, vI t, vI v, vI p], [], aq_h m s F c) (aq_Z m s F (fun a => a < 527) c (fun r d => aq_vi r ∧ cl_I d)) := by
  obtain ⟨hCm, hC0, hC1, hC2, hC3, ⟨hma4, hFa4, hFn4, hFp4, hFf4⟩, ⟨hmx, hFx, hFl, hFw⟩, hCs, hCb, hCh⟩ := id hC
  refine am_E.go (t2 := (1, [vR 0, vI nn, vI t, vI v, vI p], [vI nn], aq_h m s F c)) rfl rfl ?_
  refine am_E.go (t2 := (2, [vR 0, vI nn, vI t, vI v, vI p], [vI t, vI nn], aq_h m s F c)) rfl rfl ?_
  refine am_E.call rfl rfl rfl (Nat.le_of_ble_eq_true rfl) (qn_X4_isThrough) ?_
  rintro r5 h5 ⟨rfl, v_1, rfl, hv_1⟩
  show am_E _ (5, [vR 0, vI nn, vI t, vI v, vI p], [vI v_1], aq_h m s F c) _
  refine ae_if0 rfl (fun (q_2 : v_1 = 0) => ?_) (fun (q_2 : v_1 ≠ 0) => ?_)
  · refine am_E.go (t2 := (31, [vR 0, vI nn, vI t, vI v, vI p], [vI (-1)], aq_h m s F c)) rfl rfl ?_
    refine am_E.ret rfl rfl ?_
    exact ⟨_, rfl, (aq_sm0 (S := fun a => a < 527)), ⟨_, rfl⟩, hI⟩
  · refine am_E.go (t2 := (9, [vR 0, vI nn, vI t, vI v, vI p], [vI v], aq_h m s F c)) rfl rfl ?_
    refine am_E.go (t2 := (12, [vR 0, vI nn, vI t, vI v, vI p], [vI (-1000), vI v], aq_h m s F c)) rfl rfl ?_
    refine ae_icmp rfl (fun (q_3 : v < (-1000)) => ?_) (fun (q_3 : (-1000) ≤ v) => ?_)
    · refine am_E.go (t2 := (31, [vR 0, vI nn, vI t, vI v, vI p], [vI (-1)], aq_h m s F c)) rfl rfl ?_
      refine am_E.ret rfl rfl ?_
      exact ⟨_, rfl, (aq_sm0 (S := fun a => a < 527)), ⟨_, rfl⟩, hI⟩
    · refine am_E.go (t2 := (16, [vR 0, vI nn, vI t, vI v, vI p], [vI v], aq_h m s F c)) rfl rfl ?_
      refine am_E.go (t2 := (19, [vR 0, vI nn, vI t, vI v, vI p], [vI 1000, vI v], aq_h m s F c)) rfl rfl ?_
      refine ae_icmp rfl (fun (q_4 : 1000 < v) => ?_) (fun (q_4 : v ≤ 1000) => ?_)
      · refine am_E.go (t2 := (31, [vR 0, vI nn, vI t, vI v, vI p], [vI (-1)], aq_h m s F c)) rfl rfl ?_
        refine am_E.ret rfl rfl ?_
        exact ⟨_, rfl, (aq_sm0 (S := fun a => a < 527)), ⟨_, rfl⟩, hI⟩
      · refine am_E.go (t2 := (24, [vR 0, vI nn, vI t, vI v, vI p], [vI p], aq_h m s F c)) rfl rfl ?_
        refine am_E.call rfl rfl rfl (Nat.le_of_ble_eq_true rfl) (qn_X4_isPrime) ?_
        rintro r5 h5 ⟨rfl, v_5, rfl, hv_5⟩
        show am_E _ (27, [vR 0, vI nn, vI t, vI v, vI p], [vI v_5], aq_h m s F c) _
        refine ae_if0 rfl (fun (q_6 : v_5 ≠ 0) => ?_) (fun (q_6 : v_5 = 0) => ?_)
        · refine am_E.go (t2 := (33, [vR 0, vI nn, vI t, vI v, vI p], [vR 0], aq_h m s F c)) rfl rfl ?_
          refine aq_gf (v := vR 2) rfl (by omega) hC0 (by decide) rfl ?_
          show am_E _ (36, [vR 0, vI nn, vI t, vI v, vI p], [vR 2], aq_h m s F c) _
          refine am_E.go (t2 := (37, [vR 0, vI nn, vI t, vI v, vI p], [vI nn, vR 2], aq_h m s F c)) rfl rfl ?_
          refine am_E.go (t2 := (38, [vR 0, vI nn, vI t, vI v, vI p], [vI 1, vI nn, vR 2], aq_h m s F c)) rfl rfl ?_
          refine ae_sub rfl (am_ri (by omega) (by omega)) ?_
          show am_E _ (39, [vR 0, vI nn, vI t, vI v, vI p], [vI (nn - 1), vR 2], aq_h m s F c) _
          obtain ⟨o, n, e_o, e_n, z, tl, th, ⟨hm, hn1, hn4, hz6, hFo, hFl, hFg, hFt, hFp, hFq, hFd, hFs, hht⟩, hve⟩ := sb_half hC (i := (nn - 1)) (by omega) (by omega)
          have hb := sb_hnd 0 (by omega) ((nn - 1)).toNat (by omega)
          rw [e_o] at hb
          refine aq_al (ok := fun k => decide (3 ≤ k) && decide (k < 7)) (v := vR o) rfl rfl (by omega) hC2 rfl (by omega) (by omega) (aq_gi2 (by omega) e_o) ?_
          show am_E _ (40, [vR 0, vI nn, vI t, vI v, vI p], [vR o], aq_h m s F c) _
          refine am_E.go (t2 := (41, [vR 0, vI nn, vI t, vI v, vI p], [vI t, vR o], aq_h m s F c)) rfl rfl ?_
          refine am_E.go (t2 := (42, [vR 0, vI nn, vI t, vI v, vI p], [vI v, vI t, vR o], aq_h m s F c)) rfl rfl ?_
          refine am_E.go (t2 := (44, [vR 0, vI nn, vI t, vI v, vI p], [vI p, vI v, vI t, vR o], aq_h m s F c)) rfl rfl ?_
          refine aq_callv (y := 4) (as2 := [vI t, vI v, vI p]) (rest := []) rfl rfl (by decide) (Nat.le_of_ble_eq_true rfl) rfl rfl (Nat.le_of_ble_eq_true rfl) (by omega) hFo rfl (Nat.le_of_ble_eq_true rfl) (qn_X2_rank (S := fun a => o ≤ a ∧ a < o + 18) ⟨hm, hn1, hn4, hz6, hFo, hFl, hFg, hFt, hFp, hFq, hFd, hFs, hht⟩ (by omega) (by omega) (by omega)) ?_
          rintro r5 h5 ⟨c_b, rfl, s_b, v_b, rfl⟩
          show am_E _ (47, [vR 0, vI nn, vI t, vI v, vI p], [vI v_b], aq_h m s F c_b) _
          refine am_E.ret rfl rfl ?_
          exact ⟨_, rfl, (aq_smt (aq_sm0 (S := fun a => a < 527)) (aq_smi s_b (fun a h => by omega))), ⟨_, rfl⟩, cl_h hI (j := ((nn - 1)).toNat) (by omega) (by rw [e_o]; exact s_b)⟩
        · refine am_E.go (t2 := (31, [vR 0, vI nn, vI t, vI v, vI p], [vI (-1)], aq_h m s F c)) rfl rfl ?_
          refine am_E.ret rfl rfl ?_
          exact ⟨_, rfl, (aq_sm0 (S := fun a => a < 527)), ⟨_, rfl⟩, hI⟩

theorem qn_X4_clear {m s : Nat} {F : aq_F} {c : aq_C} (hC : sb_C m F) (hI : cl_I c) {sa nn : Int} : am_E ac_X4_clear (0, [vR 0, vI sa, vI nn, vU], [], aq_h m s F c) (aq_Z m s F (fun a => a < 527) c (fun r d => aq_vi r ∧ cl_I d)) := by
  obtain ⟨hCm, hC0, hC1, hC2, hC3, ⟨hma4, hFa4, hFn4, hFp4, hFf4⟩, ⟨hmx, hFx, hFl, hFw⟩, hCs, hCb, hCh⟩ := id hC
  refine am_E.go (t2 := (1, [vR 0, vI sa, vI nn, vU], [vI sa], aq_h m s F c)) rfl rfl ?_
  refine am_E.call rfl rfl rfl (Nat.le_of_ble_eq_true rfl) (qn_X4_isSum) ?_
  rintro r5 h5 ⟨rfl, v_1, rfl, hv_1⟩
  show am_E _ (4, [vR 0, vI sa, vI nn, vU], [vI v_1], aq_h m s F c) _
  refine ae_if0 rfl (fun (q_2 : v_1 = 0) => ?_) (fun (q_2 : v_1 ≠ 0) => ?_)
  · refine am_E.go (t2 := (15, [vR 0, vI sa, vI nn, vU], [vI (-1)], aq_h m s F c)) rfl rfl ?_
    refine am_E.ret rfl rfl ?_
    exact ⟨_, rfl, (aq_sm0 (S := fun a => a < 527)), ⟨_, rfl⟩, hI⟩
  · refine am_E.go (t2 := (8, [vR 0, vI sa, vI nn, vU], [vI nn], aq_h m s F c)) rfl rfl ?_
    refine am_E.call rfl rfl rfl (Nat.le_of_ble_eq_true rfl) (qn_X4_isStrands) ?_
    rintro r5 h5 ⟨rfl, v_3, rfl, hv_3⟩
    show am_E _ (11, [vR 0, vI sa, vI nn, vU], [vI v_3], aq_h m s F c) _
    refine ae_if0 rfl (fun (q_4 : v_3 ≠ 0) => ?_) (fun (q_4 : v_3 = 0) => ?_)
    · refine am_E.go (t2 := (17, [vR 0, vI sa, vI nn, vU], [vR 0], aq_h m s F c)) rfl rfl ?_
      refine aq_gf (v := vR 3) rfl (by omega) hC0 (by decide) rfl ?_
      show am_E _ (20, [vR 0, vI sa, vI nn, vU], [vR 3], aq_h m s F c) _
      refine am_E.go (t2 := (21, [vR 0, vI sa, vI nn, vU], [vI sa, vR 3], aq_h m s F c)) rfl rfl ?_
      obtain ⟨a, e_a⟩ : ∃ x, x = 495 + 4 * (sa).toNat := ⟨_, rfl⟩
      obtain ⟨hmaa, hFaa, hFna, hFpa, hFfa⟩ : su_0 m F a := by rw [e_a]; exact hCs _ (by omega)
      obtain ⟨hu0a, hu4a, hka⟩ : sb_u a c := by rw [e_a]; exact hI.2.2 _ (by omega)
      have hk1a := hka.1
      have hk2a := hka.2.1
      refine aq_al (ok := fun k => decide (3 ≤ k) && decide (k < 7)) (v := vR a) rfl rfl (by omega) hC3 rfl (by omega) (by omega) (aq_gi2 (by omega) e_a.symm) ?_
      show am_E _ (22, [vR 0, vI sa, vI nn, vU], [vR a], aq_h m s F c) _
      refine aq_gf (v := vI (c a 1)) rfl (by omega) hFaa (by decide) rfl ?_
      show am_E _ (25, [vR 0, vI sa, vI nn, vU], [vI (c a 1)], aq_h m s F c) _
      refine am_E.go (t2 := (26, [vR 0, vI sa, vI nn, vI (c a 1)], [], aq_h m s F c)) rfl rfl ?_
      refine am_E.go (t2 := (27, [vR 0, vI sa, vI nn, vI (c a 1)], [vR 0], aq_h m s F c)) rfl rfl ?_
      refine aq_gf (v := vR 3) rfl (by omega) hC0 (by decide) rfl ?_
      show am_E _ (30, [vR 0, vI sa, vI nn, vI (c a 1)], [vR 3], aq_h m s F c) _
      refine am_E.go (t2 := (31, [vR 0, vI sa, vI nn, vI (c a 1)], [vI sa, vR 3], aq_h m s F c)) rfl rfl ?_
      refine aq_al (ok := fun k => decide (3 ≤ k) && decide (k < 7)) (v := vR a) rfl rfl (by omega) hC3 rfl (by omega) (by omega) (aq_gi2 (by omega) e_a.symm) ?_
      show am_E _ (32, [vR 0, vI sa, vI nn, vI (c a 1)], [vR a], aq_h m s F c) _
      refine am_E.go (t2 := (33, [vR 0, vI sa, vI nn, vI (c a 1)], [vI nn, vR a], aq_h m s F c)) rfl rfl ?_
      refine aq_callv (y := 2) (as2 := [vI nn]) (rest := []) rfl rfl (by decide) (Nat.le_of_ble_eq_true rfl) rfl rfl (Nat.le_of_ble_eq_true rfl) (by omega) hFaa rfl (Nat.le_of_ble_eq_true rfl) (qn_X3_begin (a := a) ⟨hmaa, hFaa, hFna, hFpa, hFfa⟩) ?_
      rintro r5 h5 ⟨c_b, rfl, s_b, rfl, hb0, hb1⟩
      show am_E _ (36, [vR 0, vI sa, vI nn, vI (c a 1)], [], aq_h m s F c_b) _
      refine am_E.go (t2 := (37, [vR 0, vI sa, vI nn, vI (c a 1)], [vI (c a 1)], aq_h m s F c_b)) rfl rfl ?_
      refine am_E.ret rfl rfl ?_
      exact ⟨_, rfl, (aq_smt (aq_sm0 (S := fun a => a < 527)) (aq_smi s_b (fun b h => by omega))), ⟨_, rfl⟩, cl_u hI (j := sa.toNat) (by omega) (by rw [← e_a]; exact s_b) (by rw [← e_a]; exact ⟨by omega, by omega, ⟨by omega, by omega, fun i h1 h2 => absurd h2 (by omega)⟩⟩)⟩
    · refine am_E.go (t2 := (15, [vR 0, vI sa, vI nn, vU], [vI (-1)], aq_h m s F c)) rfl rfl ?_
      refine am_E.ret rfl rfl ?_
      exact ⟨_, rfl, (aq_sm0 (S := fun a => a < 527)), ⟨_, rfl⟩, hI⟩

theorem qn_X4_add {m s : Nat} {F : aq_F} {c : aq_C} (hC : sb_C m F) (hI : cl_I c) {sa b p f : Int} : am_E ac_X4_add (0, [vR 0, vI sa, vI b, vI p, vL f, vU], [], aq_h m s F c) (aq_Z m s F (fun a => a < 527) c (fun r d => aq_vi r ∧ cl_I d)) := by
  obtain ⟨hCm, hC0, hC1, hC2, hC3, ⟨hma4, hFa4, hFn4, hFp4, hFf4⟩, ⟨hmx, hFx, hFl, hFw⟩, hCs, hCb, hCh⟩ := id hC
  refine am_E.go (t2 := (1, [vR 0, vI sa, vI b, vI p, vL f, vU], [vI sa], aq_h m s F c)) rfl rfl ?_
  refine am_E.call rfl rfl rfl (Nat.le_of_ble_eq_true rfl) (qn_X4_isSum) ?_
  rintro r5 h5 ⟨rfl, v_1, rfl, hv_1⟩
  show am_E _ (4, [vR 0, vI sa, vI b, vI p, vL f, vU], [vI v_1], aq_h m s F c) _
  refine ae_if0 rfl (fun (q_2 : v_1 = 0) => ?_) (fun (q_2 : v_1 ≠ 0) => ?_)
  · refine am_E.go (t2 := (35, [vR 0, vI sa, vI b, vI p, vL f, vU], [vI (-1)], aq_h m s F c)) rfl rfl ?_
    refine am_E.ret rfl rfl ?_
    exact ⟨_, rfl, (aq_sm0 (S := fun a => a < 527)), ⟨_, rfl⟩, hI⟩
  · refine am_E.go (t2 := (8, [vR 0, vI sa, vI b, vI p, vL f, vU], [vR 0], aq_h m s F c)) rfl rfl ?_
    refine am_E.go (t2 := (9, [vR 0, vI sa, vI b, vI p, vL f, vU], [vR 0, vR 0], aq_h m s F c)) rfl rfl ?_
    refine aq_gf (v := vR 3) rfl (by omega) hC0 (by decide) rfl ?_
    show am_E _ (12, [vR 0, vI sa, vI b, vI p, vL f, vU], [vR 3, vR 0], aq_h m s F c) _
    refine am_E.go (t2 := (13, [vR 0, vI sa, vI b, vI p, vL f, vU], [vI sa, vR 3, vR 0], aq_h m s F c)) rfl rfl ?_
    obtain ⟨a, e_a⟩ : ∃ x, x = 495 + 4 * (sa).toNat := ⟨_, rfl⟩
    obtain ⟨hmaa, hFaa, hFna, hFpa, hFfa⟩ : su_0 m F a := by rw [e_a]; exact hCs _ (by omega)
    obtain ⟨hu0a, hu4a, hka⟩ : sb_u a c := by rw [e_a]; exact hI.2.2 _ (by omega)
    have hk1a := hka.1
    have hk2a := hka.2.1
    refine aq_al (ok := fun k => decide (3 ≤ k) && decide (k < 7)) (v := vR a) rfl rfl (by omega) hC3 rfl (by omega) (by omega) (aq_gi2 (by omega) e_a.symm) ?_
    show am_E _ (14, [vR 0, vI sa, vI b, vI p, vL f, vU], [vR a, vR 0], aq_h m s F c) _
    refine aq_gf (v := vI (c a 0)) rfl (by omega) hFaa (by decide) rfl ?_
    show am_E _ (17, [vR 0, vI sa, vI b, vI p, vL f, vU], [vI (c a 0), vR 0], aq_h m s F c) _
    refine am_E.go (t2 := (18, [vR 0, vI sa, vI b, vI p, vL f, vU], [vI b, vI (c a 0), vR 0], aq_h m s F c)) rfl rfl ?_
    refine aq_callv (y := 3) (as2 := [vI (c a 0), vI b]) (rest := []) rfl rfl (by decide) (Nat.le_of_ble_eq_true rfl) rfl rfl (Nat.le_of_ble_eq_true rfl) (by omega) hC0 rfl (Nat.le_of_ble_eq_true rfl) (qn_X4_isBox hC) ?_
    rintro r5 h5 ⟨rfl, v_3, rfl, hv_3⟩
    show am_E _ (21, [vR 0, vI sa, vI b, vI p, vL f, vU], [vI v_3], aq_h m s F c) _
    refine ae_if0 rfl (fun (q_4 : v_3 = 0) => ?_) (fun (q_4 : v_3 ≠ 0) => ?_)
    · refine am_E.go (t2 := (35, [vR 0, vI sa, vI b, vI p, vL f, vU], [vI (-1)], aq_h m s F c)) rfl rfl ?_
      refine am_E.ret rfl rfl ?_
      exact ⟨_, rfl, (aq_sm0 (S := fun a => a < 527)), ⟨_, rfl⟩, hI⟩
    · refine am_E.go (t2 := (25, [vR 0, vI sa, vI b, vI p, vL f, vU], [vI p], aq_h m s F c)) rfl rfl ?_
      refine ae_if0 rfl (fun (q_5 : p < 0) => ?_) (fun (q_5 : 0 ≤ p) => ?_)
      · refine am_E.go (t2 := (35, [vR 0, vI sa, vI b, vI p, vL f, vU], [vI (-1)], aq_h m s F c)) rfl rfl ?_
        refine am_E.ret rfl rfl ?_
        exact ⟨_, rfl, (aq_sm0 (S := fun a => a < 527)), ⟨_, rfl⟩, hI⟩
      · refine am_E.go (t2 := (29, [vR 0, vI sa, vI b, vI p, vL f, vU], [vI p], aq_h m s F c)) rfl rfl ?_
        refine am_E.go (t2 := (31, [vR 0, vI sa, vI b, vI p, vL f, vU], [vI 20, vI p], aq_h m s F c)) rfl rfl ?_
        refine ae_icmp rfl (fun (q_6 : p ≤ 20) => ?_) (fun (q_6 : 20 < p) => ?_)
        · refine am_E.go (t2 := (38, [vR 0, vI sa, vI b, vI p, vL f, vU], [vL f], aq_h m s F c)) rfl rfl ?_
          refine am_E.go (t2 := (41, [vR 0, vI sa, vI b, vI p, vL f, vU], [vL (-1000000), vL f], aq_h m s F c)) rfl rfl ?_
          have ez_7 := am_lcf f (-1000000)
          refine am_E.go (t2 := (42, [vR 0, vI sa, vI b, vI p, vL f, vU], [vI (if f < (-1000000) then -1 else if f = (-1000000) then 0 else 1)], aq_h m s F c)) rfl rfl ?_
          generalize (if f < (-1000000) then -1 else if f = (-1000000) then 0 else 1) = z_7 at ez_7 ⊢
          refine ae_if0 rfl (fun (q_8 : z_7 < 0) => ?_) (fun (q_8 : 0 ≤ z_7) => ?_)
          · refine am_E.go (t2 := (55, [vR 0, vI sa, vI b, vI p, vL f, vU], [vI (-1)], aq_h m s F c)) rfl rfl ?_
            refine am_E.ret rfl rfl ?_
            exact ⟨_, rfl, (aq_sm0 (S := fun a => a < 527)), ⟨_, rfl⟩, hI⟩
          · refine am_E.go (t2 := (47, [vR 0, vI sa, vI b, vI p, vL f, vU], [vL f], aq_h m s F c)) rfl rfl ?_
            refine am_E.go (t2 := (50, [vR 0, vI sa, vI b, vI p, vL f, vU], [vL 1000000, vL f], aq_h m s F c)) rfl rfl ?_
            have ez_9 := am_lcf f 1000000
            refine am_E.go (t2 := (51, [vR 0, vI sa, vI b, vI p, vL f, vU], [vI (if f < 1000000 then -1 else if f = 1000000 then 0 else 1)], aq_h m s F c)) rfl rfl ?_
            generalize (if f < 1000000 then -1 else if f = 1000000 then 0 else 1) = z_9 at ez_9 ⊢
            refine ae_if0 rfl (fun (q_10 : z_9 ≤ 0) => ?_) (fun (q_10 : 0 < z_9) => ?_)
            · refine am_E.go (t2 := (57, [vR 0, vI sa, vI b, vI p, vL f, vU], [vR 0], aq_h m s F c)) rfl rfl ?_
              refine aq_gf (v := vR 3) rfl (by omega) hC0 (by decide) rfl ?_
              show am_E _ (60, [vR 0, vI sa, vI b, vI p, vL f, vU], [vR 3], aq_h m s F c) _
              refine am_E.go (t2 := (61, [vR 0, vI sa, vI b, vI p, vL f, vU], [vI sa, vR 3], aq_h m s F c)) rfl rfl ?_
              refine aq_al (ok := fun k => decide (3 ≤ k) && decide (k < 7)) (v := vR a) rfl rfl (by omega) hC3 rfl (by omega) (by omega) (aq_gi2 (by omega) e_a.symm) ?_
              show am_E _ (62, [vR 0, vI sa, vI b, vI p, vL f, vU], [vR a], aq_h m s F c) _
              refine am_E.go (t2 := (63, [vR 0, vI sa, vI b, vI p, vL f, vU], [vI b, vR a], aq_h m s F c)) rfl rfl ?_
              refine am_E.go (t2 := (64, [vR 0, vI sa, vI b, vI p, vL f, vU], [vI p, vI b, vR a], aq_h m s F c)) rfl rfl ?_
              refine am_E.go (t2 := (66, [vR 0, vI sa, vI b, vI p, vL f, vU], [vL f, vI p, vI b, vR a], aq_h m s F c)) rfl rfl ?_
              refine aq_callv (y := 4) (as2 := [vI b, vI p, vL f]) (rest := []) rfl rfl (by decide) (Nat.le_of_ble_eq_true rfl) rfl rfl (Nat.le_of_ble_eq_true rfl) (by omega) hFaa rfl (Nat.le_of_ble_eq_true rfl) (qn_X3_join (a := a) ⟨hmaa, hFaa, hFna, hFpa, hFfa⟩ (k := bx_K (c a 0)) (by omega) (by omega) hka) ?_
              rintro r5 h5 ⟨c_b, rfl, s_b, v_b, rfl, hv_b, e_b, hk_b⟩
              show am_E _ (69, [vR 0, vI sa, vI b, vI p, vL f, vU], [vI v_b], aq_h m s F c_b) _
              refine ae_if0 rfl (fun (q_11 : v_b = 0) => ?_) (fun (q_11 : v_b ≠ 0) => ?_)
              · refine am_E.go (t2 := (86, [vR 0, vI sa, vI b, vI p, vL f, vU], [vI (-5)], aq_h m s F c_b)) rfl rfl ?_
                refine am_E.ret rfl rfl ?_
                exact ⟨_, rfl, (aq_smt (aq_sm0 (S := fun a => a < 527)) (aq_smi s_b (fun b h => by omega))), ⟨_, rfl⟩, cl_u hI (j := sa.toNat) (by omega) (by rw [← e_a]; exact s_b) (by rw [← e_a]; exact ⟨by omega, by omega, by rw [e_b]; exact hk_b⟩)⟩
              · refine am_E.go (t2 := (73, [vR 0, vI sa, vI b, vI p, vL f, vU], [vR 0], aq_h m s F c_b)) rfl rfl ?_
                refine aq_gf (v := vR 3) rfl (by omega) hC0 (by decide) rfl ?_
                show am_E _ (76, [vR 0, vI sa, vI b, vI p, vL f, vU], [vR 3], aq_h m s F c_b) _
                refine am_E.go (t2 := (77, [vR 0, vI sa, vI b, vI p, vL f, vU], [vI sa, vR 3], aq_h m s F c_b)) rfl rfl ?_
                refine aq_al (ok := fun k => decide (3 ≤ k) && decide (k < 7)) (v := vR a) rfl rfl (by omega) hC3 rfl (by omega) (by omega) (aq_gi2 (by omega) e_a.symm) ?_
                show am_E _ (78, [vR 0, vI sa, vI b, vI p, vL f, vU], [vR a], aq_h m s F c_b) _
                refine aq_gf (v := vI (c_b a 1)) rfl (by omega) hFaa (by decide) rfl ?_
                show am_E _ (81, [vR 0, vI sa, vI b, vI p, vL f, vU], [vI (c_b a 1)], aq_h m s F c_b) _
                refine am_E.go (t2 := (86, [vR 0, vI sa, vI b, vI p, vL f, vU], [vI (c_b a 1)], aq_h m s F c_b)) rfl rfl ?_
                refine am_E.ret rfl rfl ?_
                exact ⟨_, rfl, (aq_smt (aq_sm0 (S := fun a => a < 527)) (aq_smi s_b (fun b h => by omega))), ⟨_, rfl⟩, cl_u hI (j := sa.toNat) (by omega) (by rw [← e_a]; exact s_b) (by rw [← e_a]; exact ⟨by omega, by omega, by rw [e_b]; exact hk_b⟩)⟩
            · refine am_E.go (t2 := (55, [vR 0, vI sa, vI b, vI p, vL f, vU], [vI (-1)], aq_h m s F c)) rfl rfl ?_
              refine am_E.ret rfl rfl ?_
              exact ⟨_, rfl, (aq_sm0 (S := fun a => a < 527)), ⟨_, rfl⟩, hI⟩
        · refine am_E.go (t2 := (35, [vR 0, vI sa, vI b, vI p, vL f, vU], [vI (-1)], aq_h m s F c)) rfl rfl ?_
          refine am_E.ret rfl rfl ?_
          exact ⟨_, rfl, (aq_sm0 (S := fun a => a < 527)), ⟨_, rfl⟩, hI⟩

theorem qn_X4_sum {m s : Nat} {F : aq_F} {c : aq_C} (hC : sb_C m F) (hI : cl_I c) {sa w : Int} : am_E ac_X4_sum (0, [vR 0, vI sa, vI w], [], aq_h m s F c) (aq_Z m s F (fun a => a < 527) c (fun r d => aq_vi r ∧ cl_I d)) := by
  obtain ⟨hCm, hC0, hC1, hC2, hC3, ⟨hma4, hFa4, hFn4, hFp4, hFf4⟩, ⟨hmx, hFx, hFl, hFw⟩, hCs, hCb, hCh⟩ := id hC
  refine am_E.go (t2 := (1, [vR 0, vI sa, vI w], [vI sa], aq_h m s F c)) rfl rfl ?_
  refine am_E.call rfl rfl rfl (Nat.le_of_ble_eq_true rfl) (qn_X4_isSum) ?_
  rintro r5 h5 ⟨rfl, v_1, rfl, hv_1⟩
  show am_E _ (4, [vR 0, vI sa, vI w], [vI v_1], aq_h m s F c) _
  refine ae_if0 rfl (fun (q_2 : v_1 = 0) => ?_) (fun (q_2 : v_1 ≠ 0) => ?_)
  · refine am_E.go (t2 := (17, [vR 0, vI sa, vI w], [vI (-1)], aq_h m s F c)) rfl rfl ?_
    refine am_E.ret rfl rfl ?_
    exact ⟨_, rfl, (aq_sm0 (S := fun a => a < 527)), ⟨_, rfl⟩, hI⟩
  · refine am_E.go (t2 := (8, [vR 0, vI sa, vI w], [vI w], aq_h m s F c)) rfl rfl ?_
    refine ae_if0 rfl (fun (q_3 : w < 0) => ?_) (fun (q_3 : 0 ≤ w) => ?_)
    · refine am_E.go (t2 := (17, [vR 0, vI sa, vI w], [vI (-1)], aq_h m s F c)) rfl rfl ?_
      refine am_E.ret rfl rfl ?_
      exact ⟨_, rfl, (aq_sm0 (S := fun a => a < 527)), ⟨_, rfl⟩, hI⟩
    · refine am_E.go (t2 := (12, [vR 0, vI sa, vI w], [vI w], aq_h m s F c)) rfl rfl ?_
      refine am_E.go (t2 := (13, [vR 0, vI sa, vI w], [vI 1, vI w], aq_h m s F c)) rfl rfl ?_
      refine ae_icmp rfl (fun (q_4 : w ≤ 1) => ?_) (fun (q_4 : 1 < w) => ?_)
      · refine am_E.go (t2 := (19, [vR 0, vI sa, vI w], [vI w], aq_h m s F c)) rfl rfl ?_
        refine ae_if0 rfl (fun (q_5 : w ≠ 0) => ?_) (fun (q_5 : w = 0) => ?_)
        · refine am_E.go (t2 := (35, [vR 0, vI sa, vI w], [vR 0], aq_h m s F c)) rfl rfl ?_
          refine aq_gf (v := vR 3) rfl (by omega) hC0 (by decide) rfl ?_
          show am_E _ (38, [vR 0, vI sa, vI w], [vR 3], aq_h m s F c) _
          refine am_E.go (t2 := (39, [vR 0, vI sa, vI w], [vI sa, vR 3], aq_h m s F c)) rfl rfl ?_
          obtain ⟨a, e_a⟩ : ∃ x, x = 495 + 4 * (sa).toNat := ⟨_, rfl⟩
          obtain ⟨hmaa, hFaa, hFna, hFpa, hFfa⟩ : su_0 m F a := by rw [e_a]; exact hCs _ (by omega)
          obtain ⟨hu0a, hu4a, hka⟩ : sb_u a c := by rw [e_a]; exact hI.2.2 _ (by omega)
          have hk1a := hka.1
          have hk2a := hka.2.1
          refine aq_al (ok := fun k => decide (3 ≤ k) && decide (k < 7)) (v := vR a) rfl rfl (by omega) hC3 rfl (by omega) (by omega) (aq_gi2 (by omega) e_a.symm) ?_
          show am_E _ (40, [vR 0, vI sa, vI w], [vR a], aq_h m s F c) _
          refine aq_gf (v := vI (c a 1)) rfl (by omega) hFaa (by decide) rfl ?_
          show am_E _ (43, [vR 0, vI sa, vI w], [vI (c a 1)], aq_h m s F c) _
          refine am_E.ret rfl rfl ?_
          exact ⟨_, rfl, (aq_sm0 (S := fun a => a < 527)), ⟨_, rfl⟩, hI⟩
        · refine am_E.go (t2 := (23, [vR 0, vI sa, vI w], [vR 0], aq_h m s F c)) rfl rfl ?_
          refine aq_gf (v := vR 3) rfl (by omega) hC0 (by decide) rfl ?_
          show am_E _ (26, [vR 0, vI sa, vI w], [vR 3], aq_h m s F c) _
          refine am_E.go (t2 := (27, [vR 0, vI sa, vI w], [vI sa, vR 3], aq_h m s F c)) rfl rfl ?_
          obtain ⟨a, e_a⟩ : ∃ x, x = 495 + 4 * (sa).toNat := ⟨_, rfl⟩
          obtain ⟨hmaa, hFaa, hFna, hFpa, hFfa⟩ : su_0 m F a := by rw [e_a]; exact hCs _ (by omega)
          obtain ⟨hu0a, hu4a, hka⟩ : sb_u a c := by rw [e_a]; exact hI.2.2 _ (by omega)
          have hk1a := hka.1
          have hk2a := hka.2.1
          refine aq_al (ok := fun k => decide (3 ≤ k) && decide (k < 7)) (v := vR a) rfl rfl (by omega) hC3 rfl (by omega) (by omega) (aq_gi2 (by omega) e_a.symm) ?_
          show am_E _ (28, [vR 0, vI sa, vI w], [vR a], aq_h m s F c) _
          refine aq_gf (v := vI (c a 0)) rfl (by omega) hFaa (by decide) rfl ?_
          show am_E _ (31, [vR 0, vI sa, vI w], [vI (c a 0)], aq_h m s F c) _
          refine am_E.go (t2 := (43, [vR 0, vI sa, vI w], [vI (c a 0)], aq_h m s F c)) rfl rfl ?_
          refine am_E.ret rfl rfl ?_
          exact ⟨_, rfl, (aq_sm0 (S := fun a => a < 527)), ⟨_, rfl⟩, hI⟩
      · refine am_E.go (t2 := (17, [vR 0, vI sa, vI w], [vI (-1)], aq_h m s F c)) rfl rfl ?_
        refine am_E.ret rfl rfl ?_
        exact ⟨_, rfl, (aq_sm0 (S := fun a => a < 527)), ⟨_, rfl⟩, hI⟩

theorem qn_X4_term {m s : Nat} {F : aq_F} {c : aq_C} (hC : sb_C m F) (hI : cl_I c) {sa i w : Int} : am_E ac_X4_term (0, [vR 0, vI sa, vI i, vI w, vU], [], aq_h m s F c) (aq_Z m s F (fun a => a < 527) c (fun r d => aq_vl r ∧ cl_I d)) := by
  obtain ⟨hCm, hC0, hC1, hC2, hC3, ⟨hma4, hFa4, hFn4, hFp4, hFf4⟩, ⟨hmx, hFx, hFl, hFw⟩, hCs, hCb, hCh⟩ := id hC
  refine am_E.go (t2 := (1, [vR 0, vI sa, vI i, vI w, vU], [vI sa], aq_h m s F c)) rfl rfl ?_
  refine am_E.call rfl rfl rfl (Nat.le_of_ble_eq_true rfl) (qn_X4_isSum) ?_
  rintro r5 h5 ⟨rfl, v_1, rfl, hv_1⟩
  show am_E _ (4, [vR 0, vI sa, vI i, vI w, vU], [vI v_1], aq_h m s F c) _
  refine ae_if0 rfl (fun (q_2 : v_1 = 0) => ?_) (fun (q_2 : v_1 ≠ 0) => ?_)
  · refine am_E.go (t2 := (23, [vR 0, vI sa, vI i, vI w, vU], [vL (-1000000000000001)], aq_h m s F c)) rfl rfl ?_
    refine am_E.ret rfl rfl ?_
    exact ⟨_, rfl, (aq_sm0 (S := fun a => a < 527)), ⟨_, rfl⟩, hI⟩
  · refine am_E.go (t2 := (8, [vR 0, vI sa, vI i, vI w, vU], [vI i], aq_h m s F c)) rfl rfl ?_
    refine ae_if0 rfl (fun (q_3 : i < 0) => ?_) (fun (q_3 : 0 ≤ i) => ?_)
    · refine am_E.go (t2 := (23, [vR 0, vI sa, vI i, vI w, vU], [vL (-1000000000000001)], aq_h m s F c)) rfl rfl ?_
      refine am_E.ret rfl rfl ?_
      exact ⟨_, rfl, (aq_sm0 (S := fun a => a < 527)), ⟨_, rfl⟩, hI⟩
    · refine am_E.go (t2 := (12, [vR 0, vI sa, vI i, vI w, vU], [vI w], aq_h m s F c)) rfl rfl ?_
      refine ae_if0 rfl (fun (q_4 : w < 0) => ?_) (fun (q_4 : 0 ≤ w) => ?_)
      · refine am_E.go (t2 := (23, [vR 0, vI sa, vI i, vI w, vU], [vL (-1000000000000001)], aq_h m s F c)) rfl rfl ?_
        refine am_E.ret rfl rfl ?_
        exact ⟨_, rfl, (aq_sm0 (S := fun a => a < 527)), ⟨_, rfl⟩, hI⟩
      · refine am_E.go (t2 := (16, [vR 0, vI sa, vI i, vI w, vU], [vI w], aq_h m s F c)) rfl rfl ?_
        refine am_E.go (t2 := (17, [vR 0, vI sa, vI i, vI w, vU], [vI 2, vI w], aq_h m s F c)) rfl rfl ?_
        refine ae_icmp rfl (fun (q_5 : w ≤ 2) => ?_) (fun (q_5 : 2 < w) => ?_)
        · refine am_E.go (t2 := (25, [vR 0, vI sa, vI i, vI w, vU], [vR 0], aq_h m s F c)) rfl rfl ?_
          refine aq_gf (v := vR 3) rfl (by omega) hC0 (by decide) rfl ?_
          show am_E _ (28, [vR 0, vI sa, vI i, vI w, vU], [vR 3], aq_h m s F c) _
          refine am_E.go (t2 := (29, [vR 0, vI sa, vI i, vI w, vU], [vI sa, vR 3], aq_h m s F c)) rfl rfl ?_
          obtain ⟨a, e_a⟩ : ∃ x, x = 495 + 4 * (sa).toNat := ⟨_, rfl⟩
          obtain ⟨hmaa, hFaa, hFna, hFpa, hFfa⟩ : su_0 m F a := by rw [e_a]; exact hCs _ (by omega)
          obtain ⟨hu0a, hu4a, hka⟩ : sb_u a c := by rw [e_a]; exact hI.2.2 _ (by omega)
          have hk1a := hka.1
          have hk2a := hka.2.1
          refine aq_al (ok := fun k => decide (3 ≤ k) && decide (k < 7)) (v := vR a) rfl rfl (by omega) hC3 rfl (by omega) (by omega) (aq_gi2 (by omega) e_a.symm) ?_
          show am_E _ (30, [vR 0, vI sa, vI i, vI w, vU], [vR a], aq_h m s F c) _
          refine am_E.go (t2 := (32, [vR 0, vI sa, vI i, vI w, vR a], [], aq_h m s F c)) rfl rfl ?_
          refine am_E.go (t2 := (33, [vR 0, vI sa, vI i, vI w, vR a], [vI i], aq_h m s F c)) rfl rfl ?_
          refine am_E.go (t2 := (35, [vR 0, vI sa, vI i, vI w, vR a], [vR a, vI i], aq_h m s F c)) rfl rfl ?_
          refine aq_gf (v := vI (c a 1)) rfl (by omega) hFaa (by decide) rfl ?_
          show am_E _ (38, [vR 0, vI sa, vI i, vI w, vR a], [vI (c a 1), vI i], aq_h m s F c) _
          refine ae_icmp rfl (fun (q_6 : i < (c a 1)) => ?_) (fun (q_6 : (c a 1) ≤ i) => ?_)
          · refine am_E.go (t2 := (46, [vR 0, vI sa, vI i, vI w, vR a], [vI w], aq_h m s F c)) rfl rfl ?_
            refine am_E.go (t2 := (47, [vR 0, vI sa, vI i, vI w, vR a], [vI 2, vI w], aq_h m s F c)) rfl rfl ?_
            refine ae_icmp rfl (fun (q_7 : w ≠ 2) => ?_) (fun (q_7 : w = 2) => ?_)
            · refine am_E.go (t2 := (59, [vR 0, vI sa, vI i, vI w, vR a], [vI w], aq_h m s F c)) rfl rfl ?_
              refine ae_if0 rfl (fun (q_8 : w ≠ 0) => ?_) (fun (q_8 : w = 0) => ?_)
              · refine am_E.go (t2 := (75, [vR 0, vI sa, vI i, vI w, vR a], [vR a], aq_h m s F c)) rfl rfl ?_
                refine aq_gf (v := vR (a + 2)) rfl (by omega) hFaa (by decide) rfl ?_
                show am_E _ (78, [vR 0, vI sa, vI i, vI w, vR a], [vR (a + 2)], aq_h m s F c) _
                refine am_E.go (t2 := (79, [vR 0, vI sa, vI i, vI w, vR a], [vI i, vR (a + 2)], aq_h m s F c)) rfl rfl ?_
                refine aq_al (ok := fun k => k == 0) (v := vI (c (a + 2) i)) rfl rfl (by omega) hFpa rfl (by omega) (by omega) rfl ?_
                show am_E _ (80, [vR 0, vI sa, vI i, vI w, vR a], [vI (c (a + 2) i)], aq_h m s F c) _
                refine am_E.go (t2 := (81, [vR 0, vI sa, vI i, vI w, vR a], [vL (c (a + 2) i)], aq_h m s F c)) rfl rfl ?_
                refine am_E.ret rfl rfl ?_
                exact ⟨_, rfl, (aq_sm0 (S := fun a => a < 527)), ⟨_, rfl⟩, hI⟩
              · refine am_E.go (t2 := (64, [vR 0, vI sa, vI i, vI w, vR a], [vR a], aq_h m s F c)) rfl rfl ?_
                refine aq_gf (v := vR (a + 1)) rfl (by omega) hFaa (by decide) rfl ?_
                show am_E _ (67, [vR 0, vI sa, vI i, vI w, vR a], [vR (a + 1)], aq_h m s F c) _
                refine am_E.go (t2 := (68, [vR 0, vI sa, vI i, vI w, vR a], [vI i, vR (a + 1)], aq_h m s F c)) rfl rfl ?_
                refine aq_al (ok := fun k => k == 0) (v := vI (c (a + 1) i)) rfl rfl (by omega) hFna rfl (by omega) (by omega) rfl ?_
                show am_E _ (69, [vR 0, vI sa, vI i, vI w, vR a], [vI (c (a + 1) i)], aq_h m s F c) _
                have f_9 := hka.2.2 i (by omega) (by omega)
                refine am_E.go (t2 := (70, [vR 0, vI sa, vI i, vI w, vR a], [vL (c (a + 1) i)], aq_h m s F c)) rfl rfl ?_
                refine am_E.go (t2 := (81, [vR 0, vI sa, vI i, vI w, vR a], [vL (c (a + 1) i)], aq_h m s F c)) rfl rfl ?_
                refine am_E.ret rfl rfl ?_
                exact ⟨_, rfl, (aq_sm0 (S := fun a => a < 527)), ⟨_, rfl⟩, hI⟩
            · refine am_E.go (t2 := (52, [vR 0, vI sa, vI i, vI w, vR a], [vR a], aq_h m s F c)) rfl rfl ?_
              refine aq_gf (v := vR (a + 3)) rfl (by omega) hFaa (by decide) rfl ?_
              show am_E _ (55, [vR 0, vI sa, vI i, vI w, vR a], [vR (a + 3)], aq_h m s F c) _
              refine am_E.go (t2 := (56, [vR 0, vI sa, vI i, vI w, vR a], [vI i, vR (a + 3)], aq_h m s F c)) rfl rfl ?_
              refine aq_al (ok := fun k => k == 2) (v := vL (c (a + 3) i)) rfl rfl (by omega) hFfa rfl (by omega) (by omega) rfl ?_
              show am_E _ (57, [vR 0, vI sa, vI i, vI w, vR a], [vL (c (a + 3) i)], aq_h m s F c) _
              refine am_E.ret rfl rfl ?_
              exact ⟨_, rfl, (aq_sm0 (S := fun a => a < 527)), ⟨_, rfl⟩, hI⟩
          · refine am_E.go (t2 := (44, [vR 0, vI sa, vI i, vI w, vR a], [vL (-1000000000000004)], aq_h m s F c)) rfl rfl ?_
            refine am_E.ret rfl rfl ?_
            exact ⟨_, rfl, (aq_sm0 (S := fun a => a < 527)), ⟨_, rfl⟩, hI⟩
        · refine am_E.go (t2 := (23, [vR 0, vI sa, vI i, vI w, vU], [vL (-1000000000000001)], aq_h m s F c)) rfl rfl ?_
          refine am_E.ret rfl rfl ?_
          exact ⟨_, rfl, (aq_sm0 (S := fun a => a < 527)), ⟨_, rfl⟩, hI⟩

theorem qn_X4_same {m s : Nat} {F : aq_F} {c : aq_C} (hC : sb_C m F) (hI : cl_I c) {sa sb : Int} : am_E ac_X4_same (0, [vR 0, vI sa, vI sb], [], aq_h m s F c) (aq_Z m s F (fun a => a < 527) c (fun r d => aq_vi r ∧ cl_I d)) := by
  obtain ⟨hCm, hC0, hC1, hC2, hC3, ⟨hma4, hFa4, hFn4, hFp4, hFf4⟩, ⟨hmx, hFx, hFl, hFw⟩, hCs, hCb, hCh⟩ := id hC
  refine am_E.go (t2 := (1, [vR 0, vI sa, vI sb], [vI sa], aq_h m s F c)) rfl rfl ?_
  refine am_E.call rfl rfl rfl (Nat.le_of_ble_eq_true rfl) (qn_X4_isSum) ?_
  rintro r5 h5 ⟨rfl, v_1, rfl, hv_1⟩
  show am_E _ (4, [vR 0, vI sa, vI sb], [vI v_1], aq_h m s F c) _
  refine ae_if0 rfl (fun (q_2 : v_1 = 0) => ?_) (fun (q_2 : v_1 ≠ 0) => ?_)
  · refine am_E.go (t2 := (15, [vR 0, vI sa, vI sb], [vI (-1)], aq_h m s F c)) rfl rfl ?_
    refine am_E.ret rfl rfl ?_
    exact ⟨_, rfl, (aq_sm0 (S := fun a => a < 527)), ⟨_, rfl⟩, hI⟩
  · refine am_E.go (t2 := (8, [vR 0, vI sa, vI sb], [vI sb], aq_h m s F c)) rfl rfl ?_
    refine am_E.call rfl rfl rfl (Nat.le_of_ble_eq_true rfl) (qn_X4_isSum) ?_
    rintro r5 h5 ⟨rfl, v_3, rfl, hv_3⟩
    show am_E _ (11, [vR 0, vI sa, vI sb], [vI v_3], aq_h m s F c) _
    refine ae_if0 rfl (fun (q_4 : v_3 ≠ 0) => ?_) (fun (q_4 : v_3 = 0) => ?_)
    · refine am_E.go (t2 := (17, [vR 0, vI sa, vI sb], [vR 0], aq_h m s F c)) rfl rfl ?_
      refine aq_gf (v := vR 3) rfl (by omega) hC0 (by decide) rfl ?_
      show am_E _ (20, [vR 0, vI sa, vI sb], [vR 3], aq_h m s F c) _
      refine am_E.go (t2 := (21, [vR 0, vI sa, vI sb], [vI sa, vR 3], aq_h m s F c)) rfl rfl ?_
      obtain ⟨a, e_a⟩ : ∃ x, x = 495 + 4 * (sa).toNat := ⟨_, rfl⟩
      obtain ⟨hmaa, hFaa, hFna, hFpa, hFfa⟩ : su_0 m F a := by rw [e_a]; exact hCs _ (by omega)
      obtain ⟨hu0a, hu4a, hka⟩ : sb_u a c := by rw [e_a]; exact hI.2.2 _ (by omega)
      have hk1a := hka.1
      have hk2a := hka.2.1
      refine aq_al (ok := fun k => decide (3 ≤ k) && decide (k < 7)) (v := vR a) rfl rfl (by omega) hC3 rfl (by omega) (by omega) (aq_gi2 (by omega) e_a.symm) ?_
      show am_E _ (22, [vR 0, vI sa, vI sb], [vR a], aq_h m s F c) _
      refine am_E.go (t2 := (23, [vR 0, vI sa, vI sb], [vR 0, vR a], aq_h m s F c)) rfl rfl ?_
      refine aq_gf (v := vR 3) rfl (by omega) hC0 (by decide) rfl ?_
      show am_E _ (26, [vR 0, vI sa, vI sb], [vR 3, vR a], aq_h m s F c) _
      refine am_E.go (t2 := (27, [vR 0, vI sa, vI sb], [vI sb, vR 3, vR a], aq_h m s F c)) rfl rfl ?_
      obtain ⟨t, e_t⟩ : ∃ x, x = 495 + 4 * (sb).toNat := ⟨_, rfl⟩
      obtain ⟨hmat, hFat, hFnt, hFpt, hFft⟩ : su_0 m F t := by rw [e_t]; exact hCs _ (by omega)
      obtain ⟨hu0t, hu4t, hkt⟩ : sb_u t c := by rw [e_t]; exact hI.2.2 _ (by omega)
      have hk1t := hkt.1
      have hk2t := hkt.2.1
      refine aq_al (ok := fun k => decide (3 ≤ k) && decide (k < 7)) (v := vR t) rfl rfl (by omega) hC3 rfl (by omega) (by omega) (aq_gi2 (by omega) e_t.symm) ?_
      show am_E _ (28, [vR 0, vI sa, vI sb], [vR t, vR a], aq_h m s F c) _
      refine aq_callv (y := 2) (as2 := [vR t]) (rest := []) rfl rfl (by decide) (Nat.le_of_ble_eq_true rfl) rfl rfl (Nat.le_of_ble_eq_true rfl) (by omega) hFaa rfl (Nat.le_of_ble_eq_true rfl) (qn_X3_isLike (a := a) ⟨hmaa, hFaa, hFna, hFpa, hFfa⟩ (t := t) ⟨hmat, hFat, hFnt, hFpt, hFft⟩ (by omega)) ?_
      rintro r5 h5 ⟨rfl, v_5, rfl, hv_5⟩
      show am_E _ (31, [vR 0, vI sa, vI sb], [vI v_5], aq_h m s F c) _
      refine ae_if0 rfl (fun (q_6 : v_5 = 0) => ?_) (fun (q_6 : v_5 ≠ 0) => ?_)
      · refine am_E.go (t2 := (39, [vR 0, vI sa, vI sb], [vI 0], aq_h m s F c)) rfl rfl ?_
        refine am_E.ret rfl rfl ?_
        exact ⟨_, rfl, (aq_sm0 (S := fun a => a < 527)), ⟨_, rfl⟩, hI⟩
      · refine am_E.go (t2 := (35, [vR 0, vI sa, vI sb], [vI 1], aq_h m s F c)) rfl rfl ?_
        refine am_E.go (t2 := (39, [vR 0, vI sa, vI sb], [vI 1], aq_h m s F c)) rfl rfl ?_
        refine am_E.ret rfl rfl ?_
        exact ⟨_, rfl, (aq_sm0 (S := fun a => a < 527)), ⟨_, rfl⟩, hI⟩
    · refine am_E.go (t2 := (15, [vR 0, vI sa, vI sb], [vI (-1)], aq_h m s F c)) rfl rfl ?_
      refine am_E.ret rfl rfl ?_
      exact ⟨_, rfl, (aq_sm0 (S := fun a => a < 527)), ⟨_, rfl⟩, hI⟩

theorem qn_closed_l {m s : Nat} {F : aq_F} {c : aq_C} (hI : cl_I c) {a o K : Nat} {sa p : Int} {tR : Int → Int} (hma : su_0 m F a) (hka : su_k a (K : Int) c) (hmo : o + 2 + K < m) (hR : F (o + 2 + K) = (0, K, fun j => .inr (vI (tR (j : Int))))) : ∀ (d : Nat) (x : Int) (i : Int) (h0 : 0 ≤ i) (h1 : i ≤ c a 1) (hd : c a 1 - i < (d : Int)), am_E ac_X4_closed (48, [vR 0, vI sa, vI p, vR a, vR (o + 2 + K), vL x, vU, vI i], [], aq_h m s F c) (aq_Z m s F (fun a => a < 527) c (fun r d => aq_vl r ∧ cl_I d))
  | 0, x, i, h0, h1, hd => by exfalso; omega
  | d + 1, x, i, h0, h1, hd => by
    obtain ⟨hmaa, hFaa, hFna, hFpa, hFfa⟩ := hma
    have hk1a := hka.1
    have hk2a := hka.2.1
    refine am_E.go (t2 := (50, [vR 0, vI sa, vI p, vR a, vR (o + 2 + K), vL x, vU, vI i], [vI i], aq_h m s F c)) rfl rfl ?_
    refine am_E.go (t2 := (51, [vR 0, vI sa, vI p, vR a, vR (o + 2 + K), vL x, vU, vI i], [vR a, vI i], aq_h m s F c)) rfl rfl ?_
    refine aq_gf (v := vI (c a 1)) rfl (by omega) hFaa (by decide) rfl ?_
    show am_E _ (54, [vR 0, vI sa, vI p, vR a, vR (o + 2 + K), vL x, vU, vI i], [vI (c a 1), vI i], aq_h m s F c) _
    refine ae_icmp rfl (fun (q_1 : (c a 1) ≤ i) => ?_) (fun (q_1 : i < (c a 1)) => ?_)
    · refine am_E.go (t2 := (99, [vR 0, vI sa, vI p, vR a, vR (o + 2 + K), vL x, vU, vI i], [vL x], aq_h m s F c)) rfl rfl ?_
      refine am_E.ret rfl rfl ?_
      exact ⟨_, rfl, aq_sm0, ⟨_, rfl⟩, hI⟩
    · refine am_E.go (t2 := (58, [vR 0, vI sa, vI p, vR a, vR (o + 2 + K), vL x, vU, vI i], [vR a], aq_h m s F c)) rfl rfl ?_
      refine aq_gf (v := vR (a + 2)) rfl (by omega) hFaa (by decide) rfl ?_
      show am_E _ (61, [vR 0, vI sa, vI p, vR a, vR (o + 2 + K), vL x, vU, vI i], [vR (a + 2)], aq_h m s F c) _
      refine am_E.go (t2 := (63, [vR 0, vI sa, vI p, vR a, vR (o + 2 + K), vL x, vU, vI i], [vI i, vR (a + 2)], aq_h m s F c)) rfl rfl ?_
      refine aq_al (ok := fun k => k == 0) (v := vI (c (a + 2) i)) rfl rfl (by omega) hFpa rfl (by omega) (by omega) rfl ?_
      show am_E _ (64, [vR 0, vI sa, vI p, vR a, vR (o + 2 + K), vL x, vU, vI i], [vI (c (a + 2) i)], aq_h m s F c) _
      refine am_E.go (t2 := (66, [vR 0, vI sa, vI p, vR a, vR (o + 2 + K), vL x, vU, vI i], [vR (o + 2 + K), vI (c (a + 2) i)], aq_h m s F c)) rfl rfl ?_
      refine am_E.go (t2 := (67, [vR 0, vI sa, vI p, vR a, vR (o + 2 + K), vL x, vU, vI i], [vR a, vR (o + 2 + K), vI (c (a + 2) i)], aq_h m s F c)) rfl rfl ?_
      refine aq_gf (v := vR (a + 1)) rfl (by omega) hFaa (by decide) rfl ?_
      show am_E _ (70, [vR 0, vI sa, vI p, vR a, vR (o + 2 + K), vL x, vU, vI i], [vR (a + 1), vR (o + 2 + K), vI (c (a + 2) i)], aq_h m s F c) _
      refine am_E.go (t2 := (72, [vR 0, vI sa, vI p, vR a, vR (o + 2 + K), vL x, vU, vI i], [vI i, vR (a + 1), vR (o + 2 + K), vI (c (a + 2) i)], aq_h m s F c)) rfl rfl ?_
      refine aq_al (ok := fun k => k == 0) (v := vI (c (a + 1) i)) rfl rfl (by omega) hFna rfl (by omega) (by omega) rfl ?_
      show am_E _ (73, [vR 0, vI sa, vI p, vR a, vR (o + 2 + K), vL x, vU, vI i], [vI (c (a + 1) i), vR (o + 2 + K), vI (c (a + 2) i)], aq_h m s F c) _
      have f_2 := hka.2.2 i (by omega) (by omega)
      refine aq_alt (ok := fun k => k == 0) rfl rfl (by omega) hR rfl (by omega) (by omega) ?_
      show am_E _ (74, [vR 0, vI sa, vI p, vR a, vR (o + 2 + K), vL x, vU, vI i], [vI (tR (c (a + 1) i)), vI (c (a + 2) i)], aq_h m s F c) _
      refine am_E.go (t2 := (75, [vR 0, vI sa, vI p, vR a, vR (o + 2 + K), vL x, vU, vI i], [vI (am_w ((c (a + 2) i) + (tR (c (a + 1) i))))], aq_h m s F c)) rfl rfl ?_
      refine am_E.go (t2 := (76, [vR 0, vI sa, vI p, vR a, vR (o + 2 + K), vL x, vU, vI i], [vI p, vI (am_w ((c (a + 2) i) + (tR (c (a + 1) i))))], aq_h m s F c)) rfl rfl ?_
      refine ae_icmp rfl (fun (q_3 : (am_w ((c (a + 2) i) + (tR (c (a + 1) i)))) ≠ p) => ?_) (fun (q_3 : (am_w ((c (a + 2) i) + (tR (c (a + 1) i)))) = p) => ?_)
      · refine ae_iinc rfl rfl (am_ri (by omega) (by omega)) ?_
        show am_E _ (94, [vR 0, vI sa, vI p, vR a, vR (o + 2 + K), vL x, vU, vI (i + 1)], [], aq_h m s F c) _
        refine am_E.go (t2 := (48, [vR 0, vI sa, vI p, vR a, vR (o + 2 + K), vL x, vU, vI (i + 1)], [], aq_h m s F c)) rfl rfl ?_
        exact qn_closed_l hI ⟨hmaa, hFaa, hFna, hFpa, hFfa⟩ hka hmo hR d x (i + 1) (by omega) (by omega) (by omega)
      · refine am_E.go (t2 := (81, [vR 0, vI sa, vI p, vR a, vR (o + 2 + K), vL x, vU, vI i], [vL x], aq_h m s F c)) rfl rfl ?_
        refine am_E.go (t2 := (82, [vR 0, vI sa, vI p, vR a, vR (o + 2 + K), vL x, vU, vI i], [vR a, vL x], aq_h m s F c)) rfl rfl ?_
        refine aq_gf (v := vR (a + 3)) rfl (by omega) hFaa (by decide) rfl ?_
        show am_E _ (85, [vR 0, vI sa, vI p, vR a, vR (o + 2 + K), vL x, vU, vI i], [vR (a + 3), vL x], aq_h m s F c) _
        refine am_E.go (t2 := (87, [vR 0, vI sa, vI p, vR a, vR (o + 2 + K), vL x, vU, vI i], [vI i, vR (a + 3), vL x], aq_h m s F c)) rfl rfl ?_
        refine aq_al (ok := fun k => k == 2) (v := vL (c (a + 3) i)) rfl rfl (by omega) hFfa rfl (by omega) (by omega) rfl ?_
        show am_E _ (88, [vR 0, vI sa, vI p, vR a, vR (o + 2 + K), vL x, vU, vI i], [vL (c (a + 3) i), vL x], aq_h m s F c) _
        refine am_E.go (t2 := (89, [vR 0, vI sa, vI p, vR a, vR (o + 2 + K), vL x, vU, vI i], [vL (am_wl (x + (c (a + 3) i)))], aq_h m s F c)) rfl rfl ?_
        refine am_E.go (t2 := (91, [vR 0, vI sa, vI p, vR a, vR (o + 2 + K), vL (am_wl (x + (c (a + 3) i))), vU, vI i], [], aq_h m s F c)) rfl rfl ?_
        refine ae_iinc rfl rfl (am_ri (by omega) (by omega)) ?_
        show am_E _ (94, [vR 0, vI sa, vI p, vR a, vR (o + 2 + K), vL (am_wl (x + (c (a + 3) i))), vU, vI (i + 1)], [], aq_h m s F c) _
        refine am_E.go (t2 := (48, [vR 0, vI sa, vI p, vR a, vR (o + 2 + K), vL (am_wl (x + (c (a + 3) i))), vU, vI (i + 1)], [], aq_h m s F c)) rfl rfl ?_
        exact qn_closed_l hI ⟨hmaa, hFaa, hFna, hFpa, hFfa⟩ hka hmo hR d (am_wl (x + (c (a + 3) i))) (i + 1) (by omega) (by omega) (by omega)

theorem qn_X4_closed {m s : Nat} {F : aq_F} {c : aq_C} (hC : sb_C m F) (hI : cl_I c) {sa p : Int} : am_E ac_X4_closed (0, [vR 0, vI sa, vI p, vU, vU, vU, vU, vU], [], aq_h m s F c) (aq_Z m s F (fun a => a < 527) c (fun r d => aq_vl r ∧ cl_I d)) := by
  obtain ⟨hCm, hC0, hC1, hC2, hC3, ⟨hma4, hFa4, hFn4, hFp4, hFf4⟩, ⟨hmx, hFx, hFl, hFw⟩, hCs, hCb, hCh⟩ := id hC
  refine am_E.go (t2 := (1, [vR 0, vI sa, vI p, vU, vU, vU, vU, vU], [vI sa], aq_h m s F c)) rfl rfl ?_
  refine am_E.call rfl rfl rfl (Nat.le_of_ble_eq_true rfl) (qn_X4_isSum) ?_
  rintro r5 h5 ⟨rfl, v_1, rfl, hv_1⟩
  show am_E _ (4, [vR 0, vI sa, vI p, vU, vU, vU, vU, vU], [vI v_1], aq_h m s F c) _
  refine ae_if0 rfl (fun (q_2 : v_1 = 0) => ?_) (fun (q_2 : v_1 ≠ 0) => ?_)
  · refine am_E.go (t2 := (18, [vR 0, vI sa, vI p, vU, vU, vU, vU, vU], [vL 0], aq_h m s F c)) rfl rfl ?_
    refine am_E.ret rfl rfl ?_
    exact ⟨_, rfl, (aq_sm0 (S := fun a => a < 527)), ⟨_, rfl⟩, hI⟩
  · refine am_E.go (t2 := (8, [vR 0, vI sa, vI p, vU, vU, vU, vU, vU], [vI p], aq_h m s F c)) rfl rfl ?_
    refine ae_if0 rfl (fun (q_3 : p < 0) => ?_) (fun (q_3 : 0 ≤ p) => ?_)
    · refine am_E.go (t2 := (18, [vR 0, vI sa, vI p, vU, vU, vU, vU, vU], [vL 0], aq_h m s F c)) rfl rfl ?_
      refine am_E.ret rfl rfl ?_
      exact ⟨_, rfl, (aq_sm0 (S := fun a => a < 527)), ⟨_, rfl⟩, hI⟩
    · refine am_E.go (t2 := (12, [vR 0, vI sa, vI p, vU, vU, vU, vU, vU], [vI p], aq_h m s F c)) rfl rfl ?_
      refine am_E.go (t2 := (14, [vR 0, vI sa, vI p, vU, vU, vU, vU, vU], [vI 24, vI p], aq_h m s F c)) rfl rfl ?_
      refine ae_icmp rfl (fun (q_4 : p ≤ 24) => ?_) (fun (q_4 : 24 < p) => ?_)
      · refine am_E.go (t2 := (20, [vR 0, vI sa, vI p, vU, vU, vU, vU, vU], [vR 0], aq_h m s F c)) rfl rfl ?_
        refine aq_gf (v := vR 3) rfl (by omega) hC0 (by decide) rfl ?_
        show am_E _ (23, [vR 0, vI sa, vI p, vU, vU, vU, vU, vU], [vR 3], aq_h m s F c) _
        refine am_E.go (t2 := (24, [vR 0, vI sa, vI p, vU, vU, vU, vU, vU], [vI sa, vR 3], aq_h m s F c)) rfl rfl ?_
        obtain ⟨a, e_a⟩ : ∃ x, x = 495 + 4 * (sa).toNat := ⟨_, rfl⟩
        obtain ⟨hmaa, hFaa, hFna, hFpa, hFfa⟩ : su_0 m F a := by rw [e_a]; exact hCs _ (by omega)
        obtain ⟨hu0a, hu4a, hka⟩ : sb_u a c := by rw [e_a]; exact hI.2.2 _ (by omega)
        have hk1a := hka.1
        have hk2a := hka.2.1
        refine aq_al (ok := fun k => decide (3 ≤ k) && decide (k < 7)) (v := vR a) rfl rfl (by omega) hC3 rfl (by omega) (by omega) (aq_gi2 (by omega) e_a.symm) ?_
        show am_E _ (25, [vR 0, vI sa, vI p, vU, vU, vU, vU, vU], [vR a], aq_h m s F c) _
        refine am_E.go (t2 := (26, [vR 0, vI sa, vI p, vR a, vU, vU, vU, vU], [], aq_h m s F c)) rfl rfl ?_
        refine am_E.go (t2 := (27, [vR 0, vI sa, vI p, vR a, vU, vU, vU, vU], [vR 0], aq_h m s F c)) rfl rfl ?_
        refine aq_gf (v := vR 1) rfl (by omega) hC0 (by decide) rfl ?_
        show am_E _ (30, [vR 0, vI sa, vI p, vR a, vU, vU, vU, vU], [vR 1], aq_h m s F c) _
        refine am_E.go (t2 := (31, [vR 0, vI sa, vI p, vR a, vU, vU, vU, vU], [vR a, vR 1], aq_h m s F c)) rfl rfl ?_
        refine aq_gf (v := vI (c a 0)) rfl (by omega) hFaa (by decide) rfl ?_
        show am_E _ (34, [vR 0, vI sa, vI p, vR a, vU, vU, vU, vU], [vI (c a 0), vR 1], aq_h m s F c) _
        refine am_E.go (t2 := (35, [vR 0, vI sa, vI p, vR a, vU, vU, vU, vU], [vI 1, vI (c a 0), vR 1], aq_h m s F c)) rfl rfl ?_
        refine ae_sub rfl (am_ri (by omega) (by omega)) ?_
        show am_E _ (36, [vR 0, vI sa, vI p, vR a, vU, vU, vU, vU], [vI ((c a 0) - 1), vR 1], aq_h m s F c) _
        obtain ⟨o, n, K, e_o, e_n, e_K, e_j, e_k, tP, tG, tN, tR, tL, ⟨hm, hn1, hn4, hK, hFo, hFd, hFs⟩, ⟨hPg, hPr, hPt⟩, ⟨hL, hGg, hGr, hNg, hNr, hLt, hGt, hNt⟩, ⟨hR, hRt⟩, hst, hex⟩ := sb_box hC (i := ((c a 0) - 1)) (by omega) (by omega)
        have hb := sb_bnd (((c a 0) - 1)).toNat (by omega)
        rw [e_o, e_k] at hb
        have hbK : (K : Int) = bx_K (c a 0) := by rw [e_K]; congr 1; omega
        refine aq_al (ok := fun k => decide (3 ≤ k) && decide (k < 7)) (v := vR o) rfl rfl (by omega) hC1 rfl (by omega) (by omega) (aq_gi2 (by omega) e_o) ?_
        show am_E _ (37, [vR 0, vI sa, vI p, vR a, vU, vU, vU, vU], [vR o], aq_h m s F c) _
        refine aq_gf (v := vR (o + 2 + K)) rfl (by omega) hFo (by decide) rfl ?_
        show am_E _ (40, [vR 0, vI sa, vI p, vR a, vU, vU, vU, vU], [vR (o + 2 + K)], aq_h m s F c) _
        refine am_E.go (t2 := (42, [vR 0, vI sa, vI p, vR a, vR (o + 2 + K), vU, vU, vU], [], aq_h m s F c)) rfl rfl ?_
        refine am_E.go (t2 := (43, [vR 0, vI sa, vI p, vR a, vR (o + 2 + K), vU, vU, vU], [vL 0], aq_h m s F c)) rfl rfl ?_
        refine am_E.go (t2 := (45, [vR 0, vI sa, vI p, vR a, vR (o + 2 + K), vL 0, vU, vU], [], aq_h m s F c)) rfl rfl ?_
        refine am_E.go (t2 := (46, [vR 0, vI sa, vI p, vR a, vR (o + 2 + K), vL 0, vU, vU], [vI 0], aq_h m s F c)) rfl rfl ?_
        refine am_E.go (t2 := (48, [vR 0, vI sa, vI p, vR a, vR (o + 2 + K), vL 0, vU, vI 0], [], aq_h m s F c)) rfl rfl ?_
        exact qn_closed_l hI ⟨hmaa, hFaa, hFna, hFpa, hFfa⟩ (by rw [hbK]; exact hka) (by omega) hR 41 0 0 (by omega) (by omega) (by omega)
      · refine am_E.go (t2 := (18, [vR 0, vI sa, vI p, vU, vU, vU, vU, vU], [vL 0], aq_h m s F c)) rfl rfl ?_
        refine am_E.ret rfl rfl ?_
        exact ⟨_, rfl, (aq_sm0 (S := fun a => a < 527)), ⟨_, rfl⟩, hI⟩

theorem qn_X4_row {m s : Nat} {F : aq_F} {c : aq_C} (hC : sb_C m F) (hI : cl_I c) {nn : Int} : am_E ac_X4_row (0, [vR 0, vI nn], [], aq_h m s F c) (aq_Z m s F (fun a => a < 527) c (fun r d => cl_I d ∧ ((2 ≤ nn ∧ nn ≤ 4 ∧ r = some (vI 0) ∧ d 8 0 = nn ∧ d 8 1 = 0) ∨ (¬ (2 ≤ nn ∧ nn ≤ 4) ∧ r = some (vI (-1)) ∧ d = c)))) := by
  obtain ⟨hCm, hC0, hC1, hC2, hC3, ⟨hma4, hFa4, hFn4, hFp4, hFf4⟩, ⟨hmx, hFx, hFl, hFw⟩, hCs, hCb, hCh⟩ := id hC
  obtain ⟨hx0, hx1, hx2, hx3, hx4⟩ := hI.2.1
  refine am_E.go (t2 := (1, [vR 0, vI nn], [vI nn], aq_h m s F c)) rfl rfl ?_
  refine am_E.go (t2 := (2, [vR 0, vI nn], [vI 2, vI nn], aq_h m s F c)) rfl rfl ?_
  refine ae_icmp rfl (fun (q_1 : nn < 2) => ?_) (fun (q_1 : 2 ≤ nn) => ?_)
  · refine am_E.go (t2 := (11, [vR 0, vI nn], [vI (-1)], aq_h m s F c)) rfl rfl ?_
    refine am_E.ret rfl rfl ?_
    exact ⟨_, rfl, (aq_sm0 (S := fun a => a < 527)), hI, Or.inr ⟨by omega, rfl, rfl⟩⟩
  · refine am_E.go (t2 := (6, [vR 0, vI nn], [vI nn], aq_h m s F c)) rfl rfl ?_
    refine am_E.go (t2 := (7, [vR 0, vI nn], [vI 4, vI nn], aq_h m s F c)) rfl rfl ?_
    refine ae_icmp rfl (fun (q_2 : nn ≤ 4) => ?_) (fun (q_2 : 4 < nn) => ?_)
    · refine am_E.go (t2 := (13, [vR 0, vI nn], [vR 0], aq_h m s F c)) rfl rfl ?_
      refine aq_gf (v := vR 8) rfl (by omega) hC0 (by decide) rfl ?_
      show am_E _ (16, [vR 0, vI nn], [vR 8], aq_h m s F c) _
      refine am_E.go (t2 := (17, [vR 0, vI nn], [vI nn, vR 8], aq_h m s F c)) rfl rfl ?_
      refine aq_callv (y := 2) (as2 := [vI nn]) (rest := []) rfl rfl (by decide) (Nat.le_of_ble_eq_true rfl) rfl rfl (Nat.le_of_ble_eq_true rfl) (by omega) hFx rfl (Nat.le_of_ble_eq_true rfl) (qn_X1_begin (x := 8) ⟨hmx, hFx, hFl, hFw⟩) ?_
      rintro r5 h5 ⟨c_b, rfl, s_b, rfl, hb0, hb1⟩
      show am_E _ (20, [vR 0, vI nn], [], aq_h m s F c_b) _
      refine am_E.go (t2 := (21, [vR 0, vI nn], [vI 0], aq_h m s F c_b)) rfl rfl ?_
      refine am_E.ret rfl rfl ?_
      exact ⟨_, rfl, (aq_smt (aq_sm0 (S := fun a => a < 527)) (aq_smi s_b (fun b h => by omega))), cl_x hI s_b ⟨by omega, by omega, by omega, by omega, fun i h1 h2 => absurd h2 (by omega)⟩, Or.inl ⟨by omega, by omega, rfl, hb0, hb1⟩⟩
    · refine am_E.go (t2 := (11, [vR 0, vI nn], [vI (-1)], aq_h m s F c)) rfl rfl ?_
      refine am_E.ret rfl rfl ?_
      exact ⟨_, rfl, (aq_sm0 (S := fun a => a < 527)), hI, Or.inr ⟨by omega, rfl, rfl⟩⟩

theorem cr_app {x : Nat} {c d : aq_C} {l v : Int} (hl : cr_l x c) (h0 : l ≠ 0 ∧ -(c x 0) < l ∧ l < c x 0) (h : (v = 0 ∧ 8 ≤ c x 1 ∧ d = c) ∨ (v = 1 ∧ c x 1 < 8 ∧ d x 0 = c x 0 ∧ d x 1 = c x 1 + 1 ∧ d (x + 1) (c x 1) = l ∧ ∀ i, i ≠ c x 1 → d (x + 1) i = c (x + 1) i)) : cr_l x d := by
  obtain ⟨k0, k1, k2, k3, k4⟩ := hl
  rcases h with ⟨_, _, h⟩ | ⟨_, h1, h2, h3, h4, h5⟩
  · rw [h]
    exact ⟨k0, k1, k2, k3, k4⟩
  · refine ⟨by omega, by omega, by omega, by omega, fun i h6 h7 => ?_⟩
    by_cases e : i = c x 1
    · rw [e, h4, h2]
      exact h0
    · rw [h5 i e, h2]
      exact k4 i h6 (by omega)
theorem cr_drp {x : Nat} {c d : aq_C} {v : Int} (hl : cr_l x c) (h : (v = 0 ∧ c x 1 ≤ 0 ∧ d = c) ∨ (v = 1 ∧ 0 < c x 1 ∧ d x 0 = c x 0 ∧ d x 1 = c x 1 - 1 ∧ ∀ i, d (x + 1) i = c (x + 1) i)) : cr_l x d := by
  obtain ⟨k0, k1, k2, k3, k4⟩ := hl
  rcases h with ⟨_, _, h⟩ | ⟨_, h1, h2, h3, h5⟩
  · rw [h]
    exact ⟨k0, k1, k2, k3, k4⟩
  · refine ⟨by omega, by omega, by omega, by omega, fun i h6 h7 => ?_⟩
    rw [h5 i, h2]
    exact k4 i h6 (by omega)

theorem qn_X4_cross {m s : Nat} {F : aq_F} {c : aq_C} (hC : sb_C m F) (hI : cl_I c) {l : Int} : am_E ac_X4_cross (0, [vR 0, vI l], [], aq_h m s F c) (aq_Z m s F (fun a => a < 527) c (fun r d => cl_I d ∧ ((¬ (l ≠ 0 ∧ -(c 8 0) < l ∧ l < c 8 0) ∧ r = some (vI (-1)) ∧ d = c) ∨ ((l ≠ 0 ∧ -(c 8 0) < l ∧ l < c 8 0) ∧ 8 ≤ c 8 1 ∧ r = some (vI (-3)) ∧ d = c) ∨ ((l ≠ 0 ∧ -(c 8 0) < l ∧ l < c 8 0) ∧ c 8 1 < 8 ∧ r = some (vI (c 8 1 + 1)) ∧ d 8 0 = c 8 0 ∧ d 8 1 = c 8 1 + 1)))) := by
  obtain ⟨hCm, hC0, hC1, hC2, hC3, ⟨hma4, hFa4, hFn4, hFp4, hFf4⟩, ⟨hmx, hFx, hFl, hFw⟩, hCs, hCb, hCh⟩ := id hC
  obtain ⟨hx0, hx1, hx2, hx3, hx4⟩ := hI.2.1
  refine am_E.go (t2 := (1, [vR 0, vI l], [vR 0], aq_h m s F c)) rfl rfl ?_
  refine aq_gf (v := vR 8) rfl (by omega) hC0 (by decide) rfl ?_
  show am_E _ (4, [vR 0, vI l], [vR 8], aq_h m s F c) _
  refine am_E.go (t2 := (5, [vR 0, vI l], [vI l, vR 8], aq_h m s F c)) rfl rfl ?_
  refine aq_callv (y := 2) (as2 := [vI l]) (rest := []) rfl rfl (by decide) (Nat.le_of_ble_eq_true rfl) rfl rfl (Nat.le_of_ble_eq_true rfl) (by omega) hFx rfl (Nat.le_of_ble_eq_true rfl) (qn_X1_allows (x := 8) ⟨hmx, hFx, hFl, hFw⟩ (by omega) (by omega)) ?_
  rintro r5 h5 ⟨rfl, v_1, rfl, hv_1⟩
  show am_E _ (8, [vR 0, vI l], [vI v_1], aq_h m s F c) _
  refine ae_if0 rfl (fun (q_2 : v_1 ≠ 0) => ?_) (fun (q_2 : v_1 = 0) => ?_)
  · refine am_E.go (t2 := (14, [vR 0, vI l], [vR 0], aq_h m s F c)) rfl rfl ?_
    refine aq_gf (v := vR 8) rfl (by omega) hC0 (by decide) rfl ?_
    show am_E _ (17, [vR 0, vI l], [vR 8], aq_h m s F c) _
    refine am_E.go (t2 := (18, [vR 0, vI l], [vI l, vR 8], aq_h m s F c)) rfl rfl ?_
    refine aq_callv (y := 2) (as2 := [vI l]) (rest := []) rfl rfl (by decide) (Nat.le_of_ble_eq_true rfl) rfl rfl (Nat.le_of_ble_eq_true rfl) (by omega) hFx rfl (Nat.le_of_ble_eq_true rfl) (qn_X1_append (x := 8) ⟨hmx, hFx, hFl, hFw⟩ (by omega)) ?_
    rintro r5 h5 ⟨c_b, rfl, s_b, v_b, rfl, hq_b⟩
    show am_E _ (21, [vR 0, vI l], [vI v_b], aq_h m s F c_b) _
    refine ae_if0 rfl (fun (q_3 : v_b = 0) => ?_) (fun (q_3 : v_b ≠ 0) => ?_)
    · refine am_E.go (t2 := (36, [vR 0, vI l], [vI (-3)], aq_h m s F c_b)) rfl rfl ?_
      refine am_E.ret rfl rfl ?_
      have hl5 : (l ≠ 0 ∧ -(c 8 0) < l ∧ l < c 8 0) := by omega
      have hlb := cr_app hI.2.1 hl5 hq_b
      refine ⟨_, rfl, (aq_smt (aq_sm0 (S := fun a => a < 527)) (aq_smi s_b (fun b h => by omega))), cl_x hI s_b hlb, ?_⟩
      rcases hq_b with ⟨h1, h2, h3⟩ | ⟨h1, h2, h3, h4, h5, h6⟩
      · exact Or.inr (Or.inl ⟨hl5, h2, rfl, h3⟩)
      · exfalso; omega
    · refine am_E.go (t2 := (25, [vR 0, vI l], [vR 0], aq_h m s F c_b)) rfl rfl ?_
      refine aq_gf (v := vR 8) rfl (by omega) hC0 (by decide) rfl ?_
      show am_E _ (28, [vR 0, vI l], [vR 8], aq_h m s F c_b) _
      refine aq_gf (v := vI (c_b 8 1)) rfl (by omega) hFx (by decide) rfl ?_
      show am_E _ (31, [vR 0, vI l], [vI (c_b 8 1)], aq_h m s F c_b) _
      refine am_E.go (t2 := (36, [vR 0, vI l], [vI (c_b 8 1)], aq_h m s F c_b)) rfl rfl ?_
      refine am_E.ret rfl rfl ?_
      have hl5 : (l ≠ 0 ∧ -(c 8 0) < l ∧ l < c 8 0) := by omega
      have hlb := cr_app hI.2.1 hl5 hq_b
      refine ⟨_, rfl, (aq_smt (aq_sm0 (S := fun a => a < 527)) (aq_smi s_b (fun b h => by omega))), cl_x hI s_b hlb, ?_⟩
      rcases hq_b with ⟨h1, h2, h3⟩ | ⟨h1, h2, h3, h4, h5, h6⟩
      · exfalso; omega
      · exact Or.inr (Or.inr ⟨hl5, h2, by rw [h4], h3, h4⟩)
  · refine am_E.go (t2 := (12, [vR 0, vI l], [vI (-1)], aq_h m s F c)) rfl rfl ?_
    refine am_E.ret rfl rfl ?_
    exact ⟨_, rfl, (aq_sm0 (S := fun a => a < 527)), hI, Or.inl ⟨by omega, rfl, rfl⟩⟩

theorem qn_X4_back {m s : Nat} {F : aq_F} {c : aq_C} (hC : sb_C m F) (hI : cl_I c) : am_E ac_X4_back (0, [vR 0], [], aq_h m s F c) (aq_Z m s F (fun a => a < 527) c (fun r d => cl_I d ∧ ((c 8 1 ≤ 0 ∧ r = some (vI (-2)) ∧ d = c) ∨ (0 < c 8 1 ∧ r = some (vI (c 8 1 - 1)) ∧ d 8 0 = c 8 0 ∧ d 8 1 = c 8 1 - 1)))) := by
  obtain ⟨hCm, hC0, hC1, hC2, hC3, ⟨hma4, hFa4, hFn4, hFp4, hFf4⟩, ⟨hmx, hFx, hFl, hFw⟩, hCs, hCb, hCh⟩ := id hC
  obtain ⟨hx0, hx1, hx2, hx3, hx4⟩ := hI.2.1
  refine am_E.go (t2 := (1, [vR 0], [vR 0], aq_h m s F c)) rfl rfl ?_
  refine aq_gf (v := vR 8) rfl (by omega) hC0 (by decide) rfl ?_
  show am_E _ (4, [vR 0], [vR 8], aq_h m s F c) _
  refine aq_callv (y := 1) (as2 := []) (rest := []) rfl rfl (by decide) (Nat.le_of_ble_eq_true rfl) rfl rfl (Nat.le_of_ble_eq_true rfl) (by omega) hFx rfl (Nat.le_of_ble_eq_true rfl) (qn_X1_dropLast (x := 8) ⟨hmx, hFx, hFl, hFw⟩ (by omega) (by omega)) ?_
  rintro r5 h5 ⟨c_b, rfl, s_b, v_b, rfl, hq_b⟩
  show am_E _ (7, [vR 0], [vI v_b], aq_h m s F c_b) _
  refine ae_if0 rfl (fun (q_1 : v_b = 0) => ?_) (fun (q_1 : v_b ≠ 0) => ?_)
  · refine am_E.go (t2 := (22, [vR 0], [vI (-2)], aq_h m s F c_b)) rfl rfl ?_
    refine am_E.ret rfl rfl ?_
    have hlb := cr_drp hI.2.1 hq_b
    refine ⟨_, rfl, (aq_smt (aq_sm0 (S := fun a => a < 527)) (aq_smi s_b (fun b h => by omega))), cl_x hI s_b hlb, ?_⟩
    rcases hq_b with ⟨h1, h2, h3⟩ | ⟨h1, h2, h3, h4, h5⟩
    · exact Or.inl ⟨h2, rfl, h3⟩
    · exfalso; omega
  · refine am_E.go (t2 := (11, [vR 0], [vR 0], aq_h m s F c_b)) rfl rfl ?_
    refine aq_gf (v := vR 8) rfl (by omega) hC0 (by decide) rfl ?_
    show am_E _ (14, [vR 0], [vR 8], aq_h m s F c_b) _
    refine aq_gf (v := vI (c_b 8 1)) rfl (by omega) hFx (by decide) rfl ?_
    show am_E _ (17, [vR 0], [vI (c_b 8 1)], aq_h m s F c_b) _
    refine am_E.go (t2 := (22, [vR 0], [vI (c_b 8 1)], aq_h m s F c_b)) rfl rfl ?_
    refine am_E.ret rfl rfl ?_
    have hlb := cr_drp hI.2.1 hq_b
    refine ⟨_, rfl, (aq_smt (aq_sm0 (S := fun a => a < 527)) (aq_smi s_b (fun b h => by omega))), cl_x hI s_b hlb, ?_⟩
    rcases hq_b with ⟨h1, h2, h3⟩ | ⟨h1, h2, h3, h4, h5⟩
    · exfalso; omega
    · exact Or.inr ⟨h2, by rw [h4], h3, h4⟩

theorem cl_p {c d : aq_C} {j : Nat} (hI : cl_I c) (hj : j < 4) (hs : aq_sm (fun a => (a = 10 ∨ a = sb_o j + 6 + 3 * sb_K j ∨ a = sb_o j + 7 + 3 * sb_K j) ∨ a = 8) c d) (hr : aq_rg (sb_o j + 6 + 3 * sb_K j) (2 * ((j + 1 : Nat) : Int)) 0 (2 * ((j + 1 : Nat) : Int)) d) (h0 : d 8 0 = c 8 0) (h1 : d 8 1 = c 8 1) (h2 : ∀ i, d (8 + 1) i = c (8 + 1) i) : cl_I d := by
  have hb := sb_bnd j hj
  refine ⟨fun i hi => ?_, ?_, fun i hi => sb_uc (hs _ (by omega)) (hs _ (by omega)) (hs _ (by omega)) (hI.2.2 i hi)⟩
  · by_cases e : i = j
    · subst e
      exact hr
    · have h5 := sb_dis i hi j hj e
      have h6 := sb_bnd i hi
      exact aq_rgs (hI.1 i hi) hs (by omega)
  · have h7 := hI.2.1
    unfold cr_l at *
    rw [h0, h1]
    simp only [h2]
    exact h7

theorem qn_X4_power {m s : Nat} {F : aq_F} {c : aq_C} (hC : sb_C m F) (hI : cl_I c) {k : Int} : am_E ac_X4_power (0, [vR 0, vI k], [], aq_h m s F c) (aq_Z m s F (fun a => a < 527) c (fun r d => aq_vi r ∧ cl_I d)) := by
  obtain ⟨hCm, hC0, hC1, hC2, hC3, ⟨hma4, hFa4, hFn4, hFp4, hFf4⟩, ⟨hmx, hFx, hFl, hFw⟩, hCs, hCb, hCh⟩ := id hC
  obtain ⟨hx0, hx1, hx2, hx3, hx4⟩ := hI.2.1
  refine am_E.go (t2 := (1, [vR 0, vI k], [vI k], aq_h m s F c)) rfl rfl ?_
  refine am_E.go (t2 := (3, [vR 0, vI k], [vI (-40), vI k], aq_h m s F c)) rfl rfl ?_
  refine ae_icmp rfl (fun (q_1 : k < (-40)) => ?_) (fun (q_1 : (-40) ≤ k) => ?_)
  · refine am_E.go (t2 := (14, [vR 0, vI k], [vI (-1000000)], aq_h m s F c)) rfl rfl ?_
    refine am_E.ret rfl rfl ?_
    exact ⟨_, rfl, (aq_sm0 (S := fun a => a < 527)), ⟨_, rfl⟩, hI⟩
  · refine am_E.go (t2 := (7, [vR 0, vI k], [vI k], aq_h m s F c)) rfl rfl ?_
    refine am_E.go (t2 := (9, [vR 0, vI k], [vI 40, vI k], aq_h m s F c)) rfl rfl ?_
    refine ae_icmp rfl (fun (q_2 : k ≤ 40) => ?_) (fun (q_2 : 40 < k) => ?_)
    · refine am_E.go (t2 := (16, [vR 0, vI k], [vR 0], aq_h m s F c)) rfl rfl ?_
      refine aq_gf (v := vR 8) rfl (by omega) hC0 (by decide) rfl ?_
      show am_E _ (19, [vR 0, vI k], [vR 8], aq_h m s F c) _
      refine am_E.go (t2 := (20, [vR 0, vI k], [vI k, vR 8], aq_h m s F c)) rfl rfl ?_
      refine am_E.go (t2 := (21, [vR 0, vI k], [vR 0, vI k, vR 8], aq_h m s F c)) rfl rfl ?_
      refine aq_gf (v := vR 1) rfl (by omega) hC0 (by decide) rfl ?_
      show am_E _ (24, [vR 0, vI k], [vR 1, vI k, vR 8], aq_h m s F c) _
      refine am_E.go (t2 := (25, [vR 0, vI k], [vR 0, vR 1, vI k, vR 8], aq_h m s F c)) rfl rfl ?_
      refine aq_gf (v := vR 8) rfl (by omega) hC0 (by decide) rfl ?_
      show am_E _ (28, [vR 0, vI k], [vR 8, vR 1, vI k, vR 8], aq_h m s F c) _
      refine aq_gf (v := vI (c 8 0)) rfl (by omega) hFx (by decide) rfl ?_
      show am_E _ (31, [vR 0, vI k], [vI (c 8 0), vR 1, vI k, vR 8], aq_h m s F c) _
      refine am_E.go (t2 := (32, [vR 0, vI k], [vI 1, vI (c 8 0), vR 1, vI k, vR 8], aq_h m s F c)) rfl rfl ?_
      refine ae_sub rfl (am_ri (by omega) (by omega)) ?_
      show am_E _ (33, [vR 0, vI k], [vI ((c 8 0) - 1), vR 1, vI k, vR 8], aq_h m s F c) _
      obtain ⟨o, n, K, e_o, e_n, e_K, e_j, e_k, tP, tG, tN, tR, tL, ⟨hm, hn1, hn4, hK, hFo, hFd, hFs⟩, ⟨hPg, hPr, hPt⟩, ⟨hL, hGg, hGr, hNg, hNr, hLt, hGt, hNt⟩, ⟨hR, hRt⟩, hst, hex⟩ := sb_box hC (i := ((c 8 0) - 1)) (by omega) (by omega)
      have hb := sb_bnd (((c 8 0) - 1)).toNat (by omega)
      rw [e_o, e_k] at hb
      refine aq_al (ok := fun k => decide (3 ≤ k) && decide (k < 7)) (v := vR o) rfl rfl (by omega) hC1 rfl (by omega) (by omega) (aq_gi2 (by omega) e_o) ?_
      show am_E _ (34, [vR 0, vI k], [vR o, vI k, vR 8], aq_h m s F c) _
      refine aq_callv (y := 3) (as2 := [vI k, vR o]) (rest := []) rfl rfl (by decide) (Nat.le_of_ble_eq_true rfl) rfl rfl (Nat.le_of_ble_eq_true rfl) (by omega) hFx rfl (Nat.le_of_ble_eq_true rfl) (qn_X1_wholeAt (x := 8) (S := fun a => a = 10 ∨ a = o + 6 + 3 * K ∨ a = o + 7 + 3 * K) ⟨hmx, hFx, hFl, hFw⟩ (Or.inl rfl) (by omega) (by omega) hI.2.1 ⟨hm, hn1, hn4, hK, hFo, hFd, hFs⟩ (Or.inr (Or.inl rfl)) (Or.inr (Or.inr rfl)) (by omega) (by omega) ⟨hL, hGg, hGr, hNg, hNr, hLt, hGt, hNt⟩ ⟨hR, hRt⟩ hst (by have h9 := hI.1 (((c 8 0) - 1)).toNat (by omega); rw [e_o, e_k, ← e_j] at h9; exact h9) (by omega) (by omega)) ?_
      rintro r5 h5 ⟨c_b, rfl, s_b, ⟨v_b, rfl⟩, hr_b, h0_b, h1_b, h2_b⟩
      show am_E _ (37, [vR 0, vI k], [vI v_b], aq_h m s F c_b) _
      refine am_E.ret rfl rfl ?_
      exact ⟨_, rfl, (aq_smt (aq_sm0 (S := fun a => a < 527)) (aq_smi s_b (fun a h => by omega))), ⟨_, rfl⟩, cl_p hI (j := (((c 8 0) - 1)).toNat) (by omega) (by rw [e_o, e_k]; exact s_b) (by rw [e_o, e_k, ← e_j]; exact hr_b) h0_b h1_b h2_b⟩
    · refine am_E.go (t2 := (14, [vR 0, vI k], [vI (-1000000)], aq_h m s F c)) rfl rfl ?_
      refine am_E.ret rfl rfl ?_
      exact ⟨_, rfl, (aq_sm0 (S := fun a => a < 527)), ⟨_, rfl⟩, hI⟩
