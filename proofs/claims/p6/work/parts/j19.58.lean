
theorem qm_isPlane_in {m s : Nat} {F : aq_F} {c : aq_C} {y : Nat} (hO : mo_0 m F y) {tbl : Int → Int} (hT : mo_T F y tbl) {n bb : Int} (hn1 : 1 ≤ n) (hn4 : n ≤ 4) (hb0 : 0 ≤ bb) (hb1 : bb < bx_K n) {xa : Int} (hxa : xa = 8 * (mo_f n + bb)) : ∀ (d : Nat) (t : Int) (p : Int) (q : Int) (v7 : am_V) (v8 : am_V) (v9 : am_V) (v10 : am_V) (h0 : 0 ≤ q) (h1 : q ≤ 2 * n) (h2 : 0 ≤ p) (h3 : p < 2 * n) (h4 : t = 0 ∨ t = 1) (hd : 2 * n - q < (d : Int)) (K0 : ∀ (t2 : Int) (q2 : Int) (v72 : am_V) (v82 : am_V) (v92 : am_V) (v102 : am_V) (ht : t2 = 0 ∨ t2 = 1), am_E ac_X5_isPlane (116, [vR y, vI n, vI bb, vI xa, vI t2, vI p, vI q2, v72, v82, v92, v102], [], aq_h m s F c) (aq_P m s F c aq_vb)), am_E ac_X5_isPlane (23, [vR y, vI n, vI bb, vI xa, vI t, vI p, vI q, v7, v8, v9, v10], [], aq_h m s F c) (aq_P m s F c aq_vb)
  | 0, t, p, q, v7, v8, v9, v10, h0, h1, h2, h3, h4, hd, K0 => by exfalso; omega
  | d + 1, t, p, q, v7, v8, v9, v10, h0, h1, h2, h3, h4, hd, K0 => by
    obtain ⟨hm, hFo, hG5, hG6, hG7, hG8, hG9, hG10, hG11, hG12, hG13, hG14, hG15, hG16, hG17, hG18, hG19, hG20, hG21, hG22, hG23⟩ := hO
    obtain ⟨hT1, hTt⟩ := hT
    have hfs := mo_fs n
    have hfi := pr_fi hn1 hn4 hb0 hb1
    refine am_E.go (t2 := (25, [vR y, vI n, vI bb, vI xa, vI t, vI p, vI q, v7, v8, v9, v10], [vI q], aq_h m s F c)) rfl rfl ?_
    refine am_E.go (t2 := (26, [vR y, vI n, vI bb, vI xa, vI t, vI p, vI q, v7, v8, v9, v10], [vI 2, vI q], aq_h m s F c)) rfl rfl ?_
    refine am_E.go (t2 := (27, [vR y, vI n, vI bb, vI xa, vI t, vI p, vI q, v7, v8, v9, v10], [vI n, vI 2, vI q], aq_h m s F c)) rfl rfl ?_
    refine ae_mul rfl (am_ri (by omega) (by omega)) ?_
    show am_E _ (28, [vR y, vI n, vI bb, vI xa, vI t, vI p, vI q, v7, v8, v9, v10], [vI (2 * n), vI q], aq_h m s F c) _
    refine ae_icmp rfl (fun (q_1 : (2 * n) ≤ q) => ?_) (fun (q_1 : q < (2 * n)) => ?_)
    · exact K0 t q (v7) (v8) (v9) (v10) (by omega)
    · refine am_E.go (t2 := (32, [vR y, vI n, vI bb, vI xa, vI t, vI p, vI q, v7, v8, v9, v10], [vI n], aq_h m s F c)) rfl rfl ?_
      refine am_E.go (t2 := (34, [vR y, vI n, vI bb, vI xa, vI t, vI p, vI q, v7, v8, v9, v10], [vI p, vI n], aq_h m s F c)) rfl rfl ?_
      refine am_E.call rfl rfl rfl (Nat.le_of_ble_eq_true rfl) (qm_round) ?_
      rintro r5 h5 ⟨rfl, v_2, rfl⟩
      show am_E _ (37, [vR y, vI n, vI bb, vI xa, vI t, vI p, vI q, v7, v8, v9, v10], [vI v_2], aq_h m s F c) _
      refine am_E.go (t2 := (39, [vR y, vI n, vI bb, vI xa, vI t, vI p, vI q, vI v_2, v8, v9, v10], [], aq_h m s F c)) rfl rfl ?_
      refine am_E.go (t2 := (40, [vR y, vI n, vI bb, vI xa, vI t, vI p, vI q, vI v_2, v8, v9, v10], [vI n], aq_h m s F c)) rfl rfl ?_
      refine am_E.go (t2 := (41, [vR y, vI n, vI bb, vI xa, vI t, vI p, vI q, vI v_2, v8, v9, v10], [vR y, vI n], aq_h m s F c)) rfl rfl ?_
      refine aq_gf (v := vR (y + 1)) rfl (by omega) hFo (by decide) rfl ?_
      show am_E _ (44, [vR y, vI n, vI bb, vI xa, vI t, vI p, vI q, vI v_2, v8, v9, v10], [vR (y + 1), vI n], aq_h m s F c) _
      refine am_E.go (t2 := (45, [vR y, vI n, vI bb, vI xa, vI t, vI p, vI q, vI v_2, v8, v9, v10], [vI xa, vR (y + 1), vI n], aq_h m s F c)) rfl rfl ?_
      refine am_E.go (t2 := (47, [vR y, vI n, vI bb, vI xa, vI t, vI p, vI q, vI v_2, v8, v9, v10], [vI p, vI xa, vR (y + 1), vI n], aq_h m s F c)) rfl rfl ?_
      refine ae_add rfl (am_ri (by omega) (by omega)) ?_
      show am_E _ (48, [vR y, vI n, vI bb, vI xa, vI t, vI p, vI q, vI v_2, v8, v9, v10], [vI (xa + p), vR (y + 1), vI n], aq_h m s F c) _
      have e_t := hTt n bb p (by omega) (by omega) (by omega) (by omega) (by omega) (by omega)
      have e_fg_3 := hfi p (by omega) (by omega)
      refine aq_alt (ok := fun k => k == 0) rfl rfl (by omega) hT1 rfl (by omega) (by omega) ?_
      rw [show tbl (xa + p) = prt n bb p by rw [hxa]; exact e_t]
      show am_E _ (49, [vR y, vI n, vI bb, vI xa, vI t, vI p, vI q, vI v_2, v8, v9, v10], [vI (prt n bb p), vI n], aq_h m s F c) _
      refine am_E.call rfl rfl rfl (Nat.le_of_ble_eq_true rfl) (qm_round) ?_
      rintro r5 h5 ⟨rfl, v_4, rfl⟩
      show am_E _ (52, [vR y, vI n, vI bb, vI xa, vI t, vI p, vI q, vI v_2, v8, v9, v10], [vI v_4], aq_h m s F c) _
      refine am_E.go (t2 := (54, [vR y, vI n, vI bb, vI xa, vI t, vI p, vI q, vI v_2, vI v_4, v9, v10], [], aq_h m s F c)) rfl rfl ?_
      refine am_E.go (t2 := (55, [vR y, vI n, vI bb, vI xa, vI t, vI p, vI q, vI v_2, vI v_4, v9, v10], [vI n], aq_h m s F c)) rfl rfl ?_
      refine am_E.go (t2 := (57, [vR y, vI n, vI bb, vI xa, vI t, vI p, vI q, vI v_2, vI v_4, v9, v10], [vI q, vI n], aq_h m s F c)) rfl rfl ?_
      refine am_E.call rfl rfl rfl (Nat.le_of_ble_eq_true rfl) (qm_round) ?_
      rintro r5 h5 ⟨rfl, v_5, rfl⟩
      show am_E _ (60, [vR y, vI n, vI bb, vI xa, vI t, vI p, vI q, vI v_2, vI v_4, v9, v10], [vI v_5], aq_h m s F c) _
      refine am_E.go (t2 := (62, [vR y, vI n, vI bb, vI xa, vI t, vI p, vI q, vI v_2, vI v_4, vI v_5, v10], [], aq_h m s F c)) rfl rfl ?_
      refine am_E.go (t2 := (63, [vR y, vI n, vI bb, vI xa, vI t, vI p, vI q, vI v_2, vI v_4, vI v_5, v10], [vI n], aq_h m s F c)) rfl rfl ?_
      refine am_E.go (t2 := (64, [vR y, vI n, vI bb, vI xa, vI t, vI p, vI q, vI v_2, vI v_4, vI v_5, v10], [vR y, vI n], aq_h m s F c)) rfl rfl ?_
      refine aq_gf (v := vR (y + 1)) rfl (by omega) hFo (by decide) rfl ?_
      show am_E _ (67, [vR y, vI n, vI bb, vI xa, vI t, vI p, vI q, vI v_2, vI v_4, vI v_5, v10], [vR (y + 1), vI n], aq_h m s F c) _
      refine am_E.go (t2 := (68, [vR y, vI n, vI bb, vI xa, vI t, vI p, vI q, vI v_2, vI v_4, vI v_5, v10], [vI xa, vR (y + 1), vI n], aq_h m s F c)) rfl rfl ?_
      refine am_E.go (t2 := (70, [vR y, vI n, vI bb, vI xa, vI t, vI p, vI q, vI v_2, vI v_4, vI v_5, v10], [vI q, vI xa, vR (y + 1), vI n], aq_h m s F c)) rfl rfl ?_
      refine ae_add rfl (am_ri (by omega) (by omega)) ?_
      show am_E _ (71, [vR y, vI n, vI bb, vI xa, vI t, vI p, vI q, vI v_2, vI v_4, vI v_5, v10], [vI (xa + q), vR (y + 1), vI n], aq_h m s F c) _
      have e_t := hTt n bb q (by omega) (by omega) (by omega) (by omega) (by omega) (by omega)
      have e_fg_6 := hfi q (by omega) (by omega)
      refine aq_alt (ok := fun k => k == 0) rfl rfl (by omega) hT1 rfl (by omega) (by omega) ?_
      rw [show tbl (xa + q) = prt n bb q by rw [hxa]; exact e_t]
      show am_E _ (72, [vR y, vI n, vI bb, vI xa, vI t, vI p, vI q, vI v_2, vI v_4, vI v_5, v10], [vI (prt n bb q), vI n], aq_h m s F c) _
      refine am_E.call rfl rfl rfl (Nat.le_of_ble_eq_true rfl) (qm_round) ?_
      rintro r5 h5 ⟨rfl, v_7, rfl⟩
      show am_E _ (75, [vR y, vI n, vI bb, vI xa, vI t, vI p, vI q, vI v_2, vI v_4, vI v_5, v10], [vI v_7], aq_h m s F c) _
      refine am_E.go (t2 := (77, [vR y, vI n, vI bb, vI xa, vI t, vI p, vI q, vI v_2, vI v_4, vI v_5, vI v_7], [], aq_h m s F c)) rfl rfl ?_
      refine am_E.go (t2 := (79, [vR y, vI n, vI bb, vI xa, vI t, vI p, vI q, vI v_2, vI v_4, vI v_5, vI v_7], [vI t], aq_h m s F c)) rfl rfl ?_
      refine ae_if0 rfl (fun (q_8 : t = 0) => ?_) (fun (q_8 : t ≠ 0) => ?_)
      · refine am_E.go (t2 := (108, [vR y, vI n, vI bb, vI xa, vI t, vI p, vI q, vI v_2, vI v_4, vI v_5, vI v_7], [vI 0], aq_h m s F c)) rfl rfl ?_
        refine am_E.go (t2 := (110, [vR y, vI n, vI bb, vI xa, vI 0, vI p, vI q, vI v_2, vI v_4, vI v_5, vI v_7], [], aq_h m s F c)) rfl rfl ?_
        refine ae_iinc rfl rfl (am_ri (by omega) (by omega)) ?_
        show am_E _ (113, [vR y, vI n, vI bb, vI xa, vI 0, vI p, vI (q + 1), vI v_2, vI v_4, vI v_5, vI v_7], [], aq_h m s F c) _
        refine am_E.go (t2 := (23, [vR y, vI n, vI bb, vI xa, vI 0, vI p, vI (q + 1), vI v_2, vI v_4, vI v_5, vI v_7], [], aq_h m s F c)) rfl rfl ?_
        exact qm_isPlane_in ⟨hm, hFo, hG5, hG6, hG7, hG8, hG9, hG10, hG11, hG12, hG13, hG14, hG15, hG16, hG17, hG18, hG19, hG20, hG21, hG22, hG23⟩ ⟨hT1, hTt⟩ hn1 hn4 hb0 hb1 hxa d 0 p (q + 1) (vI v_2) (vI v_4) (vI v_5) (vI v_7) (by omega) (by omega) (by omega) (by omega) (by omega) (by omega) K0
      · refine am_E.go (t2 := (84, [vR y, vI n, vI bb, vI xa, vI t, vI p, vI q, vI v_2, vI v_4, vI v_5, vI v_7], [vI v_2], aq_h m s F c)) rfl rfl ?_
        refine am_E.go (t2 := (86, [vR y, vI n, vI bb, vI xa, vI t, vI p, vI q, vI v_2, vI v_4, vI v_5, vI v_7], [vI v_5, vI v_2], aq_h m s F c)) rfl rfl ?_
        refine ae_icmp rfl (fun (q_9 : v_5 ≤ v_2) => ?_) (fun (q_9 : v_2 < v_5) => ?_)
        · refine am_E.go (t2 := (104, [vR y, vI n, vI bb, vI xa, vI t, vI p, vI q, vI v_2, vI v_4, vI v_5, vI v_7], [vI 1], aq_h m s F c)) rfl rfl ?_
          refine am_E.go (t2 := (108, [vR y, vI n, vI bb, vI xa, vI t, vI p, vI q, vI v_2, vI v_4, vI v_5, vI v_7], [vI 1], aq_h m s F c)) rfl rfl ?_
          refine am_E.go (t2 := (110, [vR y, vI n, vI bb, vI xa, vI 1, vI p, vI q, vI v_2, vI v_4, vI v_5, vI v_7], [], aq_h m s F c)) rfl rfl ?_
          refine ae_iinc rfl rfl (am_ri (by omega) (by omega)) ?_
          show am_E _ (113, [vR y, vI n, vI bb, vI xa, vI 1, vI p, vI (q + 1), vI v_2, vI v_4, vI v_5, vI v_7], [], aq_h m s F c) _
          refine am_E.go (t2 := (23, [vR y, vI n, vI bb, vI xa, vI 1, vI p, vI (q + 1), vI v_2, vI v_4, vI v_5, vI v_7], [], aq_h m s F c)) rfl rfl ?_
          exact qm_isPlane_in ⟨hm, hFo, hG5, hG6, hG7, hG8, hG9, hG10, hG11, hG12, hG13, hG14, hG15, hG16, hG17, hG18, hG19, hG20, hG21, hG22, hG23⟩ ⟨hT1, hTt⟩ hn1 hn4 hb0 hb1 hxa d 1 p (q + 1) (vI v_2) (vI v_4) (vI v_5) (vI v_7) (by omega) (by omega) (by omega) (by omega) (by omega) (by omega) K0
        · refine am_E.go (t2 := (91, [vR y, vI n, vI bb, vI xa, vI t, vI p, vI q, vI v_2, vI v_4, vI v_5, vI v_7], [vI v_5], aq_h m s F c)) rfl rfl ?_
          refine am_E.go (t2 := (93, [vR y, vI n, vI bb, vI xa, vI t, vI p, vI q, vI v_2, vI v_4, vI v_5, vI v_7], [vI v_4, vI v_5], aq_h m s F c)) rfl rfl ?_
          refine ae_icmp rfl (fun (q_10 : v_4 ≤ v_5) => ?_) (fun (q_10 : v_5 < v_4) => ?_)
          · refine am_E.go (t2 := (104, [vR y, vI n, vI bb, vI xa, vI t, vI p, vI q, vI v_2, vI v_4, vI v_5, vI v_7], [vI 1], aq_h m s F c)) rfl rfl ?_
            refine am_E.go (t2 := (108, [vR y, vI n, vI bb, vI xa, vI t, vI p, vI q, vI v_2, vI v_4, vI v_5, vI v_7], [vI 1], aq_h m s F c)) rfl rfl ?_
            refine am_E.go (t2 := (110, [vR y, vI n, vI bb, vI xa, vI 1, vI p, vI q, vI v_2, vI v_4, vI v_5, vI v_7], [], aq_h m s F c)) rfl rfl ?_
            refine ae_iinc rfl rfl (am_ri (by omega) (by omega)) ?_
            show am_E _ (113, [vR y, vI n, vI bb, vI xa, vI 1, vI p, vI (q + 1), vI v_2, vI v_4, vI v_5, vI v_7], [], aq_h m s F c) _
            refine am_E.go (t2 := (23, [vR y, vI n, vI bb, vI xa, vI 1, vI p, vI (q + 1), vI v_2, vI v_4, vI v_5, vI v_7], [], aq_h m s F c)) rfl rfl ?_
            exact qm_isPlane_in ⟨hm, hFo, hG5, hG6, hG7, hG8, hG9, hG10, hG11, hG12, hG13, hG14, hG15, hG16, hG17, hG18, hG19, hG20, hG21, hG22, hG23⟩ ⟨hT1, hTt⟩ hn1 hn4 hb0 hb1 hxa d 1 p (q + 1) (vI v_2) (vI v_4) (vI v_5) (vI v_7) (by omega) (by omega) (by omega) (by omega) (by omega) (by omega) K0
          · refine am_E.go (t2 := (98, [vR y, vI n, vI bb, vI xa, vI t, vI p, vI q, vI v_2, vI v_4, vI v_5, vI v_7], [vI v_4], aq_h m s F c)) rfl rfl ?_
            refine am_E.go (t2 := (100, [vR y, vI n, vI bb, vI xa, vI t, vI p, vI q, vI v_2, vI v_4, vI v_5, vI v_7], [vI v_7, vI v_4], aq_h m s F c)) rfl rfl ?_
            refine ae_icmp rfl (fun (q_11 : v_4 < v_7) => ?_) (fun (q_11 : v_7 ≤ v_4) => ?_)
            · refine am_E.go (t2 := (108, [vR y, vI n, vI bb, vI xa, vI t, vI p, vI q, vI v_2, vI v_4, vI v_5, vI v_7], [vI 0], aq_h m s F c)) rfl rfl ?_
              refine am_E.go (t2 := (110, [vR y, vI n, vI bb, vI xa, vI 0, vI p, vI q, vI v_2, vI v_4, vI v_5, vI v_7], [], aq_h m s F c)) rfl rfl ?_
              refine ae_iinc rfl rfl (am_ri (by omega) (by omega)) ?_
              show am_E _ (113, [vR y, vI n, vI bb, vI xa, vI 0, vI p, vI (q + 1), vI v_2, vI v_4, vI v_5, vI v_7], [], aq_h m s F c) _
              refine am_E.go (t2 := (23, [vR y, vI n, vI bb, vI xa, vI 0, vI p, vI (q + 1), vI v_2, vI v_4, vI v_5, vI v_7], [], aq_h m s F c)) rfl rfl ?_
              exact qm_isPlane_in ⟨hm, hFo, hG5, hG6, hG7, hG8, hG9, hG10, hG11, hG12, hG13, hG14, hG15, hG16, hG17, hG18, hG19, hG20, hG21, hG22, hG23⟩ ⟨hT1, hTt⟩ hn1 hn4 hb0 hb1 hxa d 0 p (q + 1) (vI v_2) (vI v_4) (vI v_5) (vI v_7) (by omega) (by omega) (by omega) (by omega) (by omega) (by omega) K0
            · refine am_E.go (t2 := (104, [vR y, vI n, vI bb, vI xa, vI t, vI p, vI q, vI v_2, vI v_4, vI v_5, vI v_7], [vI 1], aq_h m s F c)) rfl rfl ?_
              refine am_E.go (t2 := (108, [vR y, vI n, vI bb, vI xa, vI t, vI p, vI q, vI v_2, vI v_4, vI v_5, vI v_7], [vI 1], aq_h m s F c)) rfl rfl ?_
              refine am_E.go (t2 := (110, [vR y, vI n, vI bb, vI xa, vI 1, vI p, vI q, vI v_2, vI v_4, vI v_5, vI v_7], [], aq_h m s F c)) rfl rfl ?_
              refine ae_iinc rfl rfl (am_ri (by omega) (by omega)) ?_
              show am_E _ (113, [vR y, vI n, vI bb, vI xa, vI 1, vI p, vI (q + 1), vI v_2, vI v_4, vI v_5, vI v_7], [], aq_h m s F c) _
              refine am_E.go (t2 := (23, [vR y, vI n, vI bb, vI xa, vI 1, vI p, vI (q + 1), vI v_2, vI v_4, vI v_5, vI v_7], [], aq_h m s F c)) rfl rfl ?_
              exact qm_isPlane_in ⟨hm, hFo, hG5, hG6, hG7, hG8, hG9, hG10, hG11, hG12, hG13, hG14, hG15, hG16, hG17, hG18, hG19, hG20, hG21, hG22, hG23⟩ ⟨hT1, hTt⟩ hn1 hn4 hb0 hb1 hxa d 1 p (q + 1) (vI v_2) (vI v_4) (vI v_5) (vI v_7) (by omega) (by omega) (by omega) (by omega) (by omega) (by omega) K0

theorem qm_isPlane_out {m s : Nat} {F : aq_F} {c : aq_C} {y : Nat} (hO : mo_0 m F y) {tbl : Int → Int} (hT : mo_T F y tbl) {n bb : Int} (hn1 : 1 ≤ n) (hn4 : n ≤ 4) (hb0 : 0 ≤ bb) (hb1 : bb < bx_K n) {xa : Int} (hxa : xa = 8 * (mo_f n + bb)) : ∀ (d : Nat) (t : Int) (p : Int) (v6 : am_V) (v7 : am_V) (v8 : am_V) (v9 : am_V) (v10 : am_V) (h0 : 0 ≤ p) (h1 : p ≤ 2 * n) (h4 : t = 0 ∨ t = 1) (hd : 2 * n - p < (d : Int)), am_E ac_X5_isPlane (12, [vR y, vI n, vI bb, vI xa, vI t, vI p, v6, v7, v8, v9, v10], [], aq_h m s F c) (aq_P m s F c aq_vb)
  | 0, t, p, v6, v7, v8, v9, v10, h0, h1, h4, hd => by exfalso; omega
  | d + 1, t, p, v6, v7, v8, v9, v10, h0, h1, h4, hd => by
    obtain ⟨hm, hFo, hG5, hG6, hG7, hG8, hG9, hG10, hG11, hG12, hG13, hG14, hG15, hG16, hG17, hG18, hG19, hG20, hG21, hG22, hG23⟩ := hO
    obtain ⟨hT1, hTt⟩ := hT
    have hfs := mo_fs n
    have hfi := pr_fi hn1 hn4 hb0 hb1
    refine am_E.go (t2 := (14, [vR y, vI n, vI bb, vI xa, vI t, vI p, v6, v7, v8, v9, v10], [vI p], aq_h m s F c)) rfl rfl ?_
    refine am_E.go (t2 := (15, [vR y, vI n, vI bb, vI xa, vI t, vI p, v6, v7, v8, v9, v10], [vI 2, vI p], aq_h m s F c)) rfl rfl ?_
    refine am_E.go (t2 := (16, [vR y, vI n, vI bb, vI xa, vI t, vI p, v6, v7, v8, v9, v10], [vI n, vI 2, vI p], aq_h m s F c)) rfl rfl ?_
    refine ae_mul rfl (am_ri (by omega) (by omega)) ?_
    show am_E _ (17, [vR y, vI n, vI bb, vI xa, vI t, vI p, v6, v7, v8, v9, v10], [vI (2 * n), vI p], aq_h m s F c) _
    refine ae_icmp rfl (fun (q_1 : (2 * n) ≤ p) => ?_) (fun (q_1 : p < (2 * n)) => ?_)
    · refine am_E.go (t2 := (124, [vR y, vI n, vI bb, vI xa, vI t, vI p, v6, v7, v8, v9, v10], [vI t], aq_h m s F c)) rfl rfl ?_
      refine ae_retb rfl (by omega) ?_
      exact ⟨rfl, _, rfl, by omega⟩
    · refine am_E.go (t2 := (21, [vR y, vI n, vI bb, vI xa, vI t, vI p, v6, v7, v8, v9, v10], [vI 0], aq_h m s F c)) rfl rfl ?_
      refine am_E.go (t2 := (23, [vR y, vI n, vI bb, vI xa, vI t, vI p, vI 0, v7, v8, v9, v10], [], aq_h m s F c)) rfl rfl ?_
      refine qm_isPlane_in ⟨hm, hFo, hG5, hG6, hG7, hG8, hG9, hG10, hG11, hG12, hG13, hG14, hG15, hG16, hG17, hG18, hG19, hG20, hG21, hG22, hG23⟩ ⟨hT1, hTt⟩ hn1 hn4 hb0 hb1 hxa 9 t p 0 (v7) (v8) (v9) (v10) (by omega) (by omega) (by omega) (by omega) (by omega) (by omega) ?_
      · intro t2_23 q2_23 v72_23 v82_23 v92_23 v102_23 ht_23
        refine ae_iinc rfl rfl (am_ri (by omega) (by omega)) ?_
        show am_E _ (119, [vR y, vI n, vI bb, vI xa, vI t2_23, vI (p + 1), vI q2_23, v72_23, v82_23, v92_23, v102_23], [], aq_h m s F c) _
        refine am_E.go (t2 := (12, [vR y, vI n, vI bb, vI xa, vI t2_23, vI (p + 1), vI q2_23, v72_23, v82_23, v92_23, v102_23], [], aq_h m s F c)) rfl rfl ?_
        exact qm_isPlane_out ⟨hm, hFo, hG5, hG6, hG7, hG8, hG9, hG10, hG11, hG12, hG13, hG14, hG15, hG16, hG17, hG18, hG19, hG20, hG21, hG22, hG23⟩ ⟨hT1, hTt⟩ hn1 hn4 hb0 hb1 hxa d t2_23 (p + 1) (vI q2_23) (v72_23) (v82_23) (v92_23) (v102_23) (by omega) (by omega) (by omega) (by omega)

theorem qm_isPlane {m s : Nat} {F : aq_F} {c : aq_C} {y : Nat} (hO : mo_0 m F y) {tbl : Int → Int} (hT : mo_T F y tbl) {n bb : Int} (hn1 : 1 ≤ n) (hn4 : n ≤ 4) (hb0 : 0 ≤ bb) (hb1 : bb < bx_K n) : am_E ac_X5_isPlane (0, [vR y, vI n, vI bb, vU, vU, vU, vU, vU, vU, vU, vU], [], aq_h m s F c) (aq_P m s F c aq_vb) := by
  obtain ⟨hm, hFo, hG5, hG6, hG7, hG8, hG9, hG10, hG11, hG12, hG13, hG14, hG15, hG16, hG17, hG18, hG19, hG20, hG21, hG22, hG23⟩ := hO
  obtain ⟨hT1, hTt⟩ := hT
  have hfs := mo_fs n
  have hfi := pr_fi hn1 hn4 hb0 hb1
  refine am_E.go (t2 := (1, [vR y, vI n, vI bb, vU, vU, vU, vU, vU, vU, vU, vU], [vI n], aq_h m s F c)) rfl rfl ?_
  refine am_E.go (t2 := (2, [vR y, vI n, vI bb, vU, vU, vU, vU, vU, vU, vU, vU], [vI bb, vI n], aq_h m s F c)) rfl rfl ?_
  refine am_E.call rfl rfl rfl (Nat.le_of_ble_eq_true rfl) (qm_at (by omega) (by omega)) ?_
  rintro r5 h5 ⟨rfl, xa, rfl, hxa⟩
  show am_E _ (5, [vR y, vI n, vI bb, vU, vU, vU, vU, vU, vU, vU, vU], [vI xa], aq_h m s F c) _
  refine am_E.go (t2 := (6, [vR y, vI n, vI bb, vI xa, vU, vU, vU, vU, vU, vU, vU], [], aq_h m s F c)) rfl rfl ?_
  refine am_E.go (t2 := (7, [vR y, vI n, vI bb, vI xa, vU, vU, vU, vU, vU, vU, vU], [vI 1], aq_h m s F c)) rfl rfl ?_
  refine am_E.go (t2 := (9, [vR y, vI n, vI bb, vI xa, vI 1, vU, vU, vU, vU, vU, vU], [], aq_h m s F c)) rfl rfl ?_
  refine am_E.go (t2 := (10, [vR y, vI n, vI bb, vI xa, vI 1, vU, vU, vU, vU, vU, vU], [vI 0], aq_h m s F c)) rfl rfl ?_
  refine am_E.go (t2 := (12, [vR y, vI n, vI bb, vI xa, vI 1, vI 0, vU, vU, vU, vU, vU], [], aq_h m s F c)) rfl rfl ?_
  exact qm_isPlane_out ⟨hm, hFo, hG5, hG6, hG7, hG8, hG9, hG10, hG11, hG12, hG13, hG14, hG15, hG16, hG17, hG18, hG19, hG20, hG21, hG22, hG23⟩ ⟨hT1, hTt⟩ hn1 hn4 hb0 hb1 hxa 9 1 0 (vU) (vU) (vU) (vU) (vU) (by omega) (by omega) (by omega) (by omega)

theorem qm_through_l {m s : Nat} {F : aq_F} {c : aq_C} {y : Nat} (hO : mo_0 m F y) {tbl : Int → Int} (hT : mo_T F y tbl) {n bb : Int} (hn1 : 1 ≤ n) (hn4 : n ≤ 4) (hb0 : 0 ≤ bb) (hb1 : bb < bx_K n) : ∀ (d : Nat) (x : Int) (p : Int) (h0 : 0 ≤ p) (h1 : p ≤ n) (hd : n - p < (d : Int)), am_E ac_X5_through (5, [vR y, vI n, vI bb, vI x, vI p], [], aq_h m s F c) (aq_P m s F c aq_vi)
  | 0, x, p, h0, h1, hd => by exfalso; omega
  | d + 1, x, p, h0, h1, hd => by
    obtain ⟨hm, hFo, hG5, hG6, hG7, hG8, hG9, hG10, hG11, hG12, hG13, hG14, hG15, hG16, hG17, hG18, hG19, hG20, hG21, hG22, hG23⟩ := hO
    obtain ⟨hT1, hTt⟩ := hT
    have hfs := mo_fs n
    have hfi := pr_fi hn1 hn4 hb0 hb1
    refine am_E.go (t2 := (7, [vR y, vI n, vI bb, vI x, vI p], [vI p], aq_h m s F c)) rfl rfl ?_
    refine am_E.go (t2 := (8, [vR y, vI n, vI bb, vI x, vI p], [vI n, vI p], aq_h m s F c)) rfl rfl ?_
    refine ae_icmp rfl (fun (q_1 : n ≤ p) => ?_) (fun (q_1 : p < n) => ?_)
    · refine am_E.go (t2 := (43, [vR y, vI n, vI bb, vI x, vI p], [vI x], aq_h m s F c)) rfl rfl ?_
      refine am_E.ret rfl rfl ?_
      exact ⟨rfl, _, rfl⟩
    · refine am_E.go (t2 := (12, [vR y, vI n, vI bb, vI x, vI p], [vI x], aq_h m s F c)) rfl rfl ?_
      refine am_E.go (t2 := (13, [vR y, vI n, vI bb, vI x, vI p], [vR y, vI x], aq_h m s F c)) rfl rfl ?_
      refine aq_gf (v := vR (y + 1)) rfl (by omega) hFo (by decide) rfl ?_
      show am_E _ (16, [vR y, vI n, vI bb, vI x, vI p], [vR (y + 1), vI x], aq_h m s F c) _
      refine am_E.go (t2 := (17, [vR y, vI n, vI bb, vI x, vI p], [vI n, vR (y + 1), vI x], aq_h m s F c)) rfl rfl ?_
      refine am_E.go (t2 := (18, [vR y, vI n, vI bb, vI x, vI p], [vI bb, vI n, vR (y + 1), vI x], aq_h m s F c)) rfl rfl ?_
      refine am_E.call rfl rfl rfl (Nat.le_of_ble_eq_true rfl) (qm_at (by omega) (by omega)) ?_
      rintro r5 h5 ⟨rfl, xa, rfl, hxa⟩
      show am_E _ (21, [vR y, vI n, vI bb, vI x, vI p], [vI xa, vR (y + 1), vI x], aq_h m s F c) _
      refine am_E.go (t2 := (23, [vR y, vI n, vI bb, vI x, vI p], [vI p, vI xa, vR (y + 1), vI x], aq_h m s F c)) rfl rfl ?_
      refine ae_add rfl (am_ri (by omega) (by omega)) ?_
      show am_E _ (24, [vR y, vI n, vI bb, vI x, vI p], [vI (xa + p), vR (y + 1), vI x], aq_h m s F c) _
      have e_t := hTt n bb p (by omega) (by omega) (by omega) (by omega) (by omega) (by omega)
      have e_fg_2 := hfi p (by omega) (by omega)
      refine aq_alt (ok := fun k => k == 0) rfl rfl (by omega) hT1 rfl (by omega) (by omega) ?_
      rw [show tbl (xa + p) = prt n bb p by rw [hxa]; exact e_t]
      show am_E _ (25, [vR y, vI n, vI bb, vI x, vI p], [vI (prt n bb p), vI x], aq_h m s F c) _
      refine am_E.go (t2 := (26, [vR y, vI n, vI bb, vI x, vI p], [vI n, vI (prt n bb p), vI x], aq_h m s F c)) rfl rfl ?_
      refine ae_icmp rfl (fun (q_3 : (prt n bb p) < n) => ?_) (fun (q_3 : n ≤ (prt n bb p)) => ?_)
      · refine am_E.go (t2 := (34, [vR y, vI n, vI bb, vI x, vI p], [vI 0, vI x], aq_h m s F c)) rfl rfl ?_
        refine am_E.go (t2 := (35, [vR y, vI n, vI bb, vI x, vI p], [vI (am_w (x + 0))], aq_h m s F c)) rfl rfl ?_
        refine am_E.go (t2 := (36, [vR y, vI n, vI bb, vI (am_w (x + 0)), vI p], [], aq_h m s F c)) rfl rfl ?_
        refine ae_iinc rfl rfl (am_ri (by omega) (by omega)) ?_
        show am_E _ (39, [vR y, vI n, vI bb, vI (am_w (x + 0)), vI (p + 1)], [], aq_h m s F c) _
        refine am_E.go (t2 := (5, [vR y, vI n, vI bb, vI (am_w (x + 0)), vI (p + 1)], [], aq_h m s F c)) rfl rfl ?_
        exact qm_through_l ⟨hm, hFo, hG5, hG6, hG7, hG8, hG9, hG10, hG11, hG12, hG13, hG14, hG15, hG16, hG17, hG18, hG19, hG20, hG21, hG22, hG23⟩ ⟨hT1, hTt⟩ hn1 hn4 hb0 hb1 d (am_w (x + 0)) (p + 1) (by omega) (by omega) (by omega)
      · refine am_E.go (t2 := (30, [vR y, vI n, vI bb, vI x, vI p], [vI 1, vI x], aq_h m s F c)) rfl rfl ?_
        refine am_E.go (t2 := (34, [vR y, vI n, vI bb, vI x, vI p], [vI 1, vI x], aq_h m s F c)) rfl rfl ?_
        refine am_E.go (t2 := (35, [vR y, vI n, vI bb, vI x, vI p], [vI (am_w (x + 1))], aq_h m s F c)) rfl rfl ?_
        refine am_E.go (t2 := (36, [vR y, vI n, vI bb, vI (am_w (x + 1)), vI p], [], aq_h m s F c)) rfl rfl ?_
        refine ae_iinc rfl rfl (am_ri (by omega) (by omega)) ?_
        show am_E _ (39, [vR y, vI n, vI bb, vI (am_w (x + 1)), vI (p + 1)], [], aq_h m s F c) _
        refine am_E.go (t2 := (5, [vR y, vI n, vI bb, vI (am_w (x + 1)), vI (p + 1)], [], aq_h m s F c)) rfl rfl ?_
        exact qm_through_l ⟨hm, hFo, hG5, hG6, hG7, hG8, hG9, hG10, hG11, hG12, hG13, hG14, hG15, hG16, hG17, hG18, hG19, hG20, hG21, hG22, hG23⟩ ⟨hT1, hTt⟩ hn1 hn4 hb0 hb1 d (am_w (x + 1)) (p + 1) (by omega) (by omega) (by omega)

theorem qm_through {m s : Nat} {F : aq_F} {c : aq_C} {y : Nat} (hO : mo_0 m F y) {tbl : Int → Int} (hT : mo_T F y tbl) {n bb : Int} (hn1 : 1 ≤ n) (hn4 : n ≤ 4) (hb0 : 0 ≤ bb) (hb1 : bb < bx_K n) : am_E ac_X5_through (0, [vR y, vI n, vI bb, vU, vU], [], aq_h m s F c) (aq_P m s F c aq_vi) := by
  obtain ⟨hm, hFo, hG5, hG6, hG7, hG8, hG9, hG10, hG11, hG12, hG13, hG14, hG15, hG16, hG17, hG18, hG19, hG20, hG21, hG22, hG23⟩ := hO
  obtain ⟨hT1, hTt⟩ := hT
  have hfs := mo_fs n
  have hfi := pr_fi hn1 hn4 hb0 hb1
  refine am_E.go (t2 := (1, [vR y, vI n, vI bb, vU, vU], [vI 0], aq_h m s F c)) rfl rfl ?_
  refine am_E.go (t2 := (2, [vR y, vI n, vI bb, vI 0, vU], [], aq_h m s F c)) rfl rfl ?_
  refine am_E.go (t2 := (3, [vR y, vI n, vI bb, vI 0, vU], [vI 0], aq_h m s F c)) rfl rfl ?_
  refine am_E.go (t2 := (5, [vR y, vI n, vI bb, vI 0, vI 0], [], aq_h m s F c)) rfl rfl ?_
  exact qm_through_l ⟨hm, hFo, hG5, hG6, hG7, hG8, hG9, hG10, hG11, hG12, hG13, hG14, hG15, hG16, hG17, hG18, hG19, hG20, hG21, hG22, hG23⟩ ⟨hT1, hTt⟩ hn1 hn4 hb0 hb1 9 0 0 (by omega) (by omega) (by omega)

theorem qm_upsideDown_l {m s : Nat} {F : aq_F} {c0 : aq_C} {S : Nat → Prop} {y : Nat} (hO : mo_0 m F y) (hS12 : S (y + 12)) {tbl : Int → Int} (hT : mo_T F y tbl) {n bb : Int} (hn1 : 1 ≤ n) (hn4 : n ≤ 4) (hb0 : 0 ≤ bb) (hb1 : bb < bx_K n) : ∀ (d : Nat) (p : Int) (v4 : am_V) (c : aq_C) (hs : aq_sm S c0 c) (h0 : 0 ≤ p) (h1 : p ≤ 2 * n) (hd : 2 * n - p < (d : Int)), am_E ac_X5_upsideDown (2, [vR y, vI n, vI bb, vI p, v4], [], aq_h m s F c) (aq_Z m s F S c0 (fun r _ => aq_vi r))
  | 0, p, v4, c, hs, h0, h1, hd => by exfalso; omega
  | d + 1, p, v4, c, hs, h0, h1, hd => by
    obtain ⟨hm, hFo, hG5, hG6, hG7, hG8, hG9, hG10, hG11, hG12, hG13, hG14, hG15, hG16, hG17, hG18, hG19, hG20, hG21, hG22, hG23⟩ := hO
    obtain ⟨hT1, hTt⟩ := hT
    have hfs := mo_fs n
    have hfi := pr_fi hn1 hn4 hb0 hb1
    refine am_E.go (t2 := (3, [vR y, vI n, vI bb, vI p, v4], [vI p], aq_h m s F c)) rfl rfl ?_
    refine am_E.go (t2 := (4, [vR y, vI n, vI bb, vI p, v4], [vI 2, vI p], aq_h m s F c)) rfl rfl ?_
    refine am_E.go (t2 := (5, [vR y, vI n, vI bb, vI p, v4], [vI n, vI 2, vI p], aq_h m s F c)) rfl rfl ?_
    refine ae_mul rfl (am_ri (by omega) (by omega)) ?_
    show am_E _ (6, [vR y, vI n, vI bb, vI p, v4], [vI (2 * n), vI p], aq_h m s F c) _
    refine ae_icmp rfl (fun (q_1 : (2 * n) ≤ p) => ?_) (fun (q_1 : p < (2 * n)) => ?_)
    · refine am_E.go (t2 := (66, [vR y, vI n, vI bb, vI p, v4], [vR y], aq_h m s F c)) rfl rfl ?_
      refine am_E.go (t2 := (67, [vR y, vI n, vI bb, vI p, v4], [vI n, vR y], aq_h m s F c)) rfl rfl ?_
      refine aq_callv (y := 2) (as2 := [vI n]) (rest := []) rfl rfl (by decide) (Nat.le_of_ble_eq_true rfl) rfl rfl (Nat.le_of_ble_eq_true rfl) (by omega) hFo rfl (Nat.le_of_ble_eq_true rfl) (qm_numberOf ⟨hm, hFo, hG5, hG6, hG7, hG8, hG9, hG10, hG11, hG12, hG13, hG14, hG15, hG16, hG17, hG18, hG19, hG20, hG21, hG22, hG23⟩ ⟨hT1, hTt⟩ hn1 hn4) ?_
      rintro r5 h5 ⟨rfl, v_2, rfl, hv_2⟩
      show am_E _ (70, [vR y, vI n, vI bb, vI p, v4], [vI v_2], aq_h m s F c) _
      refine am_E.ret rfl rfl ?_
      exact ⟨_, rfl, hs, _, rfl⟩
    · refine am_E.go (t2 := (10, [vR y, vI n, vI bb, vI p, v4], [vR y], aq_h m s F c)) rfl rfl ?_
      refine aq_gf (v := vR (y + 1)) rfl (by omega) hFo (by decide) rfl ?_
      show am_E _ (13, [vR y, vI n, vI bb, vI p, v4], [vR (y + 1)], aq_h m s F c) _
      refine am_E.go (t2 := (14, [vR y, vI n, vI bb, vI p, v4], [vI n, vR (y + 1)], aq_h m s F c)) rfl rfl ?_
      refine am_E.go (t2 := (15, [vR y, vI n, vI bb, vI p, v4], [vI bb, vI n, vR (y + 1)], aq_h m s F c)) rfl rfl ?_
      refine am_E.call rfl rfl rfl (Nat.le_of_ble_eq_true rfl) (qm_at (by omega) (by omega)) ?_
      rintro r5 h5 ⟨rfl, xa, rfl, hxa⟩
      show am_E _ (18, [vR y, vI n, vI bb, vI p, v4], [vI xa, vR (y + 1)], aq_h m s F c) _
      refine am_E.go (t2 := (19, [vR y, vI n, vI bb, vI p, v4], [vI p, vI xa, vR (y + 1)], aq_h m s F c)) rfl rfl ?_
      refine ae_add rfl (am_ri (by omega) (by omega)) ?_
      show am_E _ (20, [vR y, vI n, vI bb, vI p, v4], [vI (xa + p), vR (y + 1)], aq_h m s F c) _
      have e_t := hTt n bb p (by omega) (by omega) (by omega) (by omega) (by omega) (by omega)
      have e_fg_3 := hfi p (by omega) (by omega)
      refine aq_alt (ok := fun k => k == 0) rfl rfl (by omega) hT1 rfl (by omega) (by omega) ?_
      rw [show tbl (xa + p) = prt n bb p by rw [hxa]; exact e_t]
      show am_E _ (21, [vR y, vI n, vI bb, vI p, v4], [vI (prt n bb p)], aq_h m s F c) _
      refine am_E.go (t2 := (23, [vR y, vI n, vI bb, vI p, vI (prt n bb p)], [], aq_h m s F c)) rfl rfl ?_
      refine am_E.go (t2 := (24, [vR y, vI n, vI bb, vI p, vI (prt n bb p)], [vR y], aq_h m s F c)) rfl rfl ?_
      refine aq_gf (v := vR (y + 12)) rfl (by omega) hFo (by decide) rfl ?_
      show am_E _ (27, [vR y, vI n, vI bb, vI p, vI (prt n bb p)], [vR (y + 12)], aq_h m s F c) _
      refine am_E.go (t2 := (28, [vR y, vI n, vI bb, vI p, vI (prt n bb p)], [vI p, vR (y + 12)], aq_h m s F c)) rfl rfl ?_
      refine am_E.go (t2 := (29, [vR y, vI n, vI bb, vI p, vI (prt n bb p)], [vI n, vI p, vR (y + 12)], aq_h m s F c)) rfl rfl ?_
      refine ae_icmp rfl (fun (q_4 : n ≤ p) => ?_) (fun (q_4 : p < n) => ?_)
      · refine am_E.go (t2 := (39, [vR y, vI n, vI bb, vI p, vI (prt n bb p)], [vI p, vR (y + 12)], aq_h m s F c)) rfl rfl ?_
        refine am_E.go (t2 := (40, [vR y, vI n, vI bb, vI p, vI (prt n bb p)], [vI n, vI p, vR (y + 12)], aq_h m s F c)) rfl rfl ?_
        refine ae_sub rfl (am_ri (by omega) (by omega)) ?_
        show am_E _ (41, [vR y, vI n, vI bb, vI p, vI (prt n bb p)], [vI (p - n), vR (y + 12)], aq_h m s F c) _
        refine am_E.go (t2 := (43, [vR y, vI n, vI bb, vI p, vI (prt n bb p)], [vI (prt n bb p), vI (p - n), vR (y + 12)], aq_h m s F c)) rfl rfl ?_
        refine am_E.go (t2 := (44, [vR y, vI n, vI bb, vI p, vI (prt n bb p)], [vI n, vI (prt n bb p), vI (p - n), vR (y + 12)], aq_h m s F c)) rfl rfl ?_
        refine ae_icmp rfl (fun (q_5 : n ≤ (prt n bb p)) => ?_) (fun (q_5 : (prt n bb p) < n) => ?_)
        · refine am_E.go (t2 := (56, [vR y, vI n, vI bb, vI p, vI (prt n bb p)], [vI (prt n bb p), vI (p - n), vR (y + 12)], aq_h m s F c)) rfl rfl ?_
          refine am_E.go (t2 := (57, [vR y, vI n, vI bb, vI p, vI (prt n bb p)], [vI n, vI (prt n bb p), vI (p - n), vR (y + 12)], aq_h m s F c)) rfl rfl ?_
          refine ae_sub rfl (am_ri (by omega) (by omega)) ?_
          show am_E _ (58, [vR y, vI n, vI bb, vI p, vI (prt n bb p)], [vI ((prt n bb p) - n), vI (p - n), vR (y + 12)], aq_h m s F c) _
          refine aq_as (kd := 0) rfl rfl (by omega) hG12 (by omega) (by omega) rfl rfl ?_
          show am_E _ (59, [vR y, vI n, vI bb, vI p, vI (prt n bb p)], [], aq_h m s F (aq_u c (y + 12) (p - n) ((prt n bb p) - n))) _
          generalize hdc_6 : aq_u c (y + 12) (p - n) ((prt n bb p) - n) = c_6
          have sc_6 := aq_smu hs hdc_6 (hS12)
          refine ae_iinc rfl rfl (am_ri (by omega) (by omega)) ?_
          show am_E _ (62, [vR y, vI n, vI bb, vI (p + 1), vI (prt n bb p)], [], aq_h m s F c_6) _
          refine am_E.go (t2 := (2, [vR y, vI n, vI bb, vI (p + 1), vI (prt n bb p)], [], aq_h m s F c_6)) rfl rfl ?_
          exact qm_upsideDown_l ⟨hm, hFo, hG5, hG6, hG7, hG8, hG9, hG10, hG11, hG12, hG13, hG14, hG15, hG16, hG17, hG18, hG19, hG20, hG21, hG22, hG23⟩ hS12 ⟨hT1, hTt⟩ hn1 hn4 hb0 hb1 d (p + 1) (vI (prt n bb p)) c_6 sc_6 (by omega) (by omega) (by omega)
        · refine am_E.go (t2 := (49, [vR y, vI n, vI bb, vI p, vI (prt n bb p)], [vI (prt n bb p), vI (p - n), vR (y + 12)], aq_h m s F c)) rfl rfl ?_
          refine am_E.go (t2 := (50, [vR y, vI n, vI bb, vI p, vI (prt n bb p)], [vI n, vI (prt n bb p), vI (p - n), vR (y + 12)], aq_h m s F c)) rfl rfl ?_
          refine ae_add rfl (am_ri (by omega) (by omega)) ?_
          show am_E _ (51, [vR y, vI n, vI bb, vI p, vI (prt n bb p)], [vI ((prt n bb p) + n), vI (p - n), vR (y + 12)], aq_h m s F c) _
          refine am_E.go (t2 := (58, [vR y, vI n, vI bb, vI p, vI (prt n bb p)], [vI ((prt n bb p) + n), vI (p - n), vR (y + 12)], aq_h m s F c)) rfl rfl ?_
          refine aq_as (kd := 0) rfl rfl (by omega) hG12 (by omega) (by omega) rfl rfl ?_
          show am_E _ (59, [vR y, vI n, vI bb, vI p, vI (prt n bb p)], [], aq_h m s F (aq_u c (y + 12) (p - n) ((prt n bb p) + n))) _
          generalize hdc_7 : aq_u c (y + 12) (p - n) ((prt n bb p) + n) = c_7
          have sc_7 := aq_smu hs hdc_7 (hS12)
          refine ae_iinc rfl rfl (am_ri (by omega) (by omega)) ?_
          show am_E _ (62, [vR y, vI n, vI bb, vI (p + 1), vI (prt n bb p)], [], aq_h m s F c_7) _
          refine am_E.go (t2 := (2, [vR y, vI n, vI bb, vI (p + 1), vI (prt n bb p)], [], aq_h m s F c_7)) rfl rfl ?_
          exact qm_upsideDown_l ⟨hm, hFo, hG5, hG6, hG7, hG8, hG9, hG10, hG11, hG12, hG13, hG14, hG15, hG16, hG17, hG18, hG19, hG20, hG21, hG22, hG23⟩ hS12 ⟨hT1, hTt⟩ hn1 hn4 hb0 hb1 d (p + 1) (vI (prt n bb p)) c_7 sc_7 (by omega) (by omega) (by omega)
      · refine am_E.go (t2 := (33, [vR y, vI n, vI bb, vI p, vI (prt n bb p)], [vI p, vR (y + 12)], aq_h m s F c)) rfl rfl ?_
        refine am_E.go (t2 := (34, [vR y, vI n, vI bb, vI p, vI (prt n bb p)], [vI n, vI p, vR (y + 12)], aq_h m s F c)) rfl rfl ?_
        refine ae_add rfl (am_ri (by omega) (by omega)) ?_
        show am_E _ (35, [vR y, vI n, vI bb, vI p, vI (prt n bb p)], [vI (p + n), vR (y + 12)], aq_h m s F c) _
        refine am_E.go (t2 := (41, [vR y, vI n, vI bb, vI p, vI (prt n bb p)], [vI (p + n), vR (y + 12)], aq_h m s F c)) rfl rfl ?_
        refine am_E.go (t2 := (43, [vR y, vI n, vI bb, vI p, vI (prt n bb p)], [vI (prt n bb p), vI (p + n), vR (y + 12)], aq_h m s F c)) rfl rfl ?_
        refine am_E.go (t2 := (44, [vR y, vI n, vI bb, vI p, vI (prt n bb p)], [vI n, vI (prt n bb p), vI (p + n), vR (y + 12)], aq_h m s F c)) rfl rfl ?_
        refine ae_icmp rfl (fun (q_8 : n ≤ (prt n bb p)) => ?_) (fun (q_8 : (prt n bb p) < n) => ?_)
        · refine am_E.go (t2 := (56, [vR y, vI n, vI bb, vI p, vI (prt n bb p)], [vI (prt n bb p), vI (p + n), vR (y + 12)], aq_h m s F c)) rfl rfl ?_
          refine am_E.go (t2 := (57, [vR y, vI n, vI bb, vI p, vI (prt n bb p)], [vI n, vI (prt n bb p), vI (p + n), vR (y + 12)], aq_h m s F c)) rfl rfl ?_
          refine ae_sub rfl (am_ri (by omega) (by omega)) ?_
          show am_E _ (58, [vR y, vI n, vI bb, vI p, vI (prt n bb p)], [vI ((prt n bb p) - n), vI (p + n), vR (y + 12)], aq_h m s F c) _
          refine aq_as (kd := 0) rfl rfl (by omega) hG12 (by omega) (by omega) rfl rfl ?_
          show am_E _ (59, [vR y, vI n, vI bb, vI p, vI (prt n bb p)], [], aq_h m s F (aq_u c (y + 12) (p + n) ((prt n bb p) - n))) _
          generalize hdc_9 : aq_u c (y + 12) (p + n) ((prt n bb p) - n) = c_9
          have sc_9 := aq_smu hs hdc_9 (hS12)
          refine ae_iinc rfl rfl (am_ri (by omega) (by omega)) ?_
          show am_E _ (62, [vR y, vI n, vI bb, vI (p + 1), vI (prt n bb p)], [], aq_h m s F c_9) _
          refine am_E.go (t2 := (2, [vR y, vI n, vI bb, vI (p + 1), vI (prt n bb p)], [], aq_h m s F c_9)) rfl rfl ?_
          exact qm_upsideDown_l ⟨hm, hFo, hG5, hG6, hG7, hG8, hG9, hG10, hG11, hG12, hG13, hG14, hG15, hG16, hG17, hG18, hG19, hG20, hG21, hG22, hG23⟩ hS12 ⟨hT1, hTt⟩ hn1 hn4 hb0 hb1 d (p + 1) (vI (prt n bb p)) c_9 sc_9 (by omega) (by omega) (by omega)
        · refine am_E.go (t2 := (49, [vR y, vI n, vI bb, vI p, vI (prt n bb p)], [vI (prt n bb p), vI (p + n), vR (y + 12)], aq_h m s F c)) rfl rfl ?_
          refine am_E.go (t2 := (50, [vR y, vI n, vI bb, vI p, vI (prt n bb p)], [vI n, vI (prt n bb p), vI (p + n), vR (y + 12)], aq_h m s F c)) rfl rfl ?_
          refine ae_add rfl (am_ri (by omega) (by omega)) ?_
          show am_E _ (51, [vR y, vI n, vI bb, vI p, vI (prt n bb p)], [vI ((prt n bb p) + n), vI (p + n), vR (y + 12)], aq_h m s F c) _
          refine am_E.go (t2 := (58, [vR y, vI n, vI bb, vI p, vI (prt n bb p)], [vI ((prt n bb p) + n), vI (p + n), vR (y + 12)], aq_h m s F c)) rfl rfl ?_
          refine aq_as (kd := 0) rfl rfl (by omega) hG12 (by omega) (by omega) rfl rfl ?_
          show am_E _ (59, [vR y, vI n, vI bb, vI p, vI (prt n bb p)], [], aq_h m s F (aq_u c (y + 12) (p + n) ((prt n bb p) + n))) _
          generalize hdc_10 : aq_u c (y + 12) (p + n) ((prt n bb p) + n) = c_10
          have sc_10 := aq_smu hs hdc_10 (hS12)
          refine ae_iinc rfl rfl (am_ri (by omega) (by omega)) ?_
          show am_E _ (62, [vR y, vI n, vI bb, vI (p + 1), vI (prt n bb p)], [], aq_h m s F c_10) _
          refine am_E.go (t2 := (2, [vR y, vI n, vI bb, vI (p + 1), vI (prt n bb p)], [], aq_h m s F c_10)) rfl rfl ?_
          exact qm_upsideDown_l ⟨hm, hFo, hG5, hG6, hG7, hG8, hG9, hG10, hG11, hG12, hG13, hG14, hG15, hG16, hG17, hG18, hG19, hG20, hG21, hG22, hG23⟩ hS12 ⟨hT1, hTt⟩ hn1 hn4 hb0 hb1 d (p + 1) (vI (prt n bb p)) c_10 sc_10 (by omega) (by omega) (by omega)

theorem qm_upsideDown {m s : Nat} {F : aq_F} {c : aq_C} {S : Nat → Prop} {y : Nat} (hO : mo_0 m F y) (hS12 : S (y + 12)) {tbl : Int → Int} (hT : mo_T F y tbl) {n bb : Int} (hn1 : 1 ≤ n) (hn4 : n ≤ 4) (hb0 : 0 ≤ bb) (hb1 : bb < bx_K n) : am_E ac_X5_upsideDown (0, [vR y, vI n, vI bb, vU, vU], [], aq_h m s F c) (aq_Z m s F S c (fun r _ => aq_vi r)) := by
  obtain ⟨hm, hFo, hG5, hG6, hG7, hG8, hG9, hG10, hG11, hG12, hG13, hG14, hG15, hG16, hG17, hG18, hG19, hG20, hG21, hG22, hG23⟩ := hO
  obtain ⟨hT1, hTt⟩ := hT
  have hfs := mo_fs n
  have hfi := pr_fi hn1 hn4 hb0 hb1
  refine am_E.go (t2 := (1, [vR y, vI n, vI bb, vU, vU], [vI 0], aq_h m s F c)) rfl rfl ?_
  refine am_E.go (t2 := (2, [vR y, vI n, vI bb, vI 0, vU], [], aq_h m s F c)) rfl rfl ?_
  exact qm_upsideDown_l ⟨hm, hFo, hG5, hG6, hG7, hG8, hG9, hG10, hG11, hG12, hG13, hG14, hG15, hG16, hG17, hG18, hG19, hG20, hG21, hG22, hG23⟩ hS12 ⟨hT1, hTt⟩ hn1 hn4 hb0 hb1 9 0 (vU) c aq_sm0 (by omega) (by omega) (by omega)

theorem qm_many_l {m s : Nat} {F : aq_F} {c : aq_C} {y : Nat} (hI : mo_I y c) (hO : mo_0 m F y) {tbl : Int → Int} (hT : mo_T F y tbl) {n q : Int} (hn1 : 1 ≤ n) (hn4 : n ≤ 4) : ∀ (d : Nat) (x : Int) (bb : Int) (h0 : 0 ≤ bb) (h1 : bb ≤ bx_K n) (hd : bx_K n - bb < (d : Int)), am_E ac_X5_many (24, [vR y, vI n, vI q, vI x, vI bb], [], aq_h m s F c) (aq_Z m s F (fun a => y ≤ a ∧ a < y + 24) c (fun r d => aq_vi r ∧ mo_I y d))
  | 0, x, bb, h0, h1, hd => by exfalso; omega
  | d + 1, x, bb, h0, h1, hd => by
    obtain ⟨hm, hFo, hG5, hG6, hG7, hG8, hG9, hG10, hG11, hG12, hG13, hG14, hG15, hG16, hG17, hG18, hG19, hG20, hG21, hG22, hG23⟩ := hO
    obtain ⟨hT1, hTt⟩ := hT
    have hfs := mo_fs n
    refine am_E.go (t2 := (26, [vR y, vI n, vI q, vI x, vI bb], [vI bb], aq_h m s F c)) rfl rfl ?_
    refine am_E.go (t2 := (27, [vR y, vI n, vI q, vI x, vI bb], [vI n, vI bb], aq_h m s F c)) rfl rfl ?_
    refine am_E.call rfl rfl rfl (Nat.le_of_ble_eq_true rfl) (qm_boxes) ?_
    rintro r5 h5 ⟨rfl, v_1, rfl, hv_1⟩
    show am_E _ (30, [vR y, vI n, vI q, vI x, vI bb], [vI v_1, vI bb], aq_h m s F c) _
    refine ae_icmp rfl (fun (q_2 : v_1 ≤ bb) => ?_) (fun (q_2 : bb < v_1) => ?_)
    · refine am_E.go (t2 := (62, [vR y, vI n, vI q, vI x, vI bb], [vI x], aq_h m s F c)) rfl rfl ?_
      refine am_E.ret rfl rfl ?_
      exact ⟨_, rfl, aq_sm0, ⟨_, rfl⟩, hI⟩
    · refine am_E.go (t2 := (34, [vR y, vI n, vI q, vI x, vI bb], [vI x], aq_h m s F c)) rfl rfl ?_
      refine am_E.go (t2 := (35, [vR y, vI n, vI q, vI x, vI bb], [vI q, vI x], aq_h m s F c)) rfl rfl ?_
      refine ae_if0 rfl (fun (q_3 : q = 0) => ?_) (fun (q_3 : q ≠ 0) => ?_)
      · refine am_E.go (t2 := (49, [vR y, vI n, vI q, vI x, vI bb], [vI 1, vI x], aq_h m s F c)) rfl rfl ?_
        refine am_E.go (t2 := (53, [vR y, vI n, vI q, vI x, vI bb], [vI 1, vI x], aq_h m s F c)) rfl rfl ?_
        refine am_E.go (t2 := (54, [vR y, vI n, vI q, vI x, vI bb], [vI (am_w (x + 1))], aq_h m s F c)) rfl rfl ?_
        refine am_E.go (t2 := (55, [vR y, vI n, vI q, vI (am_w (x + 1)), vI bb], [], aq_h m s F c)) rfl rfl ?_
        refine ae_iinc rfl rfl (am_ri (by omega) (by omega)) ?_
        show am_E _ (58, [vR y, vI n, vI q, vI (am_w (x + 1)), vI (bb + 1)], [], aq_h m s F c) _
        refine am_E.go (t2 := (24, [vR y, vI n, vI q, vI (am_w (x + 1)), vI (bb + 1)], [], aq_h m s F c)) rfl rfl ?_
        exact qm_many_l hI ⟨hm, hFo, hG5, hG6, hG7, hG8, hG9, hG10, hG11, hG12, hG13, hG14, hG15, hG16, hG17, hG18, hG19, hG20, hG21, hG22, hG23⟩ ⟨hT1, hTt⟩ (by omega) (by omega) d (am_w (x + 1)) (bb + 1) (by omega) (by omega) (by omega)
      · refine am_E.go (t2 := (39, [vR y, vI n, vI q, vI x, vI bb], [vR y, vI x], aq_h m s F c)) rfl rfl ?_
        refine am_E.go (t2 := (40, [vR y, vI n, vI q, vI x, vI bb], [vI n, vR y, vI x], aq_h m s F c)) rfl rfl ?_
        refine am_E.go (t2 := (42, [vR y, vI n, vI q, vI x, vI bb], [vI bb, vI n, vR y, vI x], aq_h m s F c)) rfl rfl ?_
        refine aq_callv (y := 3) (as2 := [vI n, vI bb]) (rest := [vI x]) rfl rfl (by decide) (Nat.le_of_ble_eq_true rfl) rfl rfl (Nat.le_of_ble_eq_true rfl) (by omega) hFo rfl (Nat.le_of_ble_eq_true rfl) (qm_isPlane ⟨hm, hFo, hG5, hG6, hG7, hG8, hG9, hG10, hG11, hG12, hG13, hG14, hG15, hG16, hG17, hG18, hG19, hG20, hG21, hG22, hG23⟩ ⟨hT1, hTt⟩ (by omega) (by omega) (by omega) (by omega)) ?_
        rintro r5 h5 ⟨rfl, v_4, rfl, hv_4⟩
        show am_E _ (45, [vR y, vI n, vI q, vI x, vI bb], [vI v_4, vI x], aq_h m s F c) _
        refine ae_if0 rfl (fun (q_5 : v_4 = 0) => ?_) (fun (q_5 : v_4 ≠ 0) => ?_)
        · refine am_E.go (t2 := (53, [vR y, vI n, vI q, vI x, vI bb], [vI 0, vI x], aq_h m s F c)) rfl rfl ?_
          refine am_E.go (t2 := (54, [vR y, vI n, vI q, vI x, vI bb], [vI (am_w (x + 0))], aq_h m s F c)) rfl rfl ?_
          refine am_E.go (t2 := (55, [vR y, vI n, vI q, vI (am_w (x + 0)), vI bb], [], aq_h m s F c)) rfl rfl ?_
          refine ae_iinc rfl rfl (am_ri (by omega) (by omega)) ?_
          show am_E _ (58, [vR y, vI n, vI q, vI (am_w (x + 0)), vI (bb + 1)], [], aq_h m s F c) _
          refine am_E.go (t2 := (24, [vR y, vI n, vI q, vI (am_w (x + 0)), vI (bb + 1)], [], aq_h m s F c)) rfl rfl ?_
          exact qm_many_l hI ⟨hm, hFo, hG5, hG6, hG7, hG8, hG9, hG10, hG11, hG12, hG13, hG14, hG15, hG16, hG17, hG18, hG19, hG20, hG21, hG22, hG23⟩ ⟨hT1, hTt⟩ (by omega) (by omega) d (am_w (x + 0)) (bb + 1) (by omega) (by omega) (by omega)
        · refine am_E.go (t2 := (49, [vR y, vI n, vI q, vI x, vI bb], [vI 1, vI x], aq_h m s F c)) rfl rfl ?_
          refine am_E.go (t2 := (53, [vR y, vI n, vI q, vI x, vI bb], [vI 1, vI x], aq_h m s F c)) rfl rfl ?_
          refine am_E.go (t2 := (54, [vR y, vI n, vI q, vI x, vI bb], [vI (am_w (x + 1))], aq_h m s F c)) rfl rfl ?_
          refine am_E.go (t2 := (55, [vR y, vI n, vI q, vI (am_w (x + 1)), vI bb], [], aq_h m s F c)) rfl rfl ?_
          refine ae_iinc rfl rfl (am_ri (by omega) (by omega)) ?_
          show am_E _ (58, [vR y, vI n, vI q, vI (am_w (x + 1)), vI (bb + 1)], [], aq_h m s F c) _
          refine am_E.go (t2 := (24, [vR y, vI n, vI q, vI (am_w (x + 1)), vI (bb + 1)], [], aq_h m s F c)) rfl rfl ?_
          exact qm_many_l hI ⟨hm, hFo, hG5, hG6, hG7, hG8, hG9, hG10, hG11, hG12, hG13, hG14, hG15, hG16, hG17, hG18, hG19, hG20, hG21, hG22, hG23⟩ ⟨hT1, hTt⟩ (by omega) (by omega) d (am_w (x + 1)) (bb + 1) (by omega) (by omega) (by omega)

theorem qm_X5_many {m s : Nat} {F : aq_F} {c : aq_C} {y : Nat} (hC : mo_C m F y) (hI : mo_I y c) {n q : Int} : am_E ac_X5_many (0, [vR y, vI n, vI q, vU, vU], [], aq_h m s F c) (aq_Z m s F (fun a => y ≤ a ∧ a < y + 24) c (fun r d => aq_vi r ∧ mo_I y d)) := by
  obtain ⟨⟨hm, hFo, hG5, hG6, hG7, hG8, hG9, hG10, hG11, hG12, hG13, hG14, hG15, hG16, hG17, hG18, hG19, hG20, hG21, hG22, hG23⟩, ⟨tbl, hT1, hTt⟩, ⟨tA, tB, tD, hL1, hL2, hL3, hLt⟩⟩ := hC
  have hfs := mo_fs n
  refine am_E.go (t2 := (1, [vR y, vI n, vI q, vU, vU], [vI n], aq_h m s F c)) rfl rfl ?_
  refine am_E.call rfl rfl rfl (Nat.le_of_ble_eq_true rfl) (qm_isWide) ?_
  rintro r5 h5 ⟨rfl, v_1, rfl, hv_1⟩
  show am_E _ (4, [vR y, vI n, vI q, vU, vU], [vI v_1], aq_h m s F c) _
  refine ae_if0 rfl (fun (q_2 : v_1 = 0) => ?_) (fun (q_2 : v_1 ≠ 0) => ?_)
  · refine am_E.go (t2 := (18, [vR y, vI n, vI q, vU, vU], [vI (-1)], aq_h m s F c)) rfl rfl ?_
    refine am_E.ret rfl rfl ?_
    exact ⟨_, rfl, (aq_sm0 (c := c) (S := fun a => y ≤ a ∧ a < y + 24)), ⟨_, rfl⟩, hI⟩
  · refine am_E.go (t2 := (8, [vR y, vI n, vI q, vU, vU], [vI q], aq_h m s F c)) rfl rfl ?_
    refine am_E.go (t2 := (9, [vR y, vI n, vI q, vU, vU], [vL q], aq_h m s F c)) rfl rfl ?_
    refine am_E.go (t2 := (10, [vR y, vI n, vI q, vU, vU], [vL 0, vL q], aq_h m s F c)) rfl rfl ?_
    refine am_E.go (t2 := (11, [vR y, vI n, vI q, vU, vU], [vL 1, vL 0, vL q], aq_h m s F c)) rfl rfl ?_
    refine am_E.call rfl rfl rfl (Nat.le_of_ble_eq_true rfl) (qm_in) ?_
    rintro r5 h5 ⟨rfl, v_3, rfl, hv_3⟩
    show am_E _ (14, [vR y, vI n, vI q, vU, vU], [vI v_3], aq_h m s F c) _
    refine ae_if0 rfl (fun (q_4 : v_3 ≠ 0) => ?_) (fun (q_4 : v_3 = 0) => ?_)
    · refine am_E.go (t2 := (20, [vR y, vI n, vI q, vU, vU], [vI 0], aq_h m s F c)) rfl rfl ?_
      refine am_E.go (t2 := (21, [vR y, vI n, vI q, vI 0, vU], [], aq_h m s F c)) rfl rfl ?_
      refine am_E.go (t2 := (22, [vR y, vI n, vI q, vI 0, vU], [vI 0], aq_h m s F c)) rfl rfl ?_
      refine am_E.go (t2 := (24, [vR y, vI n, vI q, vI 0, vI 0], [], aq_h m s F c)) rfl rfl ?_
      exact qm_many_l hI ⟨hm, hFo, hG5, hG6, hG7, hG8, hG9, hG10, hG11, hG12, hG13, hG14, hG15, hG16, hG17, hG18, hG19, hG20, hG21, hG22, hG23⟩ ⟨hT1, hTt⟩ (by omega) (by omega) 106 0 0 (by omega) (by omega) (by omega)
    · refine am_E.go (t2 := (18, [vR y, vI n, vI q, vU, vU], [vI (-1)], aq_h m s F c)) rfl rfl ?_
      refine am_E.ret rfl rfl ?_
      exact ⟨_, rfl, (aq_sm0 (c := c) (S := fun a => y ≤ a ∧ a < y + 24)), ⟨_, rfl⟩, hI⟩

theorem qm_X5_partner {m s : Nat} {F : aq_F} {c : aq_C} {y : Nat} (hC : mo_C m F y) (hI : mo_I y c) {n bb p : Int} : am_E ac_X5_partner (0, [vR y, vI n, vI bb, vI p], [], aq_h m s F c) (aq_Z m s F (fun a => y ≤ a ∧ a < y + 24) c (fun r d => aq_vi r ∧ mo_I y d)) := by
  obtain ⟨⟨hm, hFo, hG5, hG6, hG7, hG8, hG9, hG10, hG11, hG12, hG13, hG14, hG15, hG16, hG17, hG18, hG19, hG20, hG21, hG22, hG23⟩, ⟨tbl, hT1, hTt⟩, ⟨tA, tB, tD, hL1, hL2, hL3, hLt⟩⟩ := hC
  have hfs := mo_fs n
  refine am_E.go (t2 := (1, [vR y, vI n, vI bb, vI p], [vI n], aq_h m s F c)) rfl rfl ?_
  refine am_E.go (t2 := (2, [vR y, vI n, vI bb, vI p], [vI bb, vI n], aq_h m s F c)) rfl rfl ?_
  refine am_E.call rfl rfl rfl (Nat.le_of_ble_eq_true rfl) (qm_isBox) ?_
  rintro r5 h5 ⟨rfl, v_1, rfl, hv_1⟩
  show am_E _ (5, [vR y, vI n, vI bb, vI p], [vI v_1], aq_h m s F c) _
  refine ae_if0 rfl (fun (q_2 : v_1 = 0) => ?_) (fun (q_2 : v_1 ≠ 0) => ?_)
  · refine am_E.go (t2 := (39, [vR y, vI n, vI bb, vI p], [vI (-1)], aq_h m s F c)) rfl rfl ?_
    refine am_E.ret rfl rfl ?_
    exact ⟨_, rfl, (aq_sm0 (c := c) (S := fun a => y ≤ a ∧ a < y + 24)), ⟨_, rfl⟩, hI⟩
  · refine am_E.go (t2 := (9, [vR y, vI n, vI bb, vI p], [vI p], aq_h m s F c)) rfl rfl ?_
    refine am_E.go (t2 := (10, [vR y, vI n, vI bb, vI p], [vL p], aq_h m s F c)) rfl rfl ?_
    refine am_E.go (t2 := (11, [vR y, vI n, vI bb, vI p], [vL 0, vL p], aq_h m s F c)) rfl rfl ?_
    refine am_E.go (t2 := (12, [vR y, vI n, vI bb, vI p], [vI 2, vL 0, vL p], aq_h m s F c)) rfl rfl ?_
    refine am_E.go (t2 := (13, [vR y, vI n, vI bb, vI p], [vI n, vI 2, vL 0, vL p], aq_h m s F c)) rfl rfl ?_
    refine ae_mul rfl (am_ri (by omega) (by omega)) ?_
    show am_E _ (14, [vR y, vI n, vI bb, vI p], [vI (2 * n), vL 0, vL p], aq_h m s F c) _
    refine am_E.go (t2 := (15, [vR y, vI n, vI bb, vI p], [vI 1, vI (2 * n), vL 0, vL p], aq_h m s F c)) rfl rfl ?_
    refine ae_sub rfl (am_ri (by omega) (by omega)) ?_
    show am_E _ (16, [vR y, vI n, vI bb, vI p], [vI ((2 * n) - 1), vL 0, vL p], aq_h m s F c) _
    refine am_E.go (t2 := (17, [vR y, vI n, vI bb, vI p], [vL ((2 * n) - 1), vL 0, vL p], aq_h m s F c)) rfl rfl ?_
    refine am_E.call rfl rfl rfl (Nat.le_of_ble_eq_true rfl) (qm_in) ?_
    rintro r5 h5 ⟨rfl, v_3, rfl, hv_3⟩
    show am_E _ (20, [vR y, vI n, vI bb, vI p], [vI v_3], aq_h m s F c) _
    refine ae_if0 rfl (fun (q_4 : v_3 = 0) => ?_) (fun (q_4 : v_3 ≠ 0) => ?_)
    · refine am_E.go (t2 := (39, [vR y, vI n, vI bb, vI p], [vI (-1)], aq_h m s F c)) rfl rfl ?_
      refine am_E.ret rfl rfl ?_
      exact ⟨_, rfl, (aq_sm0 (c := c) (S := fun a => y ≤ a ∧ a < y + 24)), ⟨_, rfl⟩, hI⟩
    · refine am_E.go (t2 := (24, [vR y, vI n, vI bb, vI p], [vR y], aq_h m s F c)) rfl rfl ?_
      refine aq_gf (v := vR (y + 1)) rfl (by omega) hFo (by decide) rfl ?_
      show am_E _ (27, [vR y, vI n, vI bb, vI p], [vR (y + 1)], aq_h m s F c) _
      refine am_E.go (t2 := (28, [vR y, vI n, vI bb, vI p], [vI n, vR (y + 1)], aq_h m s F c)) rfl rfl ?_
      refine am_E.go (t2 := (29, [vR y, vI n, vI bb, vI p], [vI bb, vI n, vR (y + 1)], aq_h m s F c)) rfl rfl ?_
      refine am_E.call rfl rfl rfl (Nat.le_of_ble_eq_true rfl) (qm_at (by omega) (by omega)) ?_
      rintro r5 h5 ⟨rfl, xa, rfl, hxa⟩
      show am_E _ (32, [vR y, vI n, vI bb, vI p], [vI xa, vR (y + 1)], aq_h m s F c) _
      refine am_E.go (t2 := (33, [vR y, vI n, vI bb, vI p], [vI p, vI xa, vR (y + 1)], aq_h m s F c)) rfl rfl ?_
      refine ae_add rfl (am_ri (by omega) (by omega)) ?_
      show am_E _ (34, [vR y, vI n, vI bb, vI p], [vI (xa + p), vR (y + 1)], aq_h m s F c) _
      refine aq_alt (ok := fun k => k == 0) rfl rfl (by omega) hT1 rfl (by omega) (by omega) ?_
      show am_E _ (35, [vR y, vI n, vI bb, vI p], [vI (tbl (xa + p))], aq_h m s F c) _
      refine am_E.go (t2 := (39, [vR y, vI n, vI bb, vI p], [vI (tbl (xa + p))], aq_h m s F c)) rfl rfl ?_
      refine am_E.ret rfl rfl ?_
      exact ⟨_, rfl, (aq_sm0 (c := c) (S := fun a => y ≤ a ∧ a < y + 24)), ⟨_, rfl⟩, hI⟩

theorem qm_X5_about {m s : Nat} {F : aq_F} {c : aq_C} {y : Nat} (hC : mo_C m F y) (hI : mo_I y c) {n bb w : Int} : am_E ac_X5_about (0, [vR y, vI n, vI bb, vI w], [], aq_h m s F c) (aq_Z m s F (fun a => y ≤ a ∧ a < y + 24) c (fun r d => aq_vi r ∧ mo_I y d)) := by
  obtain ⟨⟨hm, hFo, hG5, hG6, hG7, hG8, hG9, hG10, hG11, hG12, hG13, hG14, hG15, hG16, hG17, hG18, hG19, hG20, hG21, hG22, hG23⟩, ⟨tbl, hT1, hTt⟩, ⟨tA, tB, tD, hL1, hL2, hL3, hLt⟩⟩ := hC
  have hfs := mo_fs n
  refine am_E.go (t2 := (1, [vR y, vI n, vI bb, vI w], [vI n], aq_h m s F c)) rfl rfl ?_
  refine am_E.go (t2 := (2, [vR y, vI n, vI bb, vI w], [vI bb, vI n], aq_h m s F c)) rfl rfl ?_
  refine am_E.call rfl rfl rfl (Nat.le_of_ble_eq_true rfl) (qm_isBox) ?_
  rintro r5 h5 ⟨rfl, v_1, rfl, hv_1⟩
  show am_E _ (5, [vR y, vI n, vI bb, vI w], [vI v_1], aq_h m s F c) _
  refine ae_if0 rfl (fun (q_2 : v_1 = 0) => ?_) (fun (q_2 : v_1 ≠ 0) => ?_)
  · refine am_E.go (t2 := (21, [vR y, vI n, vI bb, vI w], [vI (-1)], aq_h m s F c)) rfl rfl ?_
    refine am_E.ret rfl rfl ?_
    exact ⟨_, rfl, (aq_sm0 (c := c) (S := fun a => y ≤ a ∧ a < y + 24)), ⟨_, rfl⟩, hI⟩
  · refine am_E.go (t2 := (9, [vR y, vI n, vI bb, vI w], [vI w], aq_h m s F c)) rfl rfl ?_
    refine am_E.go (t2 := (10, [vR y, vI n, vI bb, vI w], [vL w], aq_h m s F c)) rfl rfl ?_
    refine am_E.go (t2 := (11, [vR y, vI n, vI bb, vI w], [vL 0, vL w], aq_h m s F c)) rfl rfl ?_
    refine am_E.go (t2 := (14, [vR y, vI n, vI bb, vI w], [vL 4, vL 0, vL w], aq_h m s F c)) rfl rfl ?_
    refine am_E.call rfl rfl rfl (Nat.le_of_ble_eq_true rfl) (qm_in) ?_
    rintro r5 h5 ⟨rfl, v_3, rfl, hv_3⟩
    show am_E _ (17, [vR y, vI n, vI bb, vI w], [vI v_3], aq_h m s F c) _
    refine ae_if0 rfl (fun (q_4 : v_3 ≠ 0) => ?_) (fun (q_4 : v_3 = 0) => ?_)
    · refine am_E.go (t2 := (23, [vR y, vI n, vI bb, vI w], [vI w], aq_h m s F c)) rfl rfl ?_
      have hsw : w = 0 ∨ w = 1 ∨ w = 2 ∨ w = 3 ∨ (w < 0 ∨ 3 < w) := by omega
      rcases hsw with h | h | h | h | h
      · subst h
        refine am_E.go (t2 := (52, [vR y, vI n, vI bb, vI 0], [], aq_h m s F c)) rfl rfl ?_
        refine am_E.go (t2 := (53, [vR y, vI n, vI bb, vI 0], [vR y], aq_h m s F c)) rfl rfl ?_
        refine am_E.go (t2 := (54, [vR y, vI n, vI bb, vI 0], [vI n, vR y], aq_h m s F c)) rfl rfl ?_
        refine am_E.go (t2 := (55, [vR y, vI n, vI bb, vI 0], [vI bb, vI n, vR y], aq_h m s F c)) rfl rfl ?_
        refine aq_callv (y := 3) (as2 := [vI n, vI bb]) (rest := []) rfl rfl (by decide) (Nat.le_of_ble_eq_true rfl) rfl rfl (Nat.le_of_ble_eq_true rfl) (by omega) hFo rfl (Nat.le_of_ble_eq_true rfl) (qm_isPlane ⟨hm, hFo, hG5, hG6, hG7, hG8, hG9, hG10, hG11, hG12, hG13, hG14, hG15, hG16, hG17, hG18, hG19, hG20, hG21, hG22, hG23⟩ ⟨hT1, hTt⟩ (by omega) (by omega) (by omega) (by omega)) ?_
        rintro r5 h5 ⟨rfl, v_5, rfl, hv_5⟩
        show am_E _ (58, [vR y, vI n, vI bb, vI 0], [vI v_5], aq_h m s F c) _
        refine ae_if0 rfl (fun (q_6 : v_5 = 0) => ?_) (fun (q_6 : v_5 ≠ 0) => ?_)
        · refine am_E.go (t2 := (66, [vR y, vI n, vI bb, vI 0], [vI 0], aq_h m s F c)) rfl rfl ?_
          refine am_E.ret rfl rfl ?_
          exact ⟨_, rfl, (aq_sm0 (c := c) (S := fun a => y ≤ a ∧ a < y + 24)), ⟨_, rfl⟩, hI⟩
        · refine am_E.go (t2 := (62, [vR y, vI n, vI bb, vI 0], [vI 1], aq_h m s F c)) rfl rfl ?_
          refine am_E.go (t2 := (66, [vR y, vI n, vI bb, vI 0], [vI 1], aq_h m s F c)) rfl rfl ?_
          refine am_E.ret rfl rfl ?_
          exact ⟨_, rfl, (aq_sm0 (c := c) (S := fun a => y ≤ a ∧ a < y + 24)), ⟨_, rfl⟩, hI⟩
      · subst h
        refine am_E.go (t2 := (67, [vR y, vI n, vI bb, vI 1], [], aq_h m s F c)) rfl rfl ?_
        refine am_E.go (t2 := (68, [vR y, vI n, vI bb, vI 1], [vR y], aq_h m s F c)) rfl rfl ?_
        refine am_E.go (t2 := (69, [vR y, vI n, vI bb, vI 1], [vI n, vR y], aq_h m s F c)) rfl rfl ?_
        refine am_E.go (t2 := (70, [vR y, vI n, vI bb, vI 1], [vI bb, vI n, vR y], aq_h m s F c)) rfl rfl ?_
        refine aq_callv (y := 3) (as2 := [vI n, vI bb]) (rest := []) rfl rfl (by decide) (Nat.le_of_ble_eq_true rfl) rfl rfl (Nat.le_of_ble_eq_true rfl) (by omega) hFo rfl (Nat.le_of_ble_eq_true rfl) (qm_through ⟨hm, hFo, hG5, hG6, hG7, hG8, hG9, hG10, hG11, hG12, hG13, hG14, hG15, hG16, hG17, hG18, hG19, hG20, hG21, hG22, hG23⟩ ⟨hT1, hTt⟩ (by omega) (by omega) (by omega) (by omega)) ?_
        rintro r5 h5 ⟨rfl, v_7, rfl⟩
        show am_E _ (73, [vR y, vI n, vI bb, vI 1], [vI v_7], aq_h m s F c) _
        refine am_E.ret rfl rfl ?_
        exact ⟨_, rfl, (aq_sm0 (c := c) (S := fun a => y ≤ a ∧ a < y + 24)), ⟨_, rfl⟩, hI⟩
      · subst h
        refine am_E.go (t2 := (74, [vR y, vI n, vI bb, vI 2], [], aq_h m s F c)) rfl rfl ?_
        refine am_E.go (t2 := (75, [vR y, vI n, vI bb, vI 2], [vR y], aq_h m s F c)) rfl rfl ?_
        refine am_E.go (t2 := (76, [vR y, vI n, vI bb, vI 2], [vI n, vR y], aq_h m s F c)) rfl rfl ?_
        refine am_E.go (t2 := (77, [vR y, vI n, vI bb, vI 2], [vI bb, vI n, vR y], aq_h m s F c)) rfl rfl ?_
        refine aq_callv (y := 3) (as2 := [vI n, vI bb]) (rest := []) rfl rfl (by decide) (Nat.le_of_ble_eq_true rfl) rfl rfl (Nat.le_of_ble_eq_true rfl) (by omega) hFo rfl (Nat.le_of_ble_eq_true rfl) (qm_upsideDown (S := fun a => a = y + 12) ⟨hm, hFo, hG5, hG6, hG7, hG8, hG9, hG10, hG11, hG12, hG13, hG14, hG15, hG16, hG17, hG18, hG19, hG20, hG21, hG22, hG23⟩ rfl ⟨hT1, hTt⟩ (by omega) (by omega) (by omega) (by omega)) ?_
        rintro r5 h5 ⟨c_b, rfl, s_b, v_b, rfl⟩
        show am_E _ (80, [vR y, vI n, vI bb, vI 2], [vI v_b], aq_h m s F c_b) _
        refine am_E.ret rfl rfl ?_
        exact ⟨_, rfl, (aq_smt (aq_sm0 (c := c) (S := fun a => y ≤ a ∧ a < y + 24)) (aq_smi s_b (fun a h => by omega))), ⟨_, rfl⟩, mo_Is hI s_b (mo_ks mo_k0 s_b (by omega)) (by omega) (by omega) (by omega) (by omega) (by omega)⟩
      · subst h
        refine am_E.go (t2 := (81, [vR y, vI n, vI bb, vI 3], [], aq_h m s F c)) rfl rfl ?_
        refine am_E.go (t2 := (82, [vR y, vI n, vI bb, vI 3], [vR y], aq_h m s F c)) rfl rfl ?_
        refine am_E.go (t2 := (83, [vR y, vI n, vI bb, vI 3], [vI n, vR y], aq_h m s F c)) rfl rfl ?_
        refine am_E.go (t2 := (84, [vR y, vI n, vI bb, vI 3], [vI bb, vI n, vR y], aq_h m s F c)) rfl rfl ?_
        refine aq_callv (y := 3) (as2 := [vI n, vI bb]) (rest := []) rfl rfl (by decide) (Nat.le_of_ble_eq_true rfl) rfl rfl (Nat.le_of_ble_eq_true rfl) (by omega) hFo rfl (Nat.le_of_ble_eq_true rfl) (qm_rings (S := fun a => a = y + 13) ⟨hm, hFo, hG5, hG6, hG7, hG8, hG9, hG10, hG11, hG12, hG13, hG14, hG15, hG16, hG17, hG18, hG19, hG20, hG21, hG22, hG23⟩ rfl ⟨hT1, hTt⟩ (by omega) (by omega) (by omega) (by omega)) ?_
        rintro r5 h5 ⟨c_b, rfl, s_b, v_b, rfl, hv_b⟩
        show am_E _ (87, [vR y, vI n, vI bb, vI 3], [vI v_b], aq_h m s F c_b) _
        refine am_E.ret rfl rfl ?_
        exact ⟨_, rfl, (aq_smt (aq_sm0 (c := c) (S := fun a => y ≤ a ∧ a < y + 24)) (aq_smi s_b (fun a h => by omega))), ⟨_, rfl⟩, mo_Is hI s_b (mo_ks mo_k0 s_b (by omega)) (by omega) (by omega) (by omega) (by omega) (by omega)⟩
      · refine ae_swd rfl h ?_
        show am_E _ (88, [vR y, vI n, vI bb, vI w], [], aq_h m s F c) _
        refine am_E.go (t2 := (89, [vR y, vI n, vI bb, vI w], [vR y], aq_h m s F c)) rfl rfl ?_
        refine aq_gf (v := vR (y + 4)) rfl (by omega) hFo (by decide) rfl ?_
        show am_E _ (92, [vR y, vI n, vI bb, vI w], [vR (y + 4)], aq_h m s F c) _
        refine am_E.go (t2 := (93, [vR y, vI n, vI bb, vI w], [vI n, vR (y + 4)], aq_h m s F c)) rfl rfl ?_
        refine am_E.call rfl rfl rfl (Nat.le_of_ble_eq_true rfl) (qm_first) ?_
        rintro r5 h5 ⟨rfl, v_8, rfl, hv_8⟩
        show am_E _ (96, [vR y, vI n, vI bb, vI w], [vI v_8, vR (y + 4)], aq_h m s F c) _
        refine am_E.go (t2 := (97, [vR y, vI n, vI bb, vI w], [vI bb, vI v_8, vR (y + 4)], aq_h m s F c)) rfl rfl ?_
        refine ae_add rfl (am_ri (by omega) (by omega)) ?_
        show am_E _ (98, [vR y, vI n, vI bb, vI w], [vI (v_8 + bb), vR (y + 4)], aq_h m s F c) _
        refine aq_alt (ok := fun k => k == 0) rfl rfl (by omega) hL3 rfl (by omega) (by omega) ?_
        show am_E _ (99, [vR y, vI n, vI bb, vI w], [vI (tD (v_8 + bb))], aq_h m s F c) _
        refine am_E.ret rfl rfl ?_
        exact ⟨_, rfl, (aq_sm0 (c := c) (S := fun a => y ≤ a ∧ a < y + 24)), ⟨_, rfl⟩, hI⟩
    · refine am_E.go (t2 := (21, [vR y, vI n, vI bb, vI w], [vI (-1)], aq_h m s F c)) rfl rfl ?_
      refine am_E.ret rfl rfl ?_
      exact ⟨_, rfl, (aq_sm0 (c := c) (S := fun a => y ≤ a ∧ a < y + 24)), ⟨_, rfl⟩, hI⟩

theorem qm_X5_stack {m s : Nat} {F : aq_F} {c : aq_C} {y : Nat} (hC : mo_C m F y) (hI : mo_I y c) {n bb cc : Int} : am_E ac_X5_stack (0, [vR y, vI n, vI bb, vI cc, vU], [], aq_h m s F c) (aq_Z m s F (fun a => y ≤ a ∧ a < y + 24) c (fun r d => aq_vi r ∧ mo_I y d)) := by
  obtain ⟨⟨hm, hFo, hG5, hG6, hG7, hG8, hG9, hG10, hG11, hG12, hG13, hG14, hG15, hG16, hG17, hG18, hG19, hG20, hG21, hG22, hG23⟩, ⟨tbl, hT1, hTt⟩, ⟨tA, tB, tD, hL1, hL2, hL3, hLt⟩⟩ := hC
  have hfs := mo_fs n
  refine am_E.go (t2 := (1, [vR y, vI n, vI bb, vI cc, vU], [vI n], aq_h m s F c)) rfl rfl ?_
  refine am_E.go (t2 := (2, [vR y, vI n, vI bb, vI cc, vU], [vI bb, vI n], aq_h m s F c)) rfl rfl ?_
  refine am_E.call rfl rfl rfl (Nat.le_of_ble_eq_true rfl) (qm_isBox) ?_
  rintro r5 h5 ⟨rfl, v_1, rfl, hv_1⟩
  show am_E _ (5, [vR y, vI n, vI bb, vI cc, vU], [vI v_1], aq_h m s F c) _
  refine ae_if0 rfl (fun (q_2 : v_1 = 0) => ?_) (fun (q_2 : v_1 ≠ 0) => ?_)
  · refine am_E.go (t2 := (17, [vR y, vI n, vI bb, vI cc, vU], [vI (-1)], aq_h m s F c)) rfl rfl ?_
    refine am_E.ret rfl rfl ?_
    exact ⟨_, rfl, (aq_sm0 (c := c) (S := fun a => y ≤ a ∧ a < y + 24)), ⟨_, rfl⟩, hI⟩
  · refine am_E.go (t2 := (9, [vR y, vI n, vI bb, vI cc, vU], [vI n], aq_h m s F c)) rfl rfl ?_
    refine am_E.go (t2 := (10, [vR y, vI n, vI bb, vI cc, vU], [vI cc, vI n], aq_h m s F c)) rfl rfl ?_
    refine am_E.call rfl rfl rfl (Nat.le_of_ble_eq_true rfl) (qm_isBox) ?_
    rintro r5 h5 ⟨rfl, v_3, rfl, hv_3⟩
    show am_E _ (13, [vR y, vI n, vI bb, vI cc, vU], [vI v_3], aq_h m s F c) _
    refine ae_if0 rfl (fun (q_4 : v_3 ≠ 0) => ?_) (fun (q_4 : v_3 = 0) => ?_)
    · refine am_E.go (t2 := (19, [vR y, vI n, vI bb, vI cc, vU], [vR y], aq_h m s F c)) rfl rfl ?_
      refine am_E.go (t2 := (20, [vR y, vI n, vI bb, vI cc, vU], [vI n, vR y], aq_h m s F c)) rfl rfl ?_
      refine am_E.go (t2 := (21, [vR y, vI n, vI bb, vI cc, vU], [vI bb, vI n, vR y], aq_h m s F c)) rfl rfl ?_
      refine am_E.go (t2 := (22, [vR y, vI n, vI bb, vI cc, vU], [vI cc, vI bb, vI n, vR y], aq_h m s F c)) rfl rfl ?_
      refine aq_callv (y := 4) (as2 := [vI n, vI bb, vI cc]) (rest := []) rfl rfl (by decide) (Nat.le_of_ble_eq_true rfl) rfl rfl (Nat.le_of_ble_eq_true rfl) (by omega) hFo rfl (Nat.le_of_ble_eq_true rfl) (qm_stacked (S := mo_S y) ⟨hm, hFo, hG5, hG6, hG7, hG8, hG9, hG10, hG11, hG12, hG13, hG14, hG15, hG16, hG17, hG18, hG19, hG20, hG21, hG22, hG23⟩ mo_S0 (mo_Sk (by decide) (by decide)) (mo_Sk (by decide) (by decide)) ⟨hT1, hTt⟩ (by omega) (by omega) (by omega) (by omega) (by omega) (by omega)) ?_
      rintro r5 h5 ⟨c_b, rfl, s_b, v_b, rfl, hv1_b, hv2_b, hr1_b, hr2_b, hk_b, _⟩
      show am_E _ (25, [vR y, vI n, vI bb, vI cc, vU], [vI v_b], aq_h m s F c_b) _
      refine am_E.go (t2 := (27, [vR y, vI n, vI bb, vI cc, vI v_b], [], aq_h m s F c_b)) rfl rfl ?_
      refine am_E.go (t2 := (29, [vR y, vI n, vI bb, vI cc, vI v_b], [vI v_b], aq_h m s F c_b)) rfl rfl ?_
      refine am_E.go (t2 := (32, [vR y, vI n, vI bb, vI cc, vI v_b], [vI 1000, vI v_b], aq_h m s F c_b)) rfl rfl ?_
      refine am_E.go (t2 := (33, [vR y, vI n, vI bb, vI cc, vI v_b], [vR y, vI 1000, vI v_b], aq_h m s F c_b)) rfl rfl ?_
      refine aq_gf (v := vI (c_b y 15)) rfl (by omega) hFo (by decide) rfl ?_
      show am_E _ (36, [vR y, vI n, vI bb, vI cc, vI v_b], [vI (c_b y 15), vI 1000, vI v_b], aq_h m s F c_b) _
      skip
      refine ae_mul rfl (am_ri (by omega) (by omega)) ?_
      show am_E _ (37, [vR y, vI n, vI bb, vI cc, vI v_b], [vI (1000 * (c_b y 15)), vI v_b], aq_h m s F c_b) _
      refine ae_add rfl (am_ri (by omega) (by omega)) ?_
      show am_E _ (38, [vR y, vI n, vI bb, vI cc, vI v_b], [vI (v_b + (1000 * (c_b y 15)))], aq_h m s F c_b) _
      refine am_E.ret rfl rfl ?_
      exact ⟨_, rfl, (aq_smt (aq_sm0 (c := c) (S := fun a => y ≤ a ∧ a < y + 24)) (aq_smi s_b (fun a h => mo_Sa h))), ⟨_, rfl⟩, mo_Ik hI s_b hk_b⟩
    · refine am_E.go (t2 := (17, [vR y, vI n, vI bb, vI cc, vU], [vI (-1)], aq_h m s F c)) rfl rfl ?_
      refine am_E.ret rfl rfl ?_
      exact ⟨_, rfl, (aq_sm0 (c := c) (S := fun a => y ≤ a ∧ a < y + 24)), ⟨_, rfl⟩, hI⟩

theorem qm_X5_plain {m s : Nat} {F : aq_F} {c : aq_C} {y : Nat} (hC : mo_C m F y) (hI : mo_I y c) {n l : Int} : am_E ac_X5_plain (0, [vR y, vI n, vI l], [], aq_h m s F c) (aq_Z m s F (fun a => y ≤ a ∧ a < y + 24) c (fun r d => aq_vi r ∧ mo_I y d)) := by
  obtain ⟨⟨hm, hFo, hG5, hG6, hG7, hG8, hG9, hG10, hG11, hG12, hG13, hG14, hG15, hG16, hG17, hG18, hG19, hG20, hG21, hG22, hG23⟩, ⟨tbl, hT1, hTt⟩, ⟨tA, tB, tD, hL1, hL2, hL3, hLt⟩⟩ := hC
  refine am_E.go (t2 := (1, [vR y, vI n, vI l], [vI n], aq_h m s F c)) rfl rfl ?_
  refine am_E.call rfl rfl rfl (Nat.le_of_ble_eq_true rfl) (qm_isWide) ?_
  rintro r5 h5 ⟨rfl, v_1, rfl, hv_1⟩
  show am_E _ (4, [vR y, vI n, vI l], [vI v_1], aq_h m s F c) _
  refine ae_if0 rfl (fun (q_2 : v_1 = 0) => ?_) (fun (q_2 : v_1 ≠ 0) => ?_)
  · refine am_E.go (t2 := (20, [vR y, vI n, vI l], [vI (-1)], aq_h m s F c)) rfl rfl ?_
    refine am_E.go (t2 := (29, [vR y, vI n, vI l], [vI (-1)], aq_h m s F c)) rfl rfl ?_
    refine am_E.ret rfl rfl ?_
    exact ⟨_, rfl, (aq_sm0 (c := c) (S := fun a => y ≤ a ∧ a < y + 24)), ⟨_, rfl⟩, hI⟩
  · refine am_E.go (t2 := (8, [vR y, vI n, vI l], [vI l], aq_h m s F c)) rfl rfl ?_
    refine ae_if0 rfl (fun (q_3 : l = 0) => ?_) (fun (q_3 : l ≠ 0) => ?_)
    · refine am_E.go (t2 := (24, [vR y, vI n, vI l], [vR y], aq_h m s F c)) rfl rfl ?_
      refine am_E.go (t2 := (25, [vR y, vI n, vI l], [vI n, vR y], aq_h m s F c)) rfl rfl ?_
      refine am_E.go (t2 := (26, [vR y, vI n, vI l], [vI l, vI n, vR y], aq_h m s F c)) rfl rfl ?_
      refine aq_callv (y := 3) (as2 := [vI n, vI l]) (rest := []) rfl rfl (by decide) (Nat.le_of_ble_eq_true rfl) rfl rfl (Nat.le_of_ble_eq_true rfl) (by omega) hFo rfl (Nat.le_of_ble_eq_true rfl) (qm_plainBox (S := fun a => a = y + 12) ⟨hm, hFo, hG5, hG6, hG7, hG8, hG9, hG10, hG11, hG12, hG13, hG14, hG15, hG16, hG17, hG18, hG19, hG20, hG21, hG22, hG23⟩ rfl ⟨hT1, hTt⟩ (by omega) (by omega) (by omega)) ?_
      rintro r5 h5 ⟨c_b, rfl, s_b, v_b, rfl, hv1_b, hv2_b, _⟩
      show am_E _ (29, [vR y, vI n, vI l], [vI v_b], aq_h m s F c_b) _
      refine am_E.ret rfl rfl ?_
      exact ⟨_, rfl, (aq_smt (aq_sm0 (c := c) (S := fun a => y ≤ a ∧ a < y + 24)) (aq_smi s_b (fun a h => by omega))), ⟨_, rfl⟩, mo_Is hI s_b (mo_ks mo_k0 s_b (by omega)) (by omega) (by omega) (by omega) (by omega) (by omega)⟩
    · refine am_E.go (t2 := (12, [vR y, vI n, vI l], [vI n], aq_h m s F c)) rfl rfl ?_
      refine am_E.go (t2 := (13, [vR y, vI n, vI l], [vI l, vI n], aq_h m s F c)) rfl rfl ?_
      refine am_E.call rfl rfl rfl (Nat.le_of_ble_eq_true rfl) (qm_isLetter (by omega) (by omega)) ?_
      rintro r5 h5 ⟨rfl, v_4, rfl, hv_4⟩
      show am_E _ (16, [vR y, vI n, vI l], [vI v_4], aq_h m s F c) _
      refine ae_if0 rfl (fun (q_5 : v_4 ≠ 0) => ?_) (fun (q_5 : v_4 = 0) => ?_)
      · refine am_E.go (t2 := (24, [vR y, vI n, vI l], [vR y], aq_h m s F c)) rfl rfl ?_
        refine am_E.go (t2 := (25, [vR y, vI n, vI l], [vI n, vR y], aq_h m s F c)) rfl rfl ?_
        refine am_E.go (t2 := (26, [vR y, vI n, vI l], [vI l, vI n, vR y], aq_h m s F c)) rfl rfl ?_
        refine aq_callv (y := 3) (as2 := [vI n, vI l]) (rest := []) rfl rfl (by decide) (Nat.le_of_ble_eq_true rfl) rfl rfl (Nat.le_of_ble_eq_true rfl) (by omega) hFo rfl (Nat.le_of_ble_eq_true rfl) (qm_plainBox (S := fun a => a = y + 12) ⟨hm, hFo, hG5, hG6, hG7, hG8, hG9, hG10, hG11, hG12, hG13, hG14, hG15, hG16, hG17, hG18, hG19, hG20, hG21, hG22, hG23⟩ rfl ⟨hT1, hTt⟩ (by omega) (by omega) (by omega)) ?_
        rintro r5 h5 ⟨c_b, rfl, s_b, v_b, rfl, hv1_b, hv2_b, _⟩
        show am_E _ (29, [vR y, vI n, vI l], [vI v_b], aq_h m s F c_b) _
        refine am_E.ret rfl rfl ?_
        exact ⟨_, rfl, (aq_smt (aq_sm0 (c := c) (S := fun a => y ≤ a ∧ a < y + 24)) (aq_smi s_b (fun a h => by omega))), ⟨_, rfl⟩, mo_Is hI s_b (mo_ks mo_k0 s_b (by omega)) (by omega) (by omega) (by omega) (by omega) (by omega)⟩
      · refine am_E.go (t2 := (20, [vR y, vI n, vI l], [vI (-1)], aq_h m s F c)) rfl rfl ?_
        refine am_E.go (t2 := (29, [vR y, vI n, vI l], [vI (-1)], aq_h m s F c)) rfl rfl ?_
        refine am_E.ret rfl rfl ?_
        exact ⟨_, rfl, (aq_sm0 (c := c) (S := fun a => y ≤ a ∧ a < y + 24)), ⟨_, rfl⟩, hI⟩

theorem qm_word_l {m s : Nat} {F : aq_F} {c : aq_C} {y : Nat} (hI : mo_I y c) (hO : mo_0 m F y) {tA tB : Int → Int} {n bb i fr mm : Int} (hn1 : 1 ≤ n) (hn4 : n ≤ 4) (hfr : fr = mo_f n) (hi : 0 ≤ i) (hL1 : F (y + 2) = (0, 124, fun j => .inr (vI (tA (j : Int))))) (hL2 : F (y + 3) = (0, 124, fun j => .inr (vI (tB (j : Int))))) (hLt : ∀ b : Int, 0 ≤ b → b < bx_K n → 0 ≤ tB (fr + b) ∧ tB (fr + b) < bx_K n) : ∀ (d : Nat) (a : Int) (k : Int) (h0 : 0 ≤ a) (h1 : a < bx_K n) (h2 : k ≤ 124) (hd : max 0 (k - i) < (d : Int)), am_E ac_X5_word (49, [vR y, vI n, vI bb, vI i, vI fr, vI mm, vI a, vI k], [], aq_h m s F c) (aq_Z m s F (fun a => y ≤ a ∧ a < y + 24) c (fun r d => aq_vi r ∧ mo_I y d))
  | 0, a, k, h0, h1, h2, hd => by exfalso; omega
  | d + 1, a, k, h0, h1, h2, hd => by
    obtain ⟨hm, hFo, hG5, hG6, hG7, hG8, hG9, hG10, hG11, hG12, hG13, hG14, hG15, hG16, hG17, hG18, hG19, hG20, hG21, hG22, hG23⟩ := hO
    have hfs := mo_fs n
    refine am_E.go (t2 := (51, [vR y, vI n, vI bb, vI i, vI fr, vI mm, vI a, vI k], [vI k], aq_h m s F c)) rfl rfl ?_
    refine am_E.go (t2 := (52, [vR y, vI n, vI bb, vI i, vI fr, vI mm, vI a, vI k], [vI i, vI k], aq_h m s F c)) rfl rfl ?_
    refine ae_icmp rfl (fun (q_1 : k ≤ i) => ?_) (fun (q_1 : i < k) => ?_)
    · refine am_E.go (t2 := (74, [vR y, vI n, vI bb, vI i, vI fr, vI mm, vI a, vI k], [vR y], aq_h m s F c)) rfl rfl ?_
      refine aq_gf (v := vR (y + 2)) rfl (by omega) hFo (by decide) rfl ?_
      show am_E _ (77, [vR y, vI n, vI bb, vI i, vI fr, vI mm, vI a, vI k], [vR (y + 2)], aq_h m s F c) _
      refine am_E.go (t2 := (79, [vR y, vI n, vI bb, vI i, vI fr, vI mm, vI a, vI k], [vI fr, vR (y + 2)], aq_h m s F c)) rfl rfl ?_
      refine am_E.go (t2 := (81, [vR y, vI n, vI bb, vI i, vI fr, vI mm, vI a, vI k], [vI a, vI fr, vR (y + 2)], aq_h m s F c)) rfl rfl ?_
      refine ae_add rfl (am_ri (by omega) (by omega)) ?_
      show am_E _ (82, [vR y, vI n, vI bb, vI i, vI fr, vI mm, vI a, vI k], [vI (fr + a), vR (y + 2)], aq_h m s F c) _
      refine aq_alt (ok := fun k => k == 0) rfl rfl (by omega) hL1 rfl (by omega) (by omega) ?_
      show am_E _ (83, [vR y, vI n, vI bb, vI i, vI fr, vI mm, vI a, vI k], [vI (tA (fr + a))], aq_h m s F c) _
      refine am_E.ret rfl rfl ?_
      exact ⟨_, rfl, aq_sm0, ⟨_, rfl⟩, hI⟩
    · refine am_E.go (t2 := (56, [vR y, vI n, vI bb, vI i, vI fr, vI mm, vI a, vI k], [vR y], aq_h m s F c)) rfl rfl ?_
      refine aq_gf (v := vR (y + 3)) rfl (by omega) hFo (by decide) rfl ?_
      show am_E _ (59, [vR y, vI n, vI bb, vI i, vI fr, vI mm, vI a, vI k], [vR (y + 3)], aq_h m s F c) _
      refine am_E.go (t2 := (61, [vR y, vI n, vI bb, vI i, vI fr, vI mm, vI a, vI k], [vI fr, vR (y + 3)], aq_h m s F c)) rfl rfl ?_
      refine am_E.go (t2 := (63, [vR y, vI n, vI bb, vI i, vI fr, vI mm, vI a, vI k], [vI a, vI fr, vR (y + 3)], aq_h m s F c)) rfl rfl ?_
      refine ae_add rfl (am_ri (by omega) (by omega)) ?_
      show am_E _ (64, [vR y, vI n, vI bb, vI i, vI fr, vI mm, vI a, vI k], [vI (fr + a), vR (y + 3)], aq_h m s F c) _
      refine aq_alt (ok := fun k => k == 0) rfl rfl (by omega) hL2 rfl (by omega) (by omega) ?_
      show am_E _ (65, [vR y, vI n, vI bb, vI i, vI fr, vI mm, vI a, vI k], [vI (tB (fr + a))], aq_h m s F c) _
      have f_2 := hLt a (by omega) (by omega)
      refine am_E.go (t2 := (67, [vR y, vI n, vI bb, vI i, vI fr, vI mm, vI (tB (fr + a)), vI k], [], aq_h m s F c)) rfl rfl ?_
      refine ae_iinc rfl rfl (am_ri (by omega) (by omega)) ?_
      show am_E _ (70, [vR y, vI n, vI bb, vI i, vI fr, vI mm, vI (tB (fr + a)), vI (k + (-1))], [], aq_h m s F c) _
      refine am_E.go (t2 := (49, [vR y, vI n, vI bb, vI i, vI fr, vI mm, vI (tB (fr + a)), vI (k + (-1))], [], aq_h m s F c)) rfl rfl ?_
      exact qm_word_l hI ⟨hm, hFo, hG5, hG6, hG7, hG8, hG9, hG10, hG11, hG12, hG13, hG14, hG15, hG16, hG17, hG18, hG19, hG20, hG21, hG22, hG23⟩ hn1 hn4 hfr hi hL1 hL2 hLt d (tB (fr + a)) (k + (-1)) (by omega) (by omega) (by omega) (by omega)

theorem qm_X5_word {m s : Nat} {F : aq_F} {c : aq_C} {y : Nat} (hC : mo_C m F y) (hI : mo_I y c) {n bb i : Int} : am_E ac_X5_word (0, [vR y, vI n, vI bb, vI i, vU, vU, vU, vU], [], aq_h m s F c) (aq_Z m s F (fun a => y ≤ a ∧ a < y + 24) c (fun r d => aq_vi r ∧ mo_I y d)) := by
  obtain ⟨⟨hm, hFo, hG5, hG6, hG7, hG8, hG9, hG10, hG11, hG12, hG13, hG14, hG15, hG16, hG17, hG18, hG19, hG20, hG21, hG22, hG23⟩, ⟨tbl, hT1, hTt⟩, ⟨tA, tB, tD, hL1, hL2, hL3, hLt⟩⟩ := hC
  have hfs := mo_fs n
  refine am_E.go (t2 := (1, [vR y, vI n, vI bb, vI i, vU, vU, vU, vU], [vI n], aq_h m s F c)) rfl rfl ?_
  refine am_E.go (t2 := (2, [vR y, vI n, vI bb, vI i, vU, vU, vU, vU], [vI bb, vI n], aq_h m s F c)) rfl rfl ?_
  refine am_E.call rfl rfl rfl (Nat.le_of_ble_eq_true rfl) (qm_isBox) ?_
  rintro r5 h5 ⟨rfl, v_1, rfl, hv_1⟩
  show am_E _ (5, [vR y, vI n, vI bb, vI i, vU, vU, vU, vU], [vI v_1], aq_h m s F c) _
  refine ae_if0 rfl (fun (q_2 : v_1 = 0) => ?_) (fun (q_2 : v_1 ≠ 0) => ?_)
  · refine am_E.go (t2 := (13, [vR y, vI n, vI bb, vI i, vU, vU, vU, vU], [vI (-1)], aq_h m s F c)) rfl rfl ?_
    refine am_E.ret rfl rfl ?_
    exact ⟨_, rfl, (aq_sm0 (c := c) (S := fun a => y ≤ a ∧ a < y + 24)), ⟨_, rfl⟩, hI⟩
  · refine am_E.go (t2 := (9, [vR y, vI n, vI bb, vI i, vU, vU, vU, vU], [vI i], aq_h m s F c)) rfl rfl ?_
    refine ae_if0 rfl (fun (q_3 : 0 ≤ i) => ?_) (fun (q_3 : i < 0) => ?_)
    · refine am_E.go (t2 := (15, [vR y, vI n, vI bb, vI i, vU, vU, vU, vU], [vI n], aq_h m s F c)) rfl rfl ?_
      refine am_E.call rfl rfl rfl (Nat.le_of_ble_eq_true rfl) (qm_first) ?_
      rintro r5 h5 ⟨rfl, fr, rfl, hfr⟩
      show am_E _ (18, [vR y, vI n, vI bb, vI i, vU, vU, vU, vU], [vI fr], aq_h m s F c) _
      refine am_E.go (t2 := (20, [vR y, vI n, vI bb, vI i, vI fr, vU, vU, vU], [], aq_h m s F c)) rfl rfl ?_
      refine am_E.go (t2 := (21, [vR y, vI n, vI bb, vI i, vI fr, vU, vU, vU], [vR y], aq_h m s F c)) rfl rfl ?_
      refine aq_gf (v := vR (y + 4)) rfl (by omega) hFo (by decide) rfl ?_
      show am_E _ (24, [vR y, vI n, vI bb, vI i, vI fr, vU, vU, vU], [vR (y + 4)], aq_h m s F c) _
      refine am_E.go (t2 := (26, [vR y, vI n, vI bb, vI i, vI fr, vU, vU, vU], [vI fr, vR (y + 4)], aq_h m s F c)) rfl rfl ?_
      refine am_E.go (t2 := (27, [vR y, vI n, vI bb, vI i, vI fr, vU, vU, vU], [vI bb, vI fr, vR (y + 4)], aq_h m s F c)) rfl rfl ?_
      refine ae_add rfl (am_ri (by omega) (by omega)) ?_
      show am_E _ (28, [vR y, vI n, vI bb, vI i, vI fr, vU, vU, vU], [vI (fr + bb), vR (y + 4)], aq_h m s F c) _
      refine aq_alt (ok := fun k => k == 0) rfl rfl (by omega) hL3 rfl (by omega) (by omega) ?_
      show am_E _ (29, [vR y, vI n, vI bb, vI i, vI fr, vU, vU, vU], [vI (tD (fr + bb))], aq_h m s F c) _
      have f_4 := hLt n bb (by omega) (by omega) (by omega) (by omega)
      rw [← hfr] at f_4
      refine am_E.go (t2 := (31, [vR y, vI n, vI bb, vI i, vI fr, vI (tD (fr + bb)), vU, vU], [], aq_h m s F c)) rfl rfl ?_
      refine am_E.go (t2 := (32, [vR y, vI n, vI bb, vI i, vI fr, vI (tD (fr + bb)), vU, vU], [vI i], aq_h m s F c)) rfl rfl ?_
      refine am_E.go (t2 := (34, [vR y, vI n, vI bb, vI i, vI fr, vI (tD (fr + bb)), vU, vU], [vI (tD (fr + bb)), vI i], aq_h m s F c)) rfl rfl ?_
      refine ae_icmp rfl (fun (q_5 : i < (tD (fr + bb))) => ?_) (fun (q_5 : (tD (fr + bb)) ≤ i) => ?_)
      · refine am_E.go (t2 := (41, [vR y, vI n, vI bb, vI i, vI fr, vI (tD (fr + bb)), vU, vU], [vI bb], aq_h m s F c)) rfl rfl ?_
        refine am_E.go (t2 := (43, [vR y, vI n, vI bb, vI i, vI fr, vI (tD (fr + bb)), vI bb, vU], [], aq_h m s F c)) rfl rfl ?_
        refine am_E.go (t2 := (45, [vR y, vI n, vI bb, vI i, vI fr, vI (tD (fr + bb)), vI bb, vU], [vI (tD (fr + bb))], aq_h m s F c)) rfl rfl ?_
        refine am_E.go (t2 := (46, [vR y, vI n, vI bb, vI i, vI fr, vI (tD (fr + bb)), vI bb, vU], [vI 1, vI (tD (fr + bb))], aq_h m s F c)) rfl rfl ?_
        refine ae_sub rfl (am_ri (by omega) (by omega)) ?_
        show am_E _ (47, [vR y, vI n, vI bb, vI i, vI fr, vI (tD (fr + bb)), vI bb, vU], [vI ((tD (fr + bb)) - 1)], aq_h m s F c) _
        refine am_E.go (t2 := (49, [vR y, vI n, vI bb, vI i, vI fr, vI (tD (fr + bb)), vI bb, vI ((tD (fr + bb)) - 1)], [], aq_h m s F c)) rfl rfl ?_
        exact qm_word_l hI ⟨hm, hFo, hG5, hG6, hG7, hG8, hG9, hG10, hG11, hG12, hG13, hG14, hG15, hG16, hG17, hG18, hG19, hG20, hG21, hG22, hG23⟩ (by omega) (by omega) hfr (by omega) hL1 hL2 (fun b h5 h6 => by have := hLt n b (by omega) (by omega) h5 h6; rw [hfr]; exact ⟨this.1, this.2.1⟩) 126 bb ((tD (fr + bb)) - 1) (by omega) (by omega) (by omega) (by omega)
      · refine am_E.go (t2 := (39, [vR y, vI n, vI bb, vI i, vI fr, vI (tD (fr + bb)), vU, vU], [vI (-4)], aq_h m s F c)) rfl rfl ?_
        refine am_E.ret rfl rfl ?_
        exact ⟨_, rfl, (aq_sm0 (c := c) (S := fun a => y ≤ a ∧ a < y + 24)), ⟨_, rfl⟩, hI⟩
    · refine am_E.go (t2 := (13, [vR y, vI n, vI bb, vI i, vU, vU, vU, vU], [vI (-1)], aq_h m s F c)) rfl rfl ?_
      refine am_E.ret rfl rfl ?_
      exact ⟨_, rfl, (aq_sm0 (c := c) (S := fun a => y ≤ a ∧ a < y + 24)), ⟨_, rfl⟩, hI⟩
def mo_q (y : Nat) (c d : aq_C) : Prop := d y 9 = c y 9 ∧ d y 10 = c y 10
theorem mo_q0 {y : Nat} {c : aq_C} : mo_q y c c := ⟨rfl, rfl⟩
theorem mo_qt {y : Nat} {c d e : aq_C} (h1 : mo_q y c d) (h2 : mo_q y d e) : mo_q y c e := ⟨by rw [h2.1, h1.1], by rw [h2.2, h1.2]⟩
theorem mo_qs {S : Nat → Prop} {y : Nat} {c d e : aq_C} (h1 : mo_q y c d) (hs : aq_sm S d e) (hy : ¬ S y) : mo_q y c e := ⟨by rw [hs y hy, h1.1], by rw [hs y hy, h1.2]⟩
theorem mo_qu {y a : Nat} {i x : Int} {c d e : aq_C} (h1 : mo_q y c d) (he : aq_u d a i x = e) (h : y ≠ a ∨ (i ≠ 9 ∧ i ≠ 10)) : mo_q y c e := by
  subst he
  exact ⟨by rw [aq_un (by omega), h1.1], by rw [aq_un (by omega), h1.2]⟩
theorem mo_qk {y : Nat} {c d : aq_C} (h : mo_k y c d) : mo_q y c d := ⟨h.1, h.2.1⟩
/-- place j of the row is a term -/
def mo_v (y : Nat) (K : Int) (c : aq_C) (j : Int) : Prop := 0 ≤ c (y + 15) j ∧ c (y + 15) j < K ∧ c (y + 17) j ≠ 0 ∧ -1000000000000 ≤ c (y + 17) j ∧ c (y + 17) j ≤ 1000000000000
def mo_R (y : Nat) (K : Int) (c : aq_C) : Prop := 0 ≤ c y 17 ∧ c y 17 ≤ 40 ∧ ∀ j, 0 ≤ j → j < c y 17 → mo_v y K c j
theorem mo_vc {y : Nat} {K j i : Int} {c d : aq_C} (h15 : d (y + 15) j = c (y + 15) i) (h17 : d (y + 17) j = c (y + 17) i) (h : mo_v y K c i) : mo_v y K d j := by
  unfold mo_v at *
  rw [h15, h17]
  exact h
theorem mo_Rc {y : Nat} {K : Int} {c d : aq_C} (h0 : d y 17 = c y 17) (h15 : ∀ i, d (y + 15) i = c (y + 15) i) (h17 : ∀ i, d (y + 17) i = c (y + 17) i) (h : mo_R y K c) : mo_R y K d :=
  ⟨by rw [h0]; exact h.1, by rw [h0]; exact h.2.1, fun j h1 h2 => mo_vc (h15 j) (h17 j) (h.2.2 j h1 (by rw [← h0]; exact h2))⟩

theorem qm_move {m s : Nat} {F : aq_F} {c : aq_C} {y : Nat} (hO : mo_0 m F y) {t f : Int} (ht0 : 0 ≤ t) (ht1 : t < 42) (hf0 : 0 ≤ f) (hf1 : f < 42) : am_E ac_X5_move (0, [vR y, vI t, vI f], [], aq_h m s F c) (aq_Z m s F (fun a => a = y + 15 ∨ a = y + 16 ∨ a = y + 17) c (fun r d => r = none ∧ (∀ j, d (y + 15) j = if j = t then c (y + 15) f else c (y + 15) j) ∧ (∀ j, d (y + 16) j = if j = t then c (y + 16) f else c (y + 16) j) ∧ ∀ j, d (y + 17) j = if j = t then c (y + 17) f else c (y + 17) j)) := by
  obtain ⟨hm, hFo, hG5, hG6, hG7, hG8, hG9, hG10, hG11, hG12, hG13, hG14, hG15, hG16, hG17, hG18, hG19, hG20, hG21, hG22, hG23⟩ := hO
  refine am_E.go (t2 := (1, [vR y, vI t, vI f], [vR y], aq_h m s F c)) rfl rfl ?_
  refine aq_gf (v := vR (y + 15)) rfl (by omega) hFo (by decide) rfl ?_
  show am_E _ (4, [vR y, vI t, vI f], [vR (y + 15)], aq_h m s F c) _
  refine am_E.go (t2 := (5, [vR y, vI t, vI f], [vI t, vR (y + 15)], aq_h m s F c)) rfl rfl ?_
  refine am_E.go (t2 := (6, [vR y, vI t, vI f], [vR y, vI t, vR (y + 15)], aq_h m s F c)) rfl rfl ?_
  refine aq_gf (v := vR (y + 15)) rfl (by omega) hFo (by decide) rfl ?_
  show am_E _ (9, [vR y, vI t, vI f], [vR (y + 15), vI t, vR (y + 15)], aq_h m s F c) _
  refine am_E.go (t2 := (10, [vR y, vI t, vI f], [vI f, vR (y + 15), vI t, vR (y + 15)], aq_h m s F c)) rfl rfl ?_
  refine aq_al (ok := fun k => k == 0) (v := vI (c (y + 15) f)) rfl rfl (by omega) hG15 rfl (by omega) (by omega) rfl ?_
  show am_E _ (11, [vR y, vI t, vI f], [vI (c (y + 15) f), vI t, vR (y + 15)], aq_h m s F c) _
  refine aq_as (kd := 0) rfl rfl (by omega) hG15 (by omega) (by omega) rfl rfl ?_
  show am_E _ (12, [vR y, vI t, vI f], [], aq_h m s F (aq_u c (y + 15) t (c (y + 15) f))) _
  generalize hdc_1 : aq_u c (y + 15) t (c (y + 15) f) = c_1
  have sc_1 := aq_smu (aq_sm0 (c := c) (S := (fun a => a = y + 15 ∨ a = y + 16 ∨ a = y + 17))) hdc_1 (Or.inl rfl)
  refine am_E.go (t2 := (13, [vR y, vI t, vI f], [vR y], aq_h m s F c_1)) rfl rfl ?_
  refine aq_gf (v := vR (y + 16)) rfl (by omega) hFo (by decide) rfl ?_
  show am_E _ (16, [vR y, vI t, vI f], [vR (y + 16)], aq_h m s F c_1) _
  refine am_E.go (t2 := (17, [vR y, vI t, vI f], [vI t, vR (y + 16)], aq_h m s F c_1)) rfl rfl ?_
  refine am_E.go (t2 := (18, [vR y, vI t, vI f], [vR y, vI t, vR (y + 16)], aq_h m s F c_1)) rfl rfl ?_
  refine aq_gf (v := vR (y + 16)) rfl (by omega) hFo (by decide) rfl ?_
  show am_E _ (21, [vR y, vI t, vI f], [vR (y + 16), vI t, vR (y + 16)], aq_h m s F c_1) _
  refine am_E.go (t2 := (22, [vR y, vI t, vI f], [vI f, vR (y + 16), vI t, vR (y + 16)], aq_h m s F c_1)) rfl rfl ?_
  refine aq_al (ok := fun k => k == 0) (v := vI (c_1 (y + 16) f)) rfl rfl (by omega) hG16 rfl (by omega) (by omega) rfl ?_
  show am_E _ (23, [vR y, vI t, vI f], [vI (c_1 (y + 16) f), vI t, vR (y + 16)], aq_h m s F c_1) _
  refine aq_as (kd := 0) rfl rfl (by omega) hG16 (by omega) (by omega) rfl rfl ?_
  show am_E _ (24, [vR y, vI t, vI f], [], aq_h m s F (aq_u c_1 (y + 16) t (c_1 (y + 16) f))) _
  generalize hdc_2 : aq_u c_1 (y + 16) t (c_1 (y + 16) f) = c_2
  have sc_2 := aq_smu sc_1 hdc_2 (Or.inr (Or.inl rfl))
  refine am_E.go (t2 := (25, [vR y, vI t, vI f], [vR y], aq_h m s F c_2)) rfl rfl ?_
  refine aq_gf (v := vR (y + 17)) rfl (by omega) hFo (by decide) rfl ?_
  show am_E _ (28, [vR y, vI t, vI f], [vR (y + 17)], aq_h m s F c_2) _
  refine am_E.go (t2 := (29, [vR y, vI t, vI f], [vI t, vR (y + 17)], aq_h m s F c_2)) rfl rfl ?_
  refine am_E.go (t2 := (30, [vR y, vI t, vI f], [vR y, vI t, vR (y + 17)], aq_h m s F c_2)) rfl rfl ?_
  refine aq_gf (v := vR (y + 17)) rfl (by omega) hFo (by decide) rfl ?_
  show am_E _ (33, [vR y, vI t, vI f], [vR (y + 17), vI t, vR (y + 17)], aq_h m s F c_2) _
  refine am_E.go (t2 := (34, [vR y, vI t, vI f], [vI f, vR (y + 17), vI t, vR (y + 17)], aq_h m s F c_2)) rfl rfl ?_
  refine aq_al (ok := fun k => k == 2) (v := vL (c_2 (y + 17) f)) rfl rfl (by omega) hG17 rfl (by omega) (by omega) rfl ?_
  show am_E _ (35, [vR y, vI t, vI f], [vL (c_2 (y + 17) f), vI t, vR (y + 17)], aq_h m s F c_2) _
  refine aq_asl rfl rfl (by omega) hG17 (by omega) (by omega) rfl ?_
  show am_E _ (36, [vR y, vI t, vI f], [], aq_h m s F (aq_u c_2 (y + 17) t (c_2 (y + 17) f))) _
  generalize hdc_3 : aq_u c_2 (y + 17) t (c_2 (y + 17) f) = c_3
  have sc_3 := aq_smu sc_2 hdc_3 (Or.inr (Or.inr rfl))
  refine am_E.ret rfl rfl ?_
  refine ⟨_, rfl, sc_3, rfl, fun j => ?_, fun j => ?_, fun j => ?_⟩
  · rw [← hdc_3, aq_un (Or.inl (by omega)), ← hdc_2, aq_un (Or.inl (by omega)), ← hdc_1]
    unfold aq_u
    by_cases e : j = t
    · rw [if_pos ⟨rfl, e⟩, if_pos e]
    · rw [if_neg (fun h => e h.2), if_neg e]
  · rw [← hdc_3, aq_un (Or.inl (by omega)), ← hdc_2]
    unfold aq_u
    by_cases e : j = t
    · rw [if_pos ⟨rfl, e⟩, if_pos e, ← hdc_1, aq_un (Or.inl (by omega))]
    · rw [if_neg (fun h => e h.2), if_neg e, ← hdc_1, aq_un (Or.inl (by omega))]
  · rw [← hdc_3]
    unfold aq_u
    by_cases e : j = t
    · rw [if_pos ⟨rfl, e⟩, if_pos e, ← hdc_2, aq_un (Or.inl (by omega)), ← hdc_1, aq_un (Or.inl (by omega))]
    · rw [if_neg (fun h => e h.2), if_neg e, ← hdc_2, aq_un (Or.inl (by omega)), ← hdc_1, aq_un (Or.inl (by omega))]

theorem qm_comes_2 {m s : Nat} {F : aq_F} {c0 : aq_C} {y : Nat} (hO : mo_0 m F y) {K b p f k sz : Int} (hsz : sz < 40) : ∀ (d : Nat) (i : Int) (c : aq_C) (hs : aq_sm (fun a => a = y ∨ a = y + 15 ∨ a = y + 16 ∨ a = y + 17) c0 c) (hz : c y 17 = sz) (hq : mo_q y c0 c) (h0 : 0 ≤ i) (h1 : i ≤ sz) (hv : ∀ j, 0 ≤ j → j ≤ sz → j ≠ i → mo_v y K c j) (hd : sz - i < (d : Int)), am_E ac_X5_comes (148, [vR y, vI b, vI p, vL f, vU, vI k, vI i], [], aq_h m s F c) (aq_Z m s F (fun a => a = y ∨ a = y + 15 ∨ a = y + 16 ∨ a = y + 17) c0 (fun r d => ∃ v, r = some (vI v) ∧ (v = 0 ∨ v = 1) ∧ mo_q y c0 d ∧ (v = 1 → mo_R y K d)))
  | 0, i, c, hs, hz, hq, h0, h1, hv, hd => by exfalso; omega
  | d + 1, i, c, hs, hz, hq, h0, h1, hv, hd => by
    obtain ⟨hm, hFo, hG5, hG6, hG7, hG8, hG9, hG10, hG11, hG12, hG13, hG14, hG15, hG16, hG17, hG18, hG19, hG20, hG21, hG22, hG23⟩ := hO
    refine am_E.go (t2 := (150, [vR y, vI b, vI p, vL f, vU, vI k, vI i], [vI i], aq_h m s F c)) rfl rfl ?_
    refine am_E.go (t2 := (151, [vR y, vI b, vI p, vL f, vU, vI k, vI i], [vR y, vI i], aq_h m s F c)) rfl rfl ?_
    refine aq_gf (v := vI (c y 17)) rfl (by omega) hFo (by decide) rfl ?_
    show am_E _ (154, [vR y, vI b, vI p, vL f, vU, vI k, vI i], [vI (c y 17), vI i], aq_h m s F c) _
    have f_1 := hz
    refine ae_icmp rfl (fun (q_2 : (c y 17) ≤ i) => ?_) (fun (q_2 : i < (c y 17)) => ?_)
    · refine am_E.go (t2 := (174, [vR y, vI b, vI p, vL f, vU, vI k, vI i], [vI 1], aq_h m s F c)) rfl rfl ?_
      refine am_E.ret rfl rfl ?_
      exact ⟨_, rfl, hs, 1, rfl, Or.inr rfl, hq, fun _ => ⟨by omega, by omega, fun j h5 h6 => hv j h5 (by omega) (by omega)⟩⟩
    · refine am_E.go (t2 := (158, [vR y, vI b, vI p, vL f, vU, vI k, vI i], [vR y], aq_h m s F c)) rfl rfl ?_
      refine am_E.go (t2 := (160, [vR y, vI b, vI p, vL f, vU, vI k, vI i], [vI i, vR y], aq_h m s F c)) rfl rfl ?_
      refine am_E.go (t2 := (162, [vR y, vI b, vI p, vL f, vU, vI k, vI i], [vI i, vI i, vR y], aq_h m s F c)) rfl rfl ?_
      refine am_E.go (t2 := (163, [vR y, vI b, vI p, vL f, vU, vI k, vI i], [vI 1, vI i, vI i, vR y], aq_h m s F c)) rfl rfl ?_
      refine ae_add rfl (am_ri (by omega) (by omega)) ?_
      show am_E _ (164, [vR y, vI b, vI p, vL f, vU, vI k, vI i], [vI (i + 1), vI i, vR y], aq_h m s F c) _
      refine aq_callv (y := 3) (as2 := [vI i, vI (i + 1)]) (rest := []) rfl rfl (by decide) (Nat.le_of_ble_eq_true rfl) rfl rfl (Nat.le_of_ble_eq_true rfl) (by omega) hFo rfl (Nat.le_of_ble_eq_true rfl) (qm_move ⟨hm, hFo, hG5, hG6, hG7, hG8, hG9, hG10, hG11, hG12, hG13, hG14, hG15, hG16, hG17, hG18, hG19, hG20, hG21, hG22, hG23⟩ (by omega) (by omega) (by omega) (by omega)) ?_
      rintro r5 h5 ⟨c_m, rfl, s_m, rfl, m15, m16, m17⟩
      show am_E _ (167, [vR y, vI b, vI p, vL f, vU, vI k, vI i], [], aq_h m s F c_m) _
      refine ae_iinc rfl rfl (am_ri (by omega) (by omega)) ?_
      show am_E _ (170, [vR y, vI b, vI p, vL f, vU, vI k, vI (i + 1)], [], aq_h m s F c_m) _
      refine am_E.go (t2 := (148, [vR y, vI b, vI p, vL f, vU, vI k, vI (i + 1)], [], aq_h m s F c_m)) rfl rfl ?_
      exact qm_comes_2 ⟨hm, hFo, hG5, hG6, hG7, hG8, hG9, hG10, hG11, hG12, hG13, hG14, hG15, hG16, hG17, hG18, hG19, hG20, hG21, hG22, hG23⟩ hsz d (i + 1) c_m (aq_smt hs (aq_smi s_m (fun a h => Or.inr h))) (by rw [s_m y (by omega) 17]; exact hz) (mo_qs hq s_m (by omega)) (by omega) (by omega) (fun j h5 h6 h7 => by by_cases e : j = i; (rw [e]; exact mo_vc (by rw [m15 i, if_pos rfl]) (by rw [m17 i, if_pos rfl]) (hv (i + 1) (by omega) (by omega) (by omega))); exact mo_vc (by rw [m15 j, if_neg e]) (by rw [m17 j, if_neg e]) (hv j h5 h6 e)) (by omega)

theorem qm_comes_3 {m s : Nat} {F : aq_F} {c0 : aq_C} {y : Nat} (hO : mo_0 m F y) {K b p f k sz : Int} (hsz : sz < 40) (hk0 : 0 ≤ k) (hb0 : 0 ≤ b) (hb1 : b < K) (hf0 : f ≠ 0) (hf1 : -1000000000000 ≤ f) (hf2 : f ≤ 1000000000000) : ∀ (d : Nat) (i : Int) (c : aq_C) (hs : aq_sm (fun a => a = y ∨ a = y + 15 ∨ a = y + 16 ∨ a = y + 17) c0 c) (hz : c y 17 = sz) (hq : mo_q y c0 c) (h0 : k ≤ i) (h1 : i ≤ sz) (hv : ∀ j, 0 ≤ j → j ≤ sz → j ≠ i → mo_v y K c j) (hd : i - k < (d : Int)), am_E ac_X5_comes (209, [vR y, vI b, vI p, vL f, vU, vI k, vI i], [], aq_h m s F c) (aq_Z m s F (fun a => a = y ∨ a = y + 15 ∨ a = y + 16 ∨ a = y + 17) c0 (fun r d => ∃ v, r = some (vI v) ∧ (v = 0 ∨ v = 1) ∧ mo_q y c0 d ∧ (v = 1 → mo_R y K d)))
  | 0, i, c, hs, hz, hq, h0, h1, hv, hd => by exfalso; omega
  | d + 1, i, c, hs, hz, hq, h0, h1, hv, hd => by
    obtain ⟨hm, hFo, hG5, hG6, hG7, hG8, hG9, hG10, hG11, hG12, hG13, hG14, hG15, hG16, hG17, hG18, hG19, hG20, hG21, hG22, hG23⟩ := hO
    refine am_E.go (t2 := (211, [vR y, vI b, vI p, vL f, vU, vI k, vI i], [vI i], aq_h m s F c)) rfl rfl ?_
    refine am_E.go (t2 := (213, [vR y, vI b, vI p, vL f, vU, vI k, vI i], [vI k, vI i], aq_h m s F c)) rfl rfl ?_
    refine ae_icmp rfl (fun (q_1 : i ≤ k) => ?_) (fun (q_1 : k < i) => ?_)
    · refine am_E.go (t2 := (233, [vR y, vI b, vI p, vL f, vU, vI k, vI i], [vR y], aq_h m s F c)) rfl rfl ?_
      refine aq_gf (v := vR (y + 15)) rfl (by omega) hFo (by decide) rfl ?_
      show am_E _ (236, [vR y, vI b, vI p, vL f, vU, vI k, vI i], [vR (y + 15)], aq_h m s F c) _
      refine am_E.go (t2 := (238, [vR y, vI b, vI p, vL f, vU, vI k, vI i], [vI k, vR (y + 15)], aq_h m s F c)) rfl rfl ?_
      refine am_E.go (t2 := (239, [vR y, vI b, vI p, vL f, vU, vI k, vI i], [vI b, vI k, vR (y + 15)], aq_h m s F c)) rfl rfl ?_
      refine aq_as (kd := 0) rfl rfl (by omega) hG15 (by omega) (by omega) rfl rfl ?_
      show am_E _ (240, [vR y, vI b, vI p, vL f, vU, vI k, vI i], [], aq_h m s F (aq_u c (y + 15) k b)) _
      generalize hdc_2 : aq_u c (y + 15) k b = c_2
      have sc_2 := aq_smu hs hdc_2 (Or.inr (Or.inl rfl))
      refine am_E.go (t2 := (241, [vR y, vI b, vI p, vL f, vU, vI k, vI i], [vR y], aq_h m s F c_2)) rfl rfl ?_
      refine aq_gf (v := vR (y + 16)) rfl (by omega) hFo (by decide) rfl ?_
      show am_E _ (244, [vR y, vI b, vI p, vL f, vU, vI k, vI i], [vR (y + 16)], aq_h m s F c_2) _
      refine am_E.go (t2 := (246, [vR y, vI b, vI p, vL f, vU, vI k, vI i], [vI k, vR (y + 16)], aq_h m s F c_2)) rfl rfl ?_
      refine am_E.go (t2 := (247, [vR y, vI b, vI p, vL f, vU, vI k, vI i], [vI p, vI k, vR (y + 16)], aq_h m s F c_2)) rfl rfl ?_
      refine aq_as (kd := 0) rfl rfl (by omega) hG16 (by omega) (by omega) rfl rfl ?_
      show am_E _ (248, [vR y, vI b, vI p, vL f, vU, vI k, vI i], [], aq_h m s F (aq_u c_2 (y + 16) k p)) _
      generalize hdc_3 : aq_u c_2 (y + 16) k p = c_3
      have sc_3 := aq_smu sc_2 hdc_3 (Or.inr (Or.inr (Or.inl rfl)))
      refine am_E.go (t2 := (249, [vR y, vI b, vI p, vL f, vU, vI k, vI i], [vR y], aq_h m s F c_3)) rfl rfl ?_
      refine aq_gf (v := vR (y + 17)) rfl (by omega) hFo (by decide) rfl ?_
      show am_E _ (252, [vR y, vI b, vI p, vL f, vU, vI k, vI i], [vR (y + 17)], aq_h m s F c_3) _
      refine am_E.go (t2 := (254, [vR y, vI b, vI p, vL f, vU, vI k, vI i], [vI k, vR (y + 17)], aq_h m s F c_3)) rfl rfl ?_
      refine am_E.go (t2 := (255, [vR y, vI b, vI p, vL f, vU, vI k, vI i], [vL f, vI k, vR (y + 17)], aq_h m s F c_3)) rfl rfl ?_
      refine aq_asl rfl rfl (by omega) hG17 (by omega) (by omega) rfl ?_
      show am_E _ (256, [vR y, vI b, vI p, vL f, vU, vI k, vI i], [], aq_h m s F (aq_u c_3 (y + 17) k f)) _
      generalize hdc_4 : aq_u c_3 (y + 17) k f = c_4
      have sc_4 := aq_smu sc_3 hdc_4 (Or.inr (Or.inr (Or.inr rfl)))
      refine am_E.go (t2 := (257, [vR y, vI b, vI p, vL f, vU, vI k, vI i], [vR y], aq_h m s F c_4)) rfl rfl ?_
      refine am_E.go (t2 := (258, [vR y, vI b, vI p, vL f, vU, vI k, vI i], [vR y, vR y], aq_h m s F c_4)) rfl rfl ?_
      refine aq_gf (v := vI (c_4 y 17)) rfl (by omega) hFo (by decide) rfl ?_
      show am_E _ (261, [vR y, vI b, vI p, vL f, vU, vI k, vI i], [vI (c_4 y 17), vR y], aq_h m s F c_4) _
      have f_5 : c_4 y 17 = sz := by rw [← hdc_4, aq_un (Or.inl (by omega)), ← hdc_3, aq_un (Or.inl (by omega)), ← hdc_2, aq_un (Or.inl (by omega)), hz]
      refine am_E.go (t2 := (262, [vR y, vI b, vI p, vL f, vU, vI k, vI i], [vI 1, vI (c_4 y 17), vR y], aq_h m s F c_4)) rfl rfl ?_
      refine ae_add rfl (am_ri (by omega) (by omega)) ?_
      show am_E _ (263, [vR y, vI b, vI p, vL f, vU, vI k, vI i], [vI ((c_4 y 17) + 1), vR y], aq_h m s F c_4) _
      refine aq_pf rfl (by omega) hFo (by decide) rfl rfl ?_
      show am_E _ (266, [vR y, vI b, vI p, vL f, vU, vI k, vI i], [], aq_h m s F (aq_u c_4 y 17 ((c_4 y 17) + 1))) _
      generalize hdc_6 : aq_u c_4 y 17 ((c_4 y 17) + 1) = c_6
      have sc_6 := aq_smu sc_4 hdc_6 (Or.inl rfl)
      refine am_E.go (t2 := (267, [vR y, vI b, vI p, vL f, vU, vI k, vI i], [vI 1], aq_h m s F c_6)) rfl rfl ?_
      refine am_E.ret rfl rfl ?_
      have g17 : c_6 y 17 = sz + 1 := by rw [← hdc_6, aq_us, ← hdc_4, aq_un (Or.inl (by omega)), ← hdc_3, aq_un (Or.inl (by omega)), ← hdc_2, aq_un (Or.inl (by omega)), hz]
      have gq : mo_q y c0 c_6 := mo_qu (mo_qu (mo_qu (mo_qu hq hdc_2 (Or.inl (by omega))) hdc_3 (Or.inl (by omega))) hdc_4 (Or.inl (by omega))) hdc_6 (Or.inr (by decide))
      refine ⟨_, rfl, sc_6, 1, rfl, Or.inr rfl, gq, fun _ => ⟨by omega, by omega, fun j h5 h6 => ?_⟩⟩
      have n15 : c_6 (y + 15) j = if j = k then b else c (y + 15) j := by
        rw [← hdc_6, aq_un (Or.inl (by omega)), ← hdc_4, aq_un (Or.inl (by omega)), ← hdc_3, aq_un (Or.inl (by omega)), ← hdc_2]
        unfold aq_u
        by_cases e : j = k
        · rw [if_pos ⟨rfl, e⟩, if_pos e]
        · rw [if_neg (fun h => e h.2), if_neg e]
      have n17 : c_6 (y + 17) j = if j = k then f else c (y + 17) j := by
        rw [← hdc_6, aq_un (Or.inl (by omega)), ← hdc_4]
        unfold aq_u
        by_cases e : j = k
        · rw [if_pos ⟨rfl, e⟩, if_pos e]
        · rw [if_neg (fun h => e h.2), if_neg e, ← hdc_3, aq_un (Or.inl (by omega)), ← hdc_2, aq_un (Or.inl (by omega))]
      by_cases e9 : j = k
      · rw [if_pos e9] at n15 n17
        exact ⟨by omega, by omega, by omega, by omega, by omega⟩
      · rw [if_neg e9] at n15 n17
        exact mo_vc n15 n17 (hv j h5 (by omega) (by omega))
    · refine am_E.go (t2 := (217, [vR y, vI b, vI p, vL f, vU, vI k, vI i], [vR y], aq_h m s F c)) rfl rfl ?_
      refine am_E.go (t2 := (219, [vR y, vI b, vI p, vL f, vU, vI k, vI i], [vI i, vR y], aq_h m s F c)) rfl rfl ?_
      refine am_E.go (t2 := (221, [vR y, vI b, vI p, vL f, vU, vI k, vI i], [vI i, vI i, vR y], aq_h m s F c)) rfl rfl ?_
      refine am_E.go (t2 := (222, [vR y, vI b, vI p, vL f, vU, vI k, vI i], [vI 1, vI i, vI i, vR y], aq_h m s F c)) rfl rfl ?_
      refine ae_sub rfl (am_ri (by omega) (by omega)) ?_
      show am_E _ (223, [vR y, vI b, vI p, vL f, vU, vI k, vI i], [vI (i - 1), vI i, vR y], aq_h m s F c) _
      refine aq_callv (y := 3) (as2 := [vI i, vI (i - 1)]) (rest := []) rfl rfl (by decide) (Nat.le_of_ble_eq_true rfl) rfl rfl (Nat.le_of_ble_eq_true rfl) (by omega) hFo rfl (Nat.le_of_ble_eq_true rfl) (qm_move ⟨hm, hFo, hG5, hG6, hG7, hG8, hG9, hG10, hG11, hG12, hG13, hG14, hG15, hG16, hG17, hG18, hG19, hG20, hG21, hG22, hG23⟩ (by omega) (by omega) (by omega) (by omega)) ?_
      rintro r5 h5 ⟨c_m, rfl, s_m, rfl, m15, m16, m17⟩
      show am_E _ (226, [vR y, vI b, vI p, vL f, vU, vI k, vI i], [], aq_h m s F c_m) _
      refine ae_iinc rfl rfl (am_ri (by omega) (by omega)) ?_
      show am_E _ (229, [vR y, vI b, vI p, vL f, vU, vI k, vI (i + (-1))], [], aq_h m s F c_m) _
      refine am_E.go (t2 := (209, [vR y, vI b, vI p, vL f, vU, vI k, vI (i + (-1))], [], aq_h m s F c_m)) rfl rfl ?_
      exact qm_comes_3 ⟨hm, hFo, hG5, hG6, hG7, hG8, hG9, hG10, hG11, hG12, hG13, hG14, hG15, hG16, hG17, hG18, hG19, hG20, hG21, hG22, hG23⟩ hsz hk0 hb0 hb1 hf0 hf1 hf2 d (i + (-1)) c_m (aq_smt hs (aq_smi s_m (fun a h => Or.inr h))) (by rw [s_m y (by omega) 17]; exact hz) (mo_qs hq s_m (by omega)) (by omega) (by omega) (fun j h5 h6 h7 => by by_cases e : j = i; (rw [e]; exact mo_vc (by rw [m15 i, if_pos rfl]) (by rw [m17 i, if_pos rfl]) (hv (i - 1) (by omega) (by omega) (by omega))); exact mo_vc (by rw [m15 j, if_neg e]) (by rw [m17 j, if_neg e]) (hv j h5 h6 e)) (by omega)

theorem qm_comes_1 {m s : Nat} {F : aq_F} {c : aq_C} {y : Nat} (hO : mo_0 m F y) {K b p f : Int} (hb0 : 0 ≤ b) (hb1 : b < K) (hR : mo_R y K c) : ∀ (d : Nat) (k : Int) (v6 : am_V) (h0 : 0 ≤ k) (h1 : k ≤ c y 17) (hd : c y 17 - k < (d : Int)) (K0 : ∀ (k2 : Int) (f0 : 0 ≤ k2) (f1 : k2 ≤ c y 17), am_E ac_X5_comes (80, [vR y, vI b, vI p, vL f, vU, vI k2, v6], [], aq_h m s F c) (aq_Z m s F (fun a => a = y ∨ a = y + 15 ∨ a = y + 16 ∨ a = y + 17) c (fun r d => ∃ v, r = some (vI v) ∧ (v = 0 ∨ v = 1) ∧ mo_q y c d ∧ (v = 1 → mo_R y K d)))), am_E ac_X5_comes (32, [vR y, vI b, vI p, vL f, vU, vI k, v6], [], aq_h m s F c) (aq_Z m s F (fun a => a = y ∨ a = y + 15 ∨ a = y + 16 ∨ a = y + 17) c (fun r d => ∃ v, r = some (vI v) ∧ (v = 0 ∨ v = 1) ∧ mo_q y c d ∧ (v = 1 → mo_R y K d)))
  | 0, k, v6, h0, h1, hd, K0 => by exfalso; omega
  | d + 1, k, v6, h0, h1, hd, K0 => by
    obtain ⟨hm, hFo, hG5, hG6, hG7, hG8, hG9, hG10, hG11, hG12, hG13, hG14, hG15, hG16, hG17, hG18, hG19, hG20, hG21, hG22, hG23⟩ := hO
    have hR1 := hR.1
    have hR2 := hR.2.1
    refine am_E.go (t2 := (34, [vR y, vI b, vI p, vL f, vU, vI k, v6], [vI k], aq_h m s F c)) rfl rfl ?_
    refine am_E.go (t2 := (35, [vR y, vI b, vI p, vL f, vU, vI k, v6], [vR y, vI k], aq_h m s F c)) rfl rfl ?_
    refine aq_gf (v := vI (c y 17)) rfl (by omega) hFo (by decide) rfl ?_
    show am_E _ (38, [vR y, vI b, vI p, vL f, vU, vI k, v6], [vI (c y 17), vI k], aq_h m s F c) _
    skip
    refine ae_icmp rfl (fun (q_2 : (c y 17) ≤ k) => ?_) (fun (q_2 : k < (c y 17)) => ?_)
    · exact K0 k (by omega) (by omega)
    · refine am_E.go (t2 := (42, [vR y, vI b, vI p, vL f, vU, vI k, v6], [vR y], aq_h m s F c)) rfl rfl ?_
      refine aq_gf (v := vR (y + 15)) rfl (by omega) hFo (by decide) rfl ?_
      show am_E _ (45, [vR y, vI b, vI p, vL f, vU, vI k, v6], [vR (y + 15)], aq_h m s F c) _
      refine am_E.go (t2 := (47, [vR y, vI b, vI p, vL f, vU, vI k, v6], [vI k, vR (y + 15)], aq_h m s F c)) rfl rfl ?_
      refine aq_al (ok := fun k => k == 0) (v := vI (c (y + 15) k)) rfl rfl (by omega) hG15 rfl (by omega) (by omega) rfl ?_
      show am_E _ (48, [vR y, vI b, vI p, vL f, vU, vI k, v6], [vI (c (y + 15) k)], aq_h m s F c) _
      refine am_E.go (t2 := (49, [vR y, vI b, vI p, vL f, vU, vI k, v6], [vI b, vI (c (y + 15) k)], aq_h m s F c)) rfl rfl ?_
      refine ae_icmp rfl (fun (q_3 : (c (y + 15) k) < b) => ?_) (fun (q_3 : b ≤ (c (y + 15) k)) => ?_)
      · refine ae_iinc rfl rfl (am_ri (by omega) (by omega)) ?_
        show am_E _ (77, [vR y, vI b, vI p, vL f, vU, vI (k + 1), v6], [], aq_h m s F c) _
        refine am_E.go (t2 := (32, [vR y, vI b, vI p, vL f, vU, vI (k + 1), v6], [], aq_h m s F c)) rfl rfl ?_
        exact qm_comes_1 ⟨hm, hFo, hG5, hG6, hG7, hG8, hG9, hG10, hG11, hG12, hG13, hG14, hG15, hG16, hG17, hG18, hG19, hG20, hG21, hG22, hG23⟩ hb0 hb1 hR d (k + 1) (v6) (by omega) (by omega) (by omega) K0
      · refine am_E.go (t2 := (53, [vR y, vI b, vI p, vL f, vU, vI k, v6], [vR y], aq_h m s F c)) rfl rfl ?_
        refine aq_gf (v := vR (y + 15)) rfl (by omega) hFo (by decide) rfl ?_
        show am_E _ (56, [vR y, vI b, vI p, vL f, vU, vI k, v6], [vR (y + 15)], aq_h m s F c) _
        refine am_E.go (t2 := (58, [vR y, vI b, vI p, vL f, vU, vI k, v6], [vI k, vR (y + 15)], aq_h m s F c)) rfl rfl ?_
        refine aq_al (ok := fun k => k == 0) (v := vI (c (y + 15) k)) rfl rfl (by omega) hG15 rfl (by omega) (by omega) rfl ?_
        show am_E _ (59, [vR y, vI b, vI p, vL f, vU, vI k, v6], [vI (c (y + 15) k)], aq_h m s F c) _
        refine am_E.go (t2 := (60, [vR y, vI b, vI p, vL f, vU, vI k, v6], [vI b, vI (c (y + 15) k)], aq_h m s F c)) rfl rfl ?_
        refine ae_icmp rfl (fun (q_4 : (c (y + 15) k) ≠ b) => ?_) (fun (q_4 : (c (y + 15) k) = b) => ?_)
        · exact K0 k (by omega) (by omega)
        · refine am_E.go (t2 := (64, [vR y, vI b, vI p, vL f, vU, vI k, v6], [vR y], aq_h m s F c)) rfl rfl ?_
          refine aq_gf (v := vR (y + 16)) rfl (by omega) hFo (by decide) rfl ?_
          show am_E _ (67, [vR y, vI b, vI p, vL f, vU, vI k, v6], [vR (y + 16)], aq_h m s F c) _
          refine am_E.go (t2 := (69, [vR y, vI b, vI p, vL f, vU, vI k, v6], [vI k, vR (y + 16)], aq_h m s F c)) rfl rfl ?_
          refine aq_al (ok := fun k => k == 0) (v := vI (c (y + 16) k)) rfl rfl (by omega) hG16 rfl (by omega) (by omega) rfl ?_
          show am_E _ (70, [vR y, vI b, vI p, vL f, vU, vI k, v6], [vI (c (y + 16) k)], aq_h m s F c) _
          refine am_E.go (t2 := (71, [vR y, vI b, vI p, vL f, vU, vI k, v6], [vI p, vI (c (y + 16) k)], aq_h m s F c)) rfl rfl ?_
          refine ae_icmp rfl (fun (q_5 : p ≤ (c (y + 16) k)) => ?_) (fun (q_5 : (c (y + 16) k) < p) => ?_)
          · exact K0 k (by omega) (by omega)
          · refine ae_iinc rfl rfl (am_ri (by omega) (by omega)) ?_
            show am_E _ (77, [vR y, vI b, vI p, vL f, vU, vI (k + 1), v6], [], aq_h m s F c) _
            refine am_E.go (t2 := (32, [vR y, vI b, vI p, vL f, vU, vI (k + 1), v6], [], aq_h m s F c)) rfl rfl ?_
            exact qm_comes_1 ⟨hm, hFo, hG5, hG6, hG7, hG8, hG9, hG10, hG11, hG12, hG13, hG14, hG15, hG16, hG17, hG18, hG19, hG20, hG21, hG22, hG23⟩ hb0 hb1 hR d (k + 1) (v6) (by omega) (by omega) (by omega) K0

theorem qm_comes {m s : Nat} {F : aq_F} {c : aq_C} {y : Nat} (hO : mo_0 m F y) {K b p f : Int} (hb0 : 0 ≤ b) (hb1 : b < K) (hR : mo_R y K c) : am_E ac_X5_comes (0, [vR y, vI b, vI p, vL f, vU, vU, vU], [], aq_h m s F c) (aq_Z m s F (fun a => a = y ∨ a = y + 15 ∨ a = y + 16 ∨ a = y + 17) c (fun r d => ∃ v, r = some (vI v) ∧ (v = 0 ∨ v = 1) ∧ mo_q y c d ∧ (v = 1 → mo_R y K d))) := by
  obtain ⟨hm, hFo, hG5, hG6, hG7, hG8, hG9, hG10, hG11, hG12, hG13, hG14, hG15, hG16, hG17, hG18, hG19, hG20, hG21, hG22, hG23⟩ := hO
  have hR1 := hR.1
  have hR2 := hR.2.1
  refine am_E.go (t2 := (1, [vR y, vI b, vI p, vL f, vU, vU, vU], [vL f], aq_h m s F c)) rfl rfl ?_
  refine am_E.go (t2 := (2, [vR y, vI b, vI p, vL f, vU, vU, vU], [vL 0, vL f], aq_h m s F c)) rfl rfl ?_
  have ez_1 := am_lcf f 0
  refine am_E.go (t2 := (3, [vR y, vI b, vI p, vL f, vU, vU, vU], [vI (if f < 0 then -1 else if f = 0 then 0 else 1)], aq_h m s F c)) rfl rfl ?_
  generalize (if f < 0 then -1 else if f = 0 then 0 else 1) = z_1 at ez_1 ⊢
  refine ae_if0 rfl (fun (q_2 : z_1 ≠ 0) => ?_) (fun (q_2 : z_1 = 0) => ?_)
  · refine am_E.go (t2 := (9, [vR y, vI b, vI p, vL f, vU, vU, vU], [vI p], aq_h m s F c)) rfl rfl ?_
    refine am_E.go (t2 := (11, [vR y, vI b, vI p, vL f, vU, vU, vU], [vI 20, vI p], aq_h m s F c)) rfl rfl ?_
    refine ae_icmp rfl (fun (q_3 : 20 < p) => ?_) (fun (q_3 : p ≤ 20) => ?_)
    · refine am_E.go (t2 := (28, [vR y, vI b, vI p, vL f, vU, vU, vU], [vI 0], aq_h m s F c)) rfl rfl ?_
      refine am_E.ret rfl rfl ?_
      exact ⟨_, rfl, (aq_sm0 (c := c) (S := (fun a => a = y ∨ a = y + 15 ∨ a = y + 16 ∨ a = y + 17))), 0, rfl, Or.inl rfl, mo_q0, fun h => absurd h (by decide)⟩
    · refine am_E.go (t2 := (15, [vR y, vI b, vI p, vL f, vU, vU, vU], [vL f], aq_h m s F c)) rfl rfl ?_
      refine am_E.go (t2 := (18, [vR y, vI b, vI p, vL f, vU, vU, vU], [vL (-1000000000000), vL f], aq_h m s F c)) rfl rfl ?_
      refine am_E.go (t2 := (21, [vR y, vI b, vI p, vL f, vU, vU, vU], [vL 1000000000000, vL (-1000000000000), vL f], aq_h m s F c)) rfl rfl ?_
      refine am_E.call rfl rfl rfl (Nat.le_of_ble_eq_true rfl) (qm_in) ?_
      rintro r5 h5 ⟨rfl, v_4, rfl, hv_4⟩
      show am_E _ (24, [vR y, vI b, vI p, vL f, vU, vU, vU], [vI v_4], aq_h m s F c) _
      refine ae_if0 rfl (fun (q_5 : v_4 ≠ 0) => ?_) (fun (q_5 : v_4 = 0) => ?_)
      · refine am_E.go (t2 := (30, [vR y, vI b, vI p, vL f, vU, vU, vU], [vI 0], aq_h m s F c)) rfl rfl ?_
        refine am_E.go (t2 := (32, [vR y, vI b, vI p, vL f, vU, vI 0, vU], [], aq_h m s F c)) rfl rfl ?_
        refine qm_comes_1 ⟨hm, hFo, hG5, hG6, hG7, hG8, hG9, hG10, hG11, hG12, hG13, hG14, hG15, hG16, hG17, hG18, hG19, hG20, hG21, hG22, hG23⟩ hb0 hb1 hR 41 0 (vU) (by omega) (by omega) (by omega) ?_
        · intro k2_32 f0_32 f1_32
          refine am_E.go (t2 := (82, [vR y, vI b, vI p, vL f, vU, vI k2_32, vU], [vI k2_32], aq_h m s F c)) rfl rfl ?_
          refine am_E.go (t2 := (83, [vR y, vI b, vI p, vL f, vU, vI k2_32, vU], [vR y, vI k2_32], aq_h m s F c)) rfl rfl ?_
          refine aq_gf (v := vI (c y 17)) rfl (by omega) hFo (by decide) rfl ?_
          show am_E _ (86, [vR y, vI b, vI p, vL f, vU, vI k2_32, vU], [vI (c y 17), vI k2_32], aq_h m s F c) _
          skip
          refine ae_icmp rfl (fun (q_8 : (c y 17) ≤ k2_32) => ?_) (fun (q_8 : k2_32 < (c y 17)) => ?_)
          · refine am_E.go (t2 := (193, [vR y, vI b, vI p, vL f, vU, vI k2_32, vU], [vR y], aq_h m s F c)) rfl rfl ?_
            refine aq_gf (v := vI (c y 17)) rfl (by omega) hFo (by decide) rfl ?_
            show am_E _ (196, [vR y, vI b, vI p, vL f, vU, vI k2_32, vU], [vI (c y 17)], aq_h m s F c) _
            skip
            refine am_E.go (t2 := (198, [vR y, vI b, vI p, vL f, vU, vI k2_32, vU], [vI 40, vI (c y 17)], aq_h m s F c)) rfl rfl ?_
            refine ae_icmp rfl (fun (q_10 : (c y 17) ≠ 40) => ?_) (fun (q_10 : (c y 17) = 40) => ?_)
            · refine am_E.go (t2 := (204, [vR y, vI b, vI p, vL f, vU, vI k2_32, vU], [vR y], aq_h m s F c)) rfl rfl ?_
              refine aq_gf (v := vI (c y 17)) rfl (by omega) hFo (by decide) rfl ?_
              show am_E _ (207, [vR y, vI b, vI p, vL f, vU, vI k2_32, vU], [vI (c y 17)], aq_h m s F c) _
              skip
              refine am_E.go (t2 := (209, [vR y, vI b, vI p, vL f, vU, vI k2_32, vI (c y 17)], [], aq_h m s F c)) rfl rfl ?_
              have hz_e : c y 17 = c y 17 := rfl
              have hq_e : mo_q y c c := mo_q0
              have hv_e : ∀ j, 0 ≤ j → j ≤ c y 17 → j ≠ c y 17 → mo_v y K c j := fun j h5 h6 h7 => hR.2.2 j h5 (by omega)
              exact qm_comes_3 ⟨hm, hFo, hG5, hG6, hG7, hG8, hG9, hG10, hG11, hG12, hG13, hG14, hG15, hG16, hG17, hG18, hG19, hG20, hG21, hG22, hG23⟩ (by omega) (by omega) hb0 hb1 (by omega) (by omega) (by omega) 42 (c y 17) c (aq_sm0 (c := c) (S := (fun a => a = y ∨ a = y + 15 ∨ a = y + 16 ∨ a = y + 17))) hz_e hq_e (by omega) (by omega) hv_e (by omega)
            · refine am_E.go (t2 := (202, [vR y, vI b, vI p, vL f, vU, vI k2_32, vU], [vI 0], aq_h m s F c)) rfl rfl ?_
              refine am_E.ret rfl rfl ?_
              exact ⟨_, rfl, (aq_sm0 (c := c) (S := (fun a => a = y ∨ a = y + 15 ∨ a = y + 16 ∨ a = y + 17))), 0, rfl, Or.inl rfl, mo_q0, fun h => absurd h (by decide)⟩
          · refine am_E.go (t2 := (90, [vR y, vI b, vI p, vL f, vU, vI k2_32, vU], [vR y], aq_h m s F c)) rfl rfl ?_
            refine aq_gf (v := vR (y + 15)) rfl (by omega) hFo (by decide) rfl ?_
            show am_E _ (93, [vR y, vI b, vI p, vL f, vU, vI k2_32, vU], [vR (y + 15)], aq_h m s F c) _
            refine am_E.go (t2 := (95, [vR y, vI b, vI p, vL f, vU, vI k2_32, vU], [vI k2_32, vR (y + 15)], aq_h m s F c)) rfl rfl ?_
            refine aq_al (ok := fun k => k == 0) (v := vI (c (y + 15) k2_32)) rfl rfl (by omega) hG15 rfl (by omega) (by omega) rfl ?_
            show am_E _ (96, [vR y, vI b, vI p, vL f, vU, vI k2_32, vU], [vI (c (y + 15) k2_32)], aq_h m s F c) _
            refine am_E.go (t2 := (97, [vR y, vI b, vI p, vL f, vU, vI k2_32, vU], [vI b, vI (c (y + 15) k2_32)], aq_h m s F c)) rfl rfl ?_
            refine ae_icmp rfl (fun (q_12 : (c (y + 15) k2_32) ≠ b) => ?_) (fun (q_12 : (c (y + 15) k2_32) = b) => ?_)
            · refine am_E.go (t2 := (193, [vR y, vI b, vI p, vL f, vU, vI k2_32, vU], [vR y], aq_h m s F c)) rfl rfl ?_
              refine aq_gf (v := vI (c y 17)) rfl (by omega) hFo (by decide) rfl ?_
              show am_E _ (196, [vR y, vI b, vI p, vL f, vU, vI k2_32, vU], [vI (c y 17)], aq_h m s F c) _
              skip
              refine am_E.go (t2 := (198, [vR y, vI b, vI p, vL f, vU, vI k2_32, vU], [vI 40, vI (c y 17)], aq_h m s F c)) rfl rfl ?_
              refine ae_icmp rfl (fun (q_14 : (c y 17) ≠ 40) => ?_) (fun (q_14 : (c y 17) = 40) => ?_)
              · refine am_E.go (t2 := (204, [vR y, vI b, vI p, vL f, vU, vI k2_32, vU], [vR y], aq_h m s F c)) rfl rfl ?_
                refine aq_gf (v := vI (c y 17)) rfl (by omega) hFo (by decide) rfl ?_
                show am_E _ (207, [vR y, vI b, vI p, vL f, vU, vI k2_32, vU], [vI (c y 17)], aq_h m s F c) _
                skip
                refine am_E.go (t2 := (209, [vR y, vI b, vI p, vL f, vU, vI k2_32, vI (c y 17)], [], aq_h m s F c)) rfl rfl ?_
                have hz_e : c y 17 = c y 17 := rfl
                have hq_e : mo_q y c c := mo_q0
                have hv_e : ∀ j, 0 ≤ j → j ≤ c y 17 → j ≠ c y 17 → mo_v y K c j := fun j h5 h6 h7 => hR.2.2 j h5 (by omega)
                exact qm_comes_3 ⟨hm, hFo, hG5, hG6, hG7, hG8, hG9, hG10, hG11, hG12, hG13, hG14, hG15, hG16, hG17, hG18, hG19, hG20, hG21, hG22, hG23⟩ (by omega) (by omega) hb0 hb1 (by omega) (by omega) (by omega) 42 (c y 17) c (aq_sm0 (c := c) (S := (fun a => a = y ∨ a = y + 15 ∨ a = y + 16 ∨ a = y + 17))) hz_e hq_e (by omega) (by omega) hv_e (by omega)
              · refine am_E.go (t2 := (202, [vR y, vI b, vI p, vL f, vU, vI k2_32, vU], [vI 0], aq_h m s F c)) rfl rfl ?_
                refine am_E.ret rfl rfl ?_
                exact ⟨_, rfl, (aq_sm0 (c := c) (S := (fun a => a = y ∨ a = y + 15 ∨ a = y + 16 ∨ a = y + 17))), 0, rfl, Or.inl rfl, mo_q0, fun h => absurd h (by decide)⟩
            · refine am_E.go (t2 := (101, [vR y, vI b, vI p, vL f, vU, vI k2_32, vU], [vR y], aq_h m s F c)) rfl rfl ?_
              refine aq_gf (v := vR (y + 16)) rfl (by omega) hFo (by decide) rfl ?_
              show am_E _ (104, [vR y, vI b, vI p, vL f, vU, vI k2_32, vU], [vR (y + 16)], aq_h m s F c) _
              refine am_E.go (t2 := (106, [vR y, vI b, vI p, vL f, vU, vI k2_32, vU], [vI k2_32, vR (y + 16)], aq_h m s F c)) rfl rfl ?_
              refine aq_al (ok := fun k => k == 0) (v := vI (c (y + 16) k2_32)) rfl rfl (by omega) hG16 rfl (by omega) (by omega) rfl ?_
              show am_E _ (107, [vR y, vI b, vI p, vL f, vU, vI k2_32, vU], [vI (c (y + 16) k2_32)], aq_h m s F c) _
              refine am_E.go (t2 := (108, [vR y, vI b, vI p, vL f, vU, vI k2_32, vU], [vI p, vI (c (y + 16) k2_32)], aq_h m s F c)) rfl rfl ?_
              refine ae_icmp rfl (fun (q_16 : (c (y + 16) k2_32) ≠ p) => ?_) (fun (q_16 : (c (y + 16) k2_32) = p) => ?_)
              · refine am_E.go (t2 := (193, [vR y, vI b, vI p, vL f, vU, vI k2_32, vU], [vR y], aq_h m s F c)) rfl rfl ?_
                refine aq_gf (v := vI (c y 17)) rfl (by omega) hFo (by decide) rfl ?_
                show am_E _ (196, [vR y, vI b, vI p, vL f, vU, vI k2_32, vU], [vI (c y 17)], aq_h m s F c) _
                skip
                refine am_E.go (t2 := (198, [vR y, vI b, vI p, vL f, vU, vI k2_32, vU], [vI 40, vI (c y 17)], aq_h m s F c)) rfl rfl ?_
                refine ae_icmp rfl (fun (q_18 : (c y 17) ≠ 40) => ?_) (fun (q_18 : (c y 17) = 40) => ?_)
                · refine am_E.go (t2 := (204, [vR y, vI b, vI p, vL f, vU, vI k2_32, vU], [vR y], aq_h m s F c)) rfl rfl ?_
                  refine aq_gf (v := vI (c y 17)) rfl (by omega) hFo (by decide) rfl ?_
                  show am_E _ (207, [vR y, vI b, vI p, vL f, vU, vI k2_32, vU], [vI (c y 17)], aq_h m s F c) _
                  skip
                  refine am_E.go (t2 := (209, [vR y, vI b, vI p, vL f, vU, vI k2_32, vI (c y 17)], [], aq_h m s F c)) rfl rfl ?_
                  have hz_e : c y 17 = c y 17 := rfl
                  have hq_e : mo_q y c c := mo_q0
                  have hv_e : ∀ j, 0 ≤ j → j ≤ c y 17 → j ≠ c y 17 → mo_v y K c j := fun j h5 h6 h7 => hR.2.2 j h5 (by omega)
                  exact qm_comes_3 ⟨hm, hFo, hG5, hG6, hG7, hG8, hG9, hG10, hG11, hG12, hG13, hG14, hG15, hG16, hG17, hG18, hG19, hG20, hG21, hG22, hG23⟩ (by omega) (by omega) hb0 hb1 (by omega) (by omega) (by omega) 42 (c y 17) c (aq_sm0 (c := c) (S := (fun a => a = y ∨ a = y + 15 ∨ a = y + 16 ∨ a = y + 17))) hz_e hq_e (by omega) (by omega) hv_e (by omega)
                · refine am_E.go (t2 := (202, [vR y, vI b, vI p, vL f, vU, vI k2_32, vU], [vI 0], aq_h m s F c)) rfl rfl ?_
                  refine am_E.ret rfl rfl ?_
                  exact ⟨_, rfl, (aq_sm0 (c := c) (S := (fun a => a = y ∨ a = y + 15 ∨ a = y + 16 ∨ a = y + 17))), 0, rfl, Or.inl rfl, mo_q0, fun h => absurd h (by decide)⟩
              · refine am_E.go (t2 := (112, [vR y, vI b, vI p, vL f, vU, vI k2_32, vU], [vR y], aq_h m s F c)) rfl rfl ?_
                refine aq_gf (v := vR (y + 17)) rfl (by omega) hFo (by decide) rfl ?_
                show am_E _ (115, [vR y, vI b, vI p, vL f, vU, vI k2_32, vU], [vR (y + 17)], aq_h m s F c) _
                refine am_E.go (t2 := (117, [vR y, vI b, vI p, vL f, vU, vI k2_32, vU], [vI k2_32, vR (y + 17)], aq_h m s F c)) rfl rfl ?_
                refine am_E.go (t2 := (118, [vR y, vI b, vI p, vL f, vU, vI k2_32, vU], [vI k2_32, vR (y + 17), vI k2_32, vR (y + 17)], aq_h m s F c)) rfl rfl ?_
                refine aq_al (ok := fun k => k == 2) (v := vL (c (y + 17) k2_32)) rfl rfl (by omega) hG17 rfl (by omega) (by omega) rfl ?_
                show am_E _ (119, [vR y, vI b, vI p, vL f, vU, vI k2_32, vU], [vL (c (y + 17) k2_32), vI k2_32, vR (y + 17)], aq_h m s F c) _
                have f_20 := hR.2.2 k2_32 (by omega) (by omega)
                unfold mo_v at f_20
                refine am_E.go (t2 := (120, [vR y, vI b, vI p, vL f, vU, vI k2_32, vU], [vL f, vL (c (y + 17) k2_32), vI k2_32, vR (y + 17)], aq_h m s F c)) rfl rfl ?_
                refine ae_binl (z := (c (y + 17) k2_32) + f) rfl rfl (by rw [am_wl_id (am_rl (by omega) (by omega))]) ?_
                show am_E _ (121, [vR y, vI b, vI p, vL f, vU, vI k2_32, vU], [vL ((c (y + 17) k2_32) + f), vI k2_32, vR (y + 17)], aq_h m s F c) _
                refine aq_asl rfl rfl (by omega) hG17 (by omega) (by omega) rfl ?_
                show am_E _ (122, [vR y, vI b, vI p, vL f, vU, vI k2_32, vU], [], aq_h m s F (aq_u c (y + 17) k2_32 ((c (y + 17) k2_32) + f))) _
                generalize hdc_21 : aq_u c (y + 17) k2_32 ((c (y + 17) k2_32) + f) = c_21
                have sc_21 := aq_smu (aq_sm0 (c := c) (S := (fun a => a = y ∨ a = y + 15 ∨ a = y + 16 ∨ a = y + 17))) hdc_21 (Or.inr (Or.inr (Or.inr rfl)))
                refine am_E.go (t2 := (123, [vR y, vI b, vI p, vL f, vU, vI k2_32, vU], [vR y], aq_h m s F c_21)) rfl rfl ?_
                refine aq_gf (v := vR (y + 17)) rfl (by omega) hFo (by decide) rfl ?_
                show am_E _ (126, [vR y, vI b, vI p, vL f, vU, vI k2_32, vU], [vR (y + 17)], aq_h m s F c_21) _
                refine am_E.go (t2 := (128, [vR y, vI b, vI p, vL f, vU, vI k2_32, vU], [vI k2_32, vR (y + 17)], aq_h m s F c_21)) rfl rfl ?_
                refine aq_al (ok := fun k => k == 2) (v := vL (c_21 (y + 17) k2_32)) rfl rfl (by omega) hG17 rfl (by omega) (by omega) rfl ?_
                show am_E _ (129, [vR y, vI b, vI p, vL f, vU, vI k2_32, vU], [vL (c_21 (y + 17) k2_32)], aq_h m s F c_21) _
                have f_22 : c_21 (y + 17) k2_32 = c (y + 17) k2_32 + f := by rw [← hdc_21, aq_us]
                refine am_E.go (t2 := (130, [vR y, vI b, vI p, vL f, vU, vI k2_32, vU], [vL 0, vL (c_21 (y + 17) k2_32)], aq_h m s F c_21)) rfl rfl ?_
                have ez_23 := am_lcf (c_21 (y + 17) k2_32) 0
                refine am_E.go (t2 := (131, [vR y, vI b, vI p, vL f, vU, vI k2_32, vU], [vI (if (c_21 (y + 17) k2_32) < 0 then -1 else if (c_21 (y + 17) k2_32) = 0 then 0 else 1)], aq_h m s F c_21)) rfl rfl ?_
                generalize (if (c_21 (y + 17) k2_32) < 0 then -1 else if (c_21 (y + 17) k2_32) = 0 then 0 else 1) = z_23 at ez_23 ⊢
                refine ae_if0 rfl (fun (q_24 : z_23 ≠ 0) => ?_) (fun (q_24 : z_23 = 0) => ?_)
                · refine am_E.go (t2 := (176, [vR y, vI b, vI p, vL f, vU, vI k2_32, vU], [vR y], aq_h m s F c_21)) rfl rfl ?_
                  refine aq_gf (v := vR (y + 17)) rfl (by omega) hFo (by decide) rfl ?_
                  show am_E _ (179, [vR y, vI b, vI p, vL f, vU, vI k2_32, vU], [vR (y + 17)], aq_h m s F c_21) _
                  refine am_E.go (t2 := (181, [vR y, vI b, vI p, vL f, vU, vI k2_32, vU], [vI k2_32, vR (y + 17)], aq_h m s F c_21)) rfl rfl ?_
                  refine aq_al (ok := fun k => k == 2) (v := vL (c_21 (y + 17) k2_32)) rfl rfl (by omega) hG17 rfl (by omega) (by omega) rfl ?_
                  show am_E _ (182, [vR y, vI b, vI p, vL f, vU, vI k2_32, vU], [vL (c_21 (y + 17) k2_32)], aq_h m s F c_21) _
                  have f_25 : c_21 (y + 17) k2_32 = c (y + 17) k2_32 + f := by rw [← hdc_21, aq_us]
                  refine am_E.go (t2 := (185, [vR y, vI b, vI p, vL f, vU, vI k2_32, vU], [vL (-1000000000000), vL (c_21 (y + 17) k2_32)], aq_h m s F c_21)) rfl rfl ?_
                  refine am_E.go (t2 := (188, [vR y, vI b, vI p, vL f, vU, vI k2_32, vU], [vL 1000000000000, vL (-1000000000000), vL (c_21 (y + 17) k2_32)], aq_h m s F c_21)) rfl rfl ?_
                  refine am_E.call rfl rfl rfl (Nat.le_of_ble_eq_true rfl) (qm_in) ?_
                  rintro r5 h5 ⟨rfl, v_26, rfl, hv_26⟩
                  show am_E _ (191, [vR y, vI b, vI p, vL f, vU, vI k2_32, vU], [vI v_26], aq_h m s F c_21) _
                  refine ae_retb rfl (by omega) ?_
                  refine ⟨_, rfl, sc_21, _, rfl, by omega, mo_qu mo_q0 hdc_21 (Or.inl (by omega)), fun h9 => ?_⟩
                  have g17 : c_21 y 17 = c y 17 := by rw [← hdc_21, aq_un (Or.inl (by omega))]
                  refine ⟨by omega, by omega, fun j h5 h6 => ?_⟩
                  have n15 : c_21 (y + 15) j = c (y + 15) j := by rw [← hdc_21, aq_un (Or.inl (by omega))]
                  have kj := hR.2.2 j h5 (by omega)
                  unfold mo_v at kj
                  by_cases e : j = k2_32
                  · subst e
                    have n17 : c_21 (y + 17) j = c (y + 17) j + f := by rw [← hdc_21, aq_us]
                    exact ⟨by omega, by omega, by omega, by omega, by omega⟩
                  · exact mo_vc n15 (by rw [← hdc_21, aq_un (Or.inr e)]) (hR.2.2 j h5 (by omega))
                · refine am_E.go (t2 := (135, [vR y, vI b, vI p, vL f, vU, vI k2_32, vU], [vR y], aq_h m s F c_21)) rfl rfl ?_
                  refine am_E.go (t2 := (136, [vR y, vI b, vI p, vL f, vU, vI k2_32, vU], [vR y, vR y], aq_h m s F c_21)) rfl rfl ?_
                  refine aq_gf (v := vI (c_21 y 17)) rfl (by omega) hFo (by decide) rfl ?_
                  show am_E _ (139, [vR y, vI b, vI p, vL f, vU, vI k2_32, vU], [vI (c_21 y 17), vR y], aq_h m s F c_21) _
                  have f_27 : c_21 y 17 = c y 17 := by rw [← hdc_21, aq_un (Or.inl (by omega))]
                  refine am_E.go (t2 := (140, [vR y, vI b, vI p, vL f, vU, vI k2_32, vU], [vI 1, vI (c_21 y 17), vR y], aq_h m s F c_21)) rfl rfl ?_
                  refine ae_sub rfl (am_ri (by omega) (by omega)) ?_
                  show am_E _ (141, [vR y, vI b, vI p, vL f, vU, vI k2_32, vU], [vI ((c_21 y 17) - 1), vR y], aq_h m s F c_21) _
                  refine aq_pf rfl (by omega) hFo (by decide) rfl rfl ?_
                  show am_E _ (144, [vR y, vI b, vI p, vL f, vU, vI k2_32, vU], [], aq_h m s F (aq_u c_21 y 17 ((c_21 y 17) - 1))) _
                  generalize hdc_28 : aq_u c_21 y 17 ((c_21 y 17) - 1) = c_28
                  have sc_28 := aq_smu sc_21 hdc_28 (Or.inl rfl)
                  refine am_E.go (t2 := (146, [vR y, vI b, vI p, vL f, vU, vI k2_32, vU], [vI k2_32], aq_h m s F c_28)) rfl rfl ?_
                  refine am_E.go (t2 := (148, [vR y, vI b, vI p, vL f, vU, vI k2_32, vI k2_32], [], aq_h m s F c_28)) rfl rfl ?_
                  have g1 : c_21 y 17 = c y 17 := by rw [← hdc_21, aq_un (Or.inl (by omega))]
                  have hz_e : c_28 y 17 = c y 17 - 1 := by rw [← hdc_28, aq_us, g1]
                  have hq_e : mo_q y c c_28 := mo_qu (mo_qu mo_q0 hdc_21 (Or.inl (by omega))) hdc_28 (Or.inr (by decide))
                  have hv_e : ∀ j, 0 ≤ j → j ≤ c y 17 - 1 → j ≠ k2_32 → mo_v y K c_28 j := fun j h5 h6 h7 => mo_vc (by rw [← hdc_28, aq_un (Or.inl (by omega)), ← hdc_21, aq_un (Or.inl (by omega))]) (by rw [← hdc_28, aq_un (Or.inl (by omega)), ← hdc_21, aq_un (Or.inr h7)]) (hR.2.2 j h5 (by omega))
                  exact qm_comes_2 ⟨hm, hFo, hG5, hG6, hG7, hG8, hG9, hG10, hG11, hG12, hG13, hG14, hG15, hG16, hG17, hG18, hG19, hG20, hG21, hG22, hG23⟩ (sz := c y 17 - 1) (by omega) 41 k2_32 c_28 sc_28 hz_e hq_e (by omega) (by omega) hv_e (by omega)
      · refine am_E.go (t2 := (28, [vR y, vI b, vI p, vL f, vU, vU, vU], [vI 0], aq_h m s F c)) rfl rfl ?_
        refine am_E.ret rfl rfl ?_
        exact ⟨_, rfl, (aq_sm0 (c := c) (S := (fun a => a = y ∨ a = y + 15 ∨ a = y + 16 ∨ a = y + 17))), 0, rfl, Or.inl rfl, mo_q0, fun h => absurd h (by decide)⟩
  · refine am_E.go (t2 := (7, [vR y, vI b, vI p, vL f, vU, vU, vU], [vI 1], aq_h m s F c)) rfl rfl ?_
    refine am_E.ret rfl rfl ?_
    exact ⟨_, rfl, (aq_sm0 (c := c) (S := (fun a => a = y ∨ a = y + 15 ∨ a = y + 16 ∨ a = y + 17))), 1, rfl, Or.inr rfl, mo_q0, fun _ => hR⟩
theorem mo_Iq {S : Nat → Prop} {y : Nat} {c d : aq_C} (hI : mo_I y c) (hs : aq_sm S c d) (hk : mo_q y c d) (h5 : ¬ S (y + 5)) (h6 : ¬ S (y + 6)) (h7 : ¬ S (y + 7)) (h9 : ¬ S (y + 9)) (h10 : ¬ S (y + 10)) : mo_I y d :=
  ⟨mo_rc hk.1 hk.2 (hs _ h10) hI.1, fun s s0 s1 => mo_uc (hs _ h5 s) (hs _ h6 s) (fun k _ _ => hs _ h7 _) (fun k _ _ => hs _ h9 _) (hI.2 s s0 s1)⟩
theorem mo_Iw {y : Nat} {c d : aq_C} (hI : mo_I y c) (hs : aq_sm (mo_S y) c d) (hk : mo_q y c d) : mo_I y d := by
  refine mo_Iq hI hs hk ?_ ?_ ?_ ?_ ?_ <;> (unfold mo_S; omega)
theorem mo_S3 {y a : Nat} (h : a = y ∨ a = y + 15 ∨ a = y + 16 ∨ a = y + 17) : mo_S y a := by
  unfold mo_S
  omega
/-- what store leaves -/
theorem mo_Ist {y : Nat} {s n : Int} {c d : aq_C} (hI : mo_I y c) (hR : mo_R y (bx_K n) c) (hn1 : 1 ≤ n) (hn4 : n ≤ 4) (hs : aq_sm (fun a => y + 5 ≤ a ∧ a ≤ y + 9) c d) (h5 : ∀ i, d (y + 5) i = if i = s then n else c (y + 5) i) (h6 : ∀ i, d (y + 6) i = if i = s then c y 17 else c (y + 6) i) (h7 : ∀ i, (∀ j, 0 ≤ j → j < 40 → i ≠ 40 * s + j) → d (y + 7) i = c (y + 7) i) (h9 : ∀ i, (∀ j, 0 ≤ j → j < 40 → i ≠ 40 * s + j) → d (y + 9) i = c (y + 9) i) (h7k : ∀ j, 0 ≤ j → j < c y 17 → d (y + 7) (40 * s + j) = c (y + 15) j) (h9k : ∀ j, 0 ≤ j → j < c y 17 → d (y + 9) (40 * s + j) = c (y + 17) j) : mo_I y d := by
  have hr1 := hR.1
  have hr2 := hR.2.1
  refine ⟨mo_rc (hs _ (by omega) _) (hs _ (by omega) _) (fun i => hs _ (by omega) i) hI.1, fun t t0 t1 => ?_⟩
  by_cases e : t = s
  · subst e
    have e5 := h5 t
    have e6 := h6 t
    rw [if_pos rfl] at e5 e6
    refine ⟨by omega, by omega, by omega, by omega, fun k k0 k1 => ?_⟩
    rw [h7k k k0 (by omega), h9k k k0 (by omega), e5]
    exact hR.2.2 k k0 (by omega)
  · refine mo_uc (by rw [h5, if_neg e]) (by rw [h6, if_neg e]) (fun k k0 k1 => h7 _ (fun j j0 j1 => by omega)) (fun k k0 k1 => h9 _ (fun j j0 j1 => by omega)) (hI.2 t t0 t1)
