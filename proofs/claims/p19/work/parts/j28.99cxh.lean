
def ip_a (p : Int) : Int := if 2 ≤ p ∧ p ≤ 997 then ip_ p 32 2 else 0
theorem ip_a1 {p : Int} (h : ip_a p ≠ 0) : (2 ≤ p ∧ p ≤ 997) ∧ ip_ p 32 2 = 1 := by
  unfold ip_a at h
  by_cases e : 2 ≤ p ∧ p ≤ 997
  · rw [if_pos e] at h
    have := ip_b p 32 2
    exact ⟨e, by omega⟩
  · rw [if_neg e] at h
    exact absurd rfl h
theorem ip_a0 {p : Int} (h : ip_a p = 0) : ¬ ((2 ≤ p ∧ p ≤ 997) ∧ ip_ p 32 2 = 1) := fun q => by
  unfold ip_a at h
  rw [if_pos q.1, q.2] at h
  exact absurd h (by decide)

theorem qx_isPrime_l {m s : Nat} {F : aq_F} {c : aq_C} {p : Int} (hp0 : 2 ≤ p) (hp1 : p ≤ 997) {R : Int} : ∀ (d : Nat) (d5 : Int) (h0 : 2 ≤ d5) (h1 : d5 ≤ 32) (hT : ip_ p d d5 = R) (hd : 32 - d5 < (d : Int)), am_E ac_X4_isPrime (16, [vI p, vI d5], [], aq_h m s F c) (aq_P m s F c (fun r => r = some (vI R)))
  | 0, d5, h0, h1, hT, hd => by exfalso; omega
  | d + 1, d5, h0, h1, hT, hd => by
    have e1 : d5 = 32 → d5 * d5 = 1024 := by intro h; rw [h]; rfl
    have e2 := am_sq h0 h1
    refine am_E.go (t2 := (17, [vI p, vI d5], [vI d5], aq_h m s F c)) rfl rfl ?_
    refine am_E.go (t2 := (18, [vI p, vI d5], [vI d5, vI d5], aq_h m s F c)) rfl rfl ?_
    refine ae_mul rfl (am_ri (by omega) (by omega)) ?_
    show am_E _ (19, [vI p, vI d5], [vI (d5 * d5)], aq_h m s F c) _
    refine am_E.go (t2 := (20, [vI p, vI d5], [vI p, vI (d5 * d5)], aq_h m s F c)) rfl rfl ?_
    refine ae_icmp rfl (fun (q_1 : p < (d5 * d5)) => ?_) (fun (q_1 : (d5 * d5) ≤ p) => ?_)
    · refine am_E.go (t2 := (38, [vI p, vI d5], [vI 1], aq_h m s F c)) rfl rfl ?_
      refine am_E.ret rfl rfl ?_
      refine ⟨rfl, ?_⟩
      rw [← hT, ip_, if_neg (show ¬ d5 * d5 ≤ p by omega)]
    · refine am_E.go (t2 := (24, [vI p, vI d5], [vI p], aq_h m s F c)) rfl rfl ?_
      refine am_E.go (t2 := (25, [vI p, vI d5], [vI d5, vI p], aq_h m s F c)) rfl rfl ?_
      refine ae_bin (z := p % d5) rfl rfl (am_rem_e (by omega) (by omega)) ?_
      show am_E _ (26, [vI p, vI d5], [vI (p % d5)], aq_h m s F c) _
      refine ae_if0 rfl (fun (q_2 : (p % d5) ≠ 0) => ?_) (fun (q_2 : (p % d5) = 0) => ?_)
      · refine ae_iinc rfl rfl (am_ri (by omega) (by omega)) ?_
        show am_E _ (34, [vI p, vI (d5 + 1)], [], aq_h m s F c) _
        refine am_E.go (t2 := (16, [vI p, vI (d5 + 1)], [], aq_h m s F c)) rfl rfl ?_
        exact qx_isPrime_l hp0 hp1 d (d5 + 1) (by omega) (by omega) (by rw [← hT, ip_, if_pos (show d5 * d5 ≤ p by omega), if_neg (show ¬ p % d5 = 0 by omega)]) (by omega)
      · refine am_E.go (t2 := (30, [vI p, vI d5], [vI 0], aq_h m s F c)) rfl rfl ?_
        refine am_E.ret rfl rfl ?_
        refine ⟨rfl, ?_⟩
        rw [← hT, ip_, if_pos (show d5 * d5 ≤ p by omega), if_pos (show p % d5 = 0 by omega)]

theorem qx_X4_isPrime {m s : Nat} {F : aq_F} {c : aq_C} {p : Int} : am_E ac_X4_isPrime (0, [vI p, vU], [], aq_h m s F c) (aq_P m s F c (fun r => r = some (vI (ip_a p)))) := by
  refine am_E.go (t2 := (1, [vI p, vU], [vI p], aq_h m s F c)) rfl rfl ?_
  refine am_E.go (t2 := (2, [vI p, vU], [vI 2, vI p], aq_h m s F c)) rfl rfl ?_
  refine ae_icmp rfl (fun (q_1 : p < 2) => ?_) (fun (q_1 : 2 ≤ p) => ?_)
  · refine am_E.go (t2 := (13, [vI p, vU], [vI 0], aq_h m s F c)) rfl rfl ?_
    refine am_E.ret rfl rfl ?_
    refine ⟨rfl, ?_⟩
    unfold ip_a
    rw [if_neg (by omega)]
  · refine am_E.go (t2 := (6, [vI p, vU], [vI p], aq_h m s F c)) rfl rfl ?_
    refine am_E.go (t2 := (9, [vI p, vU], [vI 997, vI p], aq_h m s F c)) rfl rfl ?_
    refine ae_icmp rfl (fun (q_2 : p ≤ 997) => ?_) (fun (q_2 : 997 < p) => ?_)
    · refine am_E.go (t2 := (15, [vI p, vU], [vI 2], aq_h m s F c)) rfl rfl ?_
      refine am_E.go (t2 := (16, [vI p, vI 2], [], aq_h m s F c)) rfl rfl ?_
      exact qx_isPrime_l (by omega) (by omega) 32 2 (by omega) (by omega) (by unfold ip_a; rw [if_pos (by omega)]) (by omega)
    · refine am_E.go (t2 := (13, [vI p, vU], [vI 0], aq_h m s F c)) rfl rfl ?_
      refine am_E.ret rfl rfl ?_
      refine ⟨rfl, ?_⟩
      unfold ip_a
      rw [if_neg (by omega)]

theorem qe_X4_free {m s : Nat} {F : aq_F} {c : aq_C} (hC : sb_C m F) (hI : cl_I c) {nn t v p : Int} : am_E ac_X4_free (0, [vR 0, vI nn, vI t, vI v, vI p], [], aq_h m s F c) (aq_Z m s F (fun a => a < 527) c (fun r d => r = some (vI (fe_a nn t v p)) ∧ cl_I d)) := by
  obtain ⟨hCm, hC0, hC1, hC2, hC3, ⟨hma4, hFa4, hFn4, hFp4, hFf4⟩, ⟨hmx, hFx, hFl, hFw⟩, hCs, hCb, hCh⟩ := id hC
  refine am_E.go (t2 := (1, [vR 0, vI nn, vI t, vI v, vI p], [vI nn], aq_h m s F c)) rfl rfl ?_
  refine am_E.go (t2 := (2, [vR 0, vI nn, vI t, vI v, vI p], [vI t, vI nn], aq_h m s F c)) rfl rfl ?_
  refine am_E.call rfl rfl rfl (Nat.le_of_ble_eq_true rfl) (qn_X4_isThrough) ?_
  rintro r5 h5 ⟨rfl, v_1, rfl, hv_1⟩
  show am_E _ (5, [vR 0, vI nn, vI t, vI v, vI p], [vI v_1], aq_h m s F c) _
  refine ae_if0 rfl (fun (q_2 : v_1 = 0) => ?_) (fun (q_2 : v_1 ≠ 0) => ?_)
  · refine am_E.go (t2 := (31, [vR 0, vI nn, vI t, vI v, vI p], [vI (-1)], aq_h m s F c)) rfl rfl ?_
    refine am_E.ret rfl rfl ?_
    refine ⟨_, rfl, (aq_sm0 (S := fun a => a < 527)), ?_, hI⟩
    unfold fe_a
    rw [if_neg (by omega)]
  · refine am_E.go (t2 := (9, [vR 0, vI nn, vI t, vI v, vI p], [vI v], aq_h m s F c)) rfl rfl ?_
    refine am_E.go (t2 := (12, [vR 0, vI nn, vI t, vI v, vI p], [vI (-1000), vI v], aq_h m s F c)) rfl rfl ?_
    refine ae_icmp rfl (fun (q_3 : v < (-1000)) => ?_) (fun (q_3 : (-1000) ≤ v) => ?_)
    · refine am_E.go (t2 := (31, [vR 0, vI nn, vI t, vI v, vI p], [vI (-1)], aq_h m s F c)) rfl rfl ?_
      refine am_E.ret rfl rfl ?_
      refine ⟨_, rfl, (aq_sm0 (S := fun a => a < 527)), ?_, hI⟩
      unfold fe_a
      rw [if_neg (by omega)]
    · refine am_E.go (t2 := (16, [vR 0, vI nn, vI t, vI v, vI p], [vI v], aq_h m s F c)) rfl rfl ?_
      refine am_E.go (t2 := (19, [vR 0, vI nn, vI t, vI v, vI p], [vI 1000, vI v], aq_h m s F c)) rfl rfl ?_
      refine ae_icmp rfl (fun (q_4 : 1000 < v) => ?_) (fun (q_4 : v ≤ 1000) => ?_)
      · refine am_E.go (t2 := (31, [vR 0, vI nn, vI t, vI v, vI p], [vI (-1)], aq_h m s F c)) rfl rfl ?_
        refine am_E.ret rfl rfl ?_
        refine ⟨_, rfl, (aq_sm0 (S := fun a => a < 527)), ?_, hI⟩
        unfold fe_a
        rw [if_neg (by omega)]
      · refine am_E.go (t2 := (24, [vR 0, vI nn, vI t, vI v, vI p], [vI p], aq_h m s F c)) rfl rfl ?_
        refine am_E.call rfl rfl rfl (Nat.le_of_ble_eq_true rfl) (qx_X4_isPrime) ?_
        rintro r5 h5 ⟨rfl, rfl⟩
        show am_E _ (27, [vR 0, vI nn, vI t, vI v, vI p], [vI (ip_a p)], aq_h m s F c) _
        have hib := ip_b p 32 2
        refine ae_if0 rfl (fun (q_5 : (ip_a p) ≠ 0) => ?_) (fun (q_5 : (ip_a p) = 0) => ?_)
        · refine am_E.go (t2 := (33, [vR 0, vI nn, vI t, vI v, vI p], [vR 0], aq_h m s F c)) rfl rfl ?_
          refine aq_gf (v := vR 2) rfl (by omega) hC0 (by decide) rfl ?_
          show am_E _ (36, [vR 0, vI nn, vI t, vI v, vI p], [vR 2], aq_h m s F c) _
          refine am_E.go (t2 := (37, [vR 0, vI nn, vI t, vI v, vI p], [vI nn, vR 2], aq_h m s F c)) rfl rfl ?_
          refine am_E.go (t2 := (38, [vR 0, vI nn, vI t, vI v, vI p], [vI 1, vI nn, vR 2], aq_h m s F c)) rfl rfl ?_
          refine ae_sub rfl (am_ri (by omega) (by omega)) ?_
          show am_E _ (39, [vR 0, vI nn, vI t, vI v, vI p], [vI (nn - 1), vR 2], aq_h m s F c) _
          obtain ⟨o, n, e_o, e_n, z, tl, th, ⟨hm, hn1, hn4, hz6, hFo, hFl, hFg, hFt, hFp, hFq, hFd, hFs, hht⟩, hve⟩ := sb_half hC (i := (nn - 1)) (by omega) (by omega)
          have hb := sb_hnd 0 (by omega) ((nn - 1)).toNat (by omega)
          rw [e_o] at hb
          refine aq_al (ok := fun k => decide (3 ≤ k) && decide (k < 7)) (v := vR o) rfl rfl (by omega) hC2 rfl (by omega) (by omega) (aq_gi2 (by omega) e_o) ?_
          show am_E _ (40, [vR 0, vI nn, vI t, vI v, vI p], [vR o], aq_h m s F c) _
          refine am_E.go (t2 := (41, [vR 0, vI nn, vI t, vI v, vI p], [vI t, vR o], aq_h m s F c)) rfl rfl ?_
          refine am_E.go (t2 := (42, [vR 0, vI nn, vI t, vI v, vI p], [vI v, vI t, vR o], aq_h m s F c)) rfl rfl ?_
          refine am_E.go (t2 := (44, [vR 0, vI nn, vI t, vI v, vI p], [vI p, vI v, vI t, vR o], aq_h m s F c)) rfl rfl ?_
          refine aq_callv (y := 4) (as2 := [vI t, vI v, vI p]) (rest := []) rfl rfl (by decide) (Nat.le_of_ble_eq_true rfl) rfl rfl (Nat.le_of_ble_eq_true rfl) (by omega) hFo rfl (Nat.le_of_ble_eq_true rfl) (qx_rank ⟨hm, hn1, hn4, hz6, hFo, hFl, hFg, hFt, hFp, hFq, hFd, hFs, hht⟩ hve (by omega) (by omega) (ip_a1 (by assumption)).1.1 (ip_a1 (by assumption)).1.2 (by omega) (by omega)) ?_
          rintro r5 h5 ⟨c_b, rfl, s_b, rfl⟩
          show am_E _ (47, [vR 0, vI nn, vI t, vI v, vI p], [vI (rk_c (hv_N (n : Int) t) p 8 0 0 (fun i j => en_ (v % p) p (fo_v (n : Int) t i j)))], aq_h m s F c_b) _
          refine am_E.ret rfl rfl ?_
          have e_ip := ip_a1 (p := p) (by assumption)
          have e_ok : ((1 ≤ nn ∧ nn ≤ 4 ∧ 0 ≤ t ∧ t ≤ nn) ∧ -1000 ≤ v ∧ v ≤ 1000) ∧ (2 ≤ p ∧ p ≤ 997) ∧ ip_ p 32 2 = 1 := by omega
          have e_nn : (n : Int) = nn := by omega
          refine ⟨_, rfl, (aq_smt (aq_sm0 (S := fun a => a < 527)) (aq_smi s_b (fun a h => by omega))), ?_, cl_h hI (j := ((nn - 1)).toNat) (by omega) (by rw [e_o]; exact aq_smi s_b (fun a h => by omega))⟩
          unfold fe_a
          rw [if_pos e_ok, e_nn]
        · refine am_E.go (t2 := (31, [vR 0, vI nn, vI t, vI v, vI p], [vI (-1)], aq_h m s F c)) rfl rfl ?_
          refine am_E.ret rfl rfl ?_
          refine ⟨_, rfl, (aq_sm0 (S := fun a => a < 527)), ?_, hI⟩
          unfold fe_a
          have e_ip := ip_a0 (p := p) (by assumption)
          rw [if_neg (by omega)]
