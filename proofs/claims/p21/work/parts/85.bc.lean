/-! Boxes: join. Printed by wip/p20/sx/gBC3.py. -/

theorem qb_join_l {m s : Nat} {F : aq_F} {c0 : aq_C} {S : Nat → Prop} {o n K : Nat} (hB : bx_0 m F o n K) (hSd : S (o + 6 + 3 * K)) (hSs : S (o + 7 + 3 * K)) {tP : Int → Int → Int} (hP : bx_p F o n K tP) {x : Int} (hx0 : 0 ≤ x) (hxK : x < (K : Int)) {y : Int} (hy0 : 0 ≤ y) (hyK : y < (K : Int)) (hfi : fi (n : Int) (tP ((x.toNat : Nat) : Int))) (hgi : fi (n : Int) (tP ((y.toNat : Nat) : Int))) (hKn : (K : Int) = bx_K (n : Int)) : ∀ (d : Nat) (p : Int) (c : aq_C) (hs : aq_sm S c0 c) (h0 : 0 ≤ p) (h1 : p ≤ 2 * (n : Int)) (hr : aq_rg (o + 6 + 3 * K) (2 * (n : Int)) 0 (2 * (n : Int)) c) (hz : ∀ i, 0 ≤ i → i < p → c (o + 6 + 3 * K) i = (fst_ (n : Int) (tP ((x.toNat : Nat) : Int)) (tP ((y.toNat : Nat) : Int))) i) (hd : 2 * (n : Int) - p < (d : Int)), am_E ac_X0_join (6, [vR o, vR (o + 2 + x.toNat), vR (o + 2 + y.toNat), vI p], [], aq_h m s F c) (aq_Z m s F S c0 (fun r d => aq_rg (o + 6 + 3 * K) (2 * (n : Int)) 0 (2 * (n : Int)) d ∧ ∃ v, r = some (vI v) ∧ 0 ≤ v ∧ v < 5000 ∧ v % 1000 < (K : Int)))
  | 0, p, c, hs, h0, h1, hr, hz, hd => by exfalso; omega
  | d + 1, p, c, hs, h0, h1, hr, hz, hd => by
    obtain ⟨hm, hn1, hn4, hK, hFo, hFd, hFs⟩ := hB
    obtain ⟨hPg, hPr, hPt⟩ := hP
    refine am_E.go (t2 := (7, [vR o, vR (o + 2 + x.toNat), vR (o + 2 + y.toNat), vI p], [vI p], aq_h m s F c)) rfl rfl ?_
    refine am_E.go (t2 := (8, [vR o, vR (o + 2 + x.toNat), vR (o + 2 + y.toNat), vI p], [vR o, vI p], aq_h m s F c)) rfl rfl ?_
    refine aq_gf (v := vI (2 * (n : Int))) rfl (by omega) hFo (by decide) rfl ?_
    show am_E _ (11, [vR o, vR (o + 2 + x.toNat), vR (o + 2 + y.toNat), vI p], [vI (2 * (n : Int)), vI p], aq_h m s F c) _
    refine ae_icmp rfl (fun (q_1 : (2 * (n : Int)) ≤ p) => ?_) (fun (q_1 : p < (2 * (n : Int))) => ?_)
    · refine am_E.go (t2 := (34, [vR o, vR (o + 2 + x.toNat), vR (o + 2 + y.toNat), vI p], [vR o], aq_h m s F c)) rfl rfl ?_
      refine am_E.go (t2 := (35, [vR o, vR (o + 2 + x.toNat), vR (o + 2 + y.toNat), vI p], [vR o, vR o], aq_h m s F c)) rfl rfl ?_
      refine aq_gf (v := vR (o + 6 + 3 * K)) rfl (by omega) hFo (by decide) rfl ?_
      show am_E _ (38, [vR o, vR (o + 2 + x.toNat), vR (o + 2 + y.toNat), vI p], [vR (o + 6 + 3 * K), vR o], aq_h m s F c) _
      refine aq_callv (y := 2) (as2 := [vR (o + 6 + 3 * K)]) (rest := []) rfl rfl (by decide) (Nat.le_of_ble_eq_true rfl) rfl rfl (Nat.le_of_ble_eq_true rfl) (by omega) hFo rfl (Nat.le_of_ble_eq_true rfl) (qn_X0_numberOf ⟨hm, hn1, hn4, hK, hFo, hFd, hFs⟩ hr) ?_
      rintro r5 h5 ⟨rfl, rfl⟩
      show am_E _ (41, [vR o, vR (o + 2 + x.toNat), vR (o + 2 + y.toNat), vI p], [vI (nu_o (c (o + 6 + 3 * K)) (2 * (n : Int)) 9 0 0 (2 * (n : Int) - 1))], aq_h m s F c) _
      have enu := nu_oc (N := 2 * (n : Int)) (fun i k0 k1 => hz i k0 (by omega)) (fun i k0 k1 => by have := hr i k0 k1; omega) 9 0 0 (2 * (n : Int) - 1) (by omega)
      have hnu := nu_fi (n := (n : Int)) (by omega) (by omega) (fi_st (n := (n : Int)) (by omega) hfi hgi)
      rw [← enu, ← hKn] at hnu
      refine am_E.go (t2 := (44, [vR o, vR (o + 2 + x.toNat), vR (o + 2 + y.toNat), vI p], [vI 1000, vI (nu_o (c (o + 6 + 3 * K)) (2 * (n : Int)) 9 0 0 (2 * (n : Int) - 1))], aq_h m s F c)) rfl rfl ?_
      refine am_E.go (t2 := (45, [vR o, vR (o + 2 + x.toNat), vR (o + 2 + y.toNat), vI p], [vR o, vI 1000, vI (nu_o (c (o + 6 + 3 * K)) (2 * (n : Int)) 9 0 0 (2 * (n : Int) - 1))], aq_h m s F c)) rfl rfl ?_
      refine am_E.go (t2 := (46, [vR o, vR (o + 2 + x.toNat), vR (o + 2 + y.toNat), vI p], [vR (o + 2 + x.toNat), vR o, vI 1000, vI (nu_o (c (o + 6 + 3 * K)) (2 * (n : Int)) 9 0 0 (2 * (n : Int) - 1))], aq_h m s F c)) rfl rfl ?_
      refine am_E.go (t2 := (47, [vR o, vR (o + 2 + x.toNat), vR (o + 2 + y.toNat), vI p], [vR (o + 2 + y.toNat), vR (o + 2 + x.toNat), vR o, vI 1000, vI (nu_o (c (o + 6 + 3 * K)) (2 * (n : Int)) 9 0 0 (2 * (n : Int) - 1))], aq_h m s F c)) rfl rfl ?_
      refine aq_callv (y := 3) (as2 := [vR (o + 2 + x.toNat), vR (o + 2 + y.toNat)]) (rest := [vI 1000, vI (nu_o (c (o + 6 + 3 * K)) (2 * (n : Int)) 9 0 0 (2 * (n : Int) - 1))]) rfl rfl (by decide) (Nat.le_of_ble_eq_true rfl) rfl rfl (Nat.le_of_ble_eq_true rfl) (by omega) hFo rfl (Nat.le_of_ble_eq_true rfl) (qb_countInnerRings (S := (fun a => a = o + 7 + 3 * K)) ⟨hm, hn1, hn4, hK, hFo, hFd, hFs⟩ rfl ⟨hPg, hPr, hPt⟩ hx0 hxK hy0 hyK) ?_
      rintro r5 h5 ⟨c_i, rfl, s_i, v_i, rfl, hv0, hv1⟩
      show am_E _ (50, [vR o, vR (o + 2 + x.toNat), vR (o + 2 + y.toNat), vI p], [vI v_i, vI 1000, vI (nu_o (c (o + 6 + 3 * K)) (2 * (n : Int)) 9 0 0 (2 * (n : Int) - 1))], aq_h m s F c_i) _
      refine ae_mul rfl (am_ri (by omega) (by omega)) ?_
      show am_E _ (51, [vR o, vR (o + 2 + x.toNat), vR (o + 2 + y.toNat), vI p], [vI (1000 * v_i), vI (nu_o (c (o + 6 + 3 * K)) (2 * (n : Int)) 9 0 0 (2 * (n : Int) - 1))], aq_h m s F c_i) _
      refine ae_add rfl (am_ri (by omega) (by omega)) ?_
      show am_E _ (52, [vR o, vR (o + 2 + x.toNat), vR (o + 2 + y.toNat), vI p], [vI ((nu_o (c (o + 6 + 3 * K)) (2 * (n : Int)) 9 0 0 (2 * (n : Int) - 1)) + (1000 * v_i))], aq_h m s F c_i) _
      refine am_E.ret rfl rfl ?_
      exact ⟨_, rfl, (aq_smt hs (aq_smi s_i (fun a h => by rw [h]; exact hSs))), (aq_rgs hr s_i (by omega)), _, rfl, by omega, by omega, by omega⟩
    · refine am_E.go (t2 := (15, [vR o, vR (o + 2 + x.toNat), vR (o + 2 + y.toNat), vI p], [vR o], aq_h m s F c)) rfl rfl ?_
      refine aq_gf (v := vR (o + 6 + 3 * K)) rfl (by omega) hFo (by decide) rfl ?_
      show am_E _ (18, [vR o, vR (o + 2 + x.toNat), vR (o + 2 + y.toNat), vI p], [vR (o + 6 + 3 * K)], aq_h m s F c) _
      refine am_E.go (t2 := (19, [vR o, vR (o + 2 + x.toNat), vR (o + 2 + y.toNat), vI p], [vI p, vR (o + 6 + 3 * K)], aq_h m s F c)) rfl rfl ?_
      refine am_E.go (t2 := (20, [vR o, vR (o + 2 + x.toNat), vR (o + 2 + y.toNat), vI p], [vR o, vI p, vR (o + 6 + 3 * K)], aq_h m s F c)) rfl rfl ?_
      refine am_E.go (t2 := (21, [vR o, vR (o + 2 + x.toNat), vR (o + 2 + y.toNat), vI p], [vR (o + 2 + x.toNat), vR o, vI p, vR (o + 6 + 3 * K)], aq_h m s F c)) rfl rfl ?_
      refine am_E.go (t2 := (22, [vR o, vR (o + 2 + x.toNat), vR (o + 2 + y.toNat), vI p], [vR (o + 2 + y.toNat), vR (o + 2 + x.toNat), vR o, vI p, vR (o + 6 + 3 * K)], aq_h m s F c)) rfl rfl ?_
      refine am_E.go (t2 := (23, [vR o, vR (o + 2 + x.toNat), vR (o + 2 + y.toNat), vI p], [vI p, vR (o + 2 + y.toNat), vR (o + 2 + x.toNat), vR o, vI p, vR (o + 6 + 3 * K)], aq_h m s F c)) rfl rfl ?_
      refine aq_callv (y := 4) (as2 := [vR (o + 2 + x.toNat), vR (o + 2 + y.toNat), vI p]) (rest := [vI p, vR (o + 6 + 3 * K)]) rfl rfl (by decide) (Nat.le_of_ble_eq_true rfl) rfl rfl (Nat.le_of_ble_eq_true rfl) (by omega) hFo rfl (Nat.le_of_ble_eq_true rfl) (qb_follow (S := (fun a => a = o + 7 + 3 * K)) ⟨hm, hn1, hn4, hK, hFo, hFd, hFs⟩ rfl ⟨hPg, hPr, hPt⟩ hx0 hxK hy0 hyK hfi hgi (by omega) (by omega)) ?_
      rintro r5 h5 ⟨c_f, rfl, s_f, rfl⟩
      show am_E _ (26, [vR o, vR (o + 2 + x.toNat), vR (o + 2 + y.toNat), vI p], [vI (fst_ (n : Int) (tP ((x.toNat : Nat) : Int)) (tP ((y.toNat : Nat) : Int)) p), vI p, vR (o + 6 + 3 * K)], aq_h m s F c_f) _
      have fp := fi_st (n := (n : Int)) (by omega) hfi hgi p (by omega) (by omega)
      refine aq_as (kd := 0) rfl rfl (by omega) hFd (by omega) (by omega) rfl rfl ?_
      show am_E _ (27, [vR o, vR (o + 2 + x.toNat), vR (o + 2 + y.toNat), vI p], [], aq_h m s F (aq_u c_f (o + 6 + 3 * K) p (fst_ (n : Int) (tP ((x.toNat : Nat) : Int)) (tP ((y.toNat : Nat) : Int)) p))) _
      generalize hdc_2 : aq_u c_f (o + 6 + 3 * K) p (fst_ (n : Int) (tP ((x.toNat : Nat) : Int)) (tP ((y.toNat : Nat) : Int)) p) = c_2
      have sc_2 := aq_smu (aq_smt hs (aq_smi s_f (fun a h => by rw [h]; exact hSs))) hdc_2 hSd
      have hdrc_2 := aq_rgu (aq_rgs hr s_f (by omega)) hdc_2 (by omega) (by omega)
      refine ae_iinc rfl rfl (am_ri (by omega) (by omega)) ?_
      show am_E _ (30, [vR o, vR (o + 2 + x.toNat), vR (o + 2 + y.toNat), vI (p + 1)], [], aq_h m s F c_2) _
      refine am_E.go (t2 := (6, [vR o, vR (o + 2 + x.toNat), vR (o + 2 + y.toNat), vI (p + 1)], [], aq_h m s F c_2)) rfl rfl ?_
      exact qb_join_l ⟨hm, hn1, hn4, hK, hFo, hFd, hFs⟩ hSd hSs ⟨hPg, hPr, hPt⟩ hx0 hxK hy0 hyK hfi hgi hKn d (p + 1) c_2 sc_2 (by omega) (by omega) hdrc_2 (aq_fl (g := (fst_ (n : Int) (tP ((x.toNat : Nat) : Int)) (tP ((y.toNat : Nat) : Int)))) (fun i h5 h6 => by rw [s_f _ (by omega)]; exact hz i h5 h6) hdc_2 rfl) (by omega)

theorem qb_join {m s : Nat} {F : aq_F} {c : aq_C} {S : Nat → Prop} {o n K : Nat} (hB : bx_0 m F o n K) (hSd : S (o + 6 + 3 * K)) (hSs : S (o + 7 + 3 * K)) {tP : Int → Int → Int} (hP : bx_p F o n K tP) {x : Int} (hx0 : 0 ≤ x) (hxK : x < (K : Int)) {y : Int} (hy0 : 0 ≤ y) (hyK : y < (K : Int)) (hfi : fi (n : Int) (tP ((x.toNat : Nat) : Int))) (hgi : fi (n : Int) (tP ((y.toNat : Nat) : Int))) (hKn : (K : Int) = bx_K (n : Int)) (hr : aq_rg (o + 6 + 3 * K) (2 * (n : Int)) 0 (2 * (n : Int)) c) : am_E ac_X0_join (0, [vR o, vR (o + 2 + x.toNat), vR (o + 2 + y.toNat), vU], [], aq_h m s F c) (aq_Z m s F S c (fun r d => aq_rg (o + 6 + 3 * K) (2 * (n : Int)) 0 (2 * (n : Int)) d ∧ ∃ v, r = some (vI v) ∧ 0 ≤ v ∧ v < 5000 ∧ v % 1000 < (K : Int))) := by
  obtain ⟨hm, hn1, hn4, hK, hFo, hFd, hFs⟩ := hB
  obtain ⟨hPg, hPr, hPt⟩ := hP
  refine am_E.go (t2 := (1, [vR o, vR (o + 2 + x.toNat), vR (o + 2 + y.toNat), vU], [vR o], aq_h m s F c)) rfl rfl ?_
  refine aq_callv (y := 1) (as2 := []) (rest := []) rfl rfl (by decide) (Nat.le_of_ble_eq_true rfl) rfl rfl (Nat.le_of_ble_eq_true rfl) (by omega) hFo rfl (Nat.le_of_ble_eq_true rfl) (qn_X0_forgetSeen ⟨hm, hn1, hn4, hK, hFo, hFd, hFs⟩) ?_
  rintro r5 h5 ⟨c_1, rfl, sc_1, rfl, hzc_1⟩
  show am_E _ (4, [vR o, vR (o + 2 + x.toNat), vR (o + 2 + y.toNat), vU], [], aq_h m s F c_1) _
  refine am_E.go (t2 := (5, [vR o, vR (o + 2 + x.toNat), vR (o + 2 + y.toNat), vU], [vI 0], aq_h m s F c_1)) rfl rfl ?_
  refine am_E.go (t2 := (6, [vR o, vR (o + 2 + x.toNat), vR (o + 2 + y.toNat), vI 0], [], aq_h m s F c_1)) rfl rfl ?_
  exact qb_join_l ⟨hm, hn1, hn4, hK, hFo, hFd, hFs⟩ hSd hSs ⟨hPg, hPr, hPt⟩ hx0 hxK hy0 hyK hfi hgi hKn 9 0 c_1 (aq_smt aq_sm0 (aq_smi sc_1 (fun a h => by rw [h]; exact hSs))) (by omega) (by omega) (aq_rgs hr sc_1 (by omega)) (fun i h5 h6 => absurd h6 (by omega)) (by omega)
